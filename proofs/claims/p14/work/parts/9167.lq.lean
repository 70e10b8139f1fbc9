/-! part lq: the class over logical cells: fits, little -/
set_option maxRecDepth 40000 in
/-- a place of a row's little is changed -/
theorem zRc8_l {V : Nat → Nat → Int} {R : Nat → Int} {p : Nat} {v : Int} (hpξ : p < 6) (h : ∀ j, j ≠ 3 * p + 13 → zRc V 8 56 j = R j) : zRc (zp_set V 57 (2000 + p) v) 8 56 = yu R (3 * p + 13) v := by
  funext j
  by_cases e : j = 3 * p + 13
  · subst e
    rw [yu_at]
    exact (zRc_l hpξ).trans zp_set_self
  · rw [yu_ne e, ← h j e]
    unfold zRc
    repeat' (refine zite (fun _ => ?_) (fun _ => ?_))
    all_goals first | exact zp_set_ne (Or.inl (by omega)) | exact zp_set_ne (Or.inr (by omega))
theorem zN8_9 {o : Nat} (h : zN8 o) : o ∉ ([8, 56, 57, 58] : List Nat) := fun hmξ => by
  have h9ξ : o = 8 ∨ o = 56 ∨ o = 57 ∨ o = 58 := by simpa using hmξ
  unfold zN8 at h
  omega
noncomputable def zK_asss : zk_K := (zt_mn 155, prog_2_method_15_code, 4, (Option.some Jvm.ClassFile.FieldType.boolean), 1, 0, [(2, 0, 0, 0)], [(some (0, 0, 0, 1), [])], [(27, 1001, 0), (28, 1001, 0), (15, 1001, 0), (16, 1001, 0)], (5, 300, 0, 0))
noncomputable def zφ_asss (A : Nat → Nat) (Y : List (Nat × Nat)) (F : List (Nat × Nat × Nat)) (M : Nat → Nat → Int) (V : Nat → Nat → Int) (n1ξ npξ : Nat) (t0ξ : Int) (Lwξ : List yK) (nsξ : Nat) : (Nat → Option Nat) → (Nat → Nat → Int) → List Int → Prop := fun P G ps => zM A Y F M P G ∧ ps.getD 0 0 = (A 5 : Int) ∧ zMc Y F ∧ (∀ o k, zNc o → M o k = V o k) ∧ zDst A Y F V Lwξ 2 50 t0ξ (zd_hr (zRc V 2 50) n1ξ npξ (zd_sp (zRc V 2 50) Lwξ t0ξ) (zd_ru (zRc V 2 50) Lwξ t0ξ) t0ξ 0) M ∧ zc_ok V 2 50 n1ξ npξ ∧ 0 ≤ t0ξ ∧ t0ξ ≤ 12 ∧ zSg (zRc V 2 50) n1ξ nsξ
noncomputable def zψ_asss (A : Nat → Nat) (Y : List (Nat × Nat)) (F : List (Nat × Nat × Nat)) (M : Nat → Nat → Int) (V : Nat → Nat → Int) (n1ξ npξ : Nat) (t0ξ : Int) (Lwξ : List yK) (nsξ : Nat) : (Nat → Option Nat) → (Nat → Nat → Int) → List Int → (Nat → Option Nat) → (Nat → Nat → Int) → Int → Prop := fun P G ps P' G' rn => P' = P ∧ ∃ M' : Nat → Nat → Int, zM A Y F M' P' G' ∧ (∀ o k, zNc o → M' o k = V o k) ∧ (rn = 1 ↔ zq_so (zRc V 2 50) n1ξ npξ Lwξ t0ξ nsξ = true)
theorem zX_asss {l : Launch} {w : zk_W} (hWξ : zh_W w) (A : Nat → Nat) (Y : List (Nat × Nat)) (F : List (Nat × Nat × Nat)) (M : Nat → Nat → Int) (V : Nat → Nat → Int) (n1ξ npξ : Nat) (t0ξ : Int) (Lwξ : List yK) (nsξ : Nat) : zk_metX l w zt_dv zt_TB zK_asss (zp_A (zφ_asss A Y F M V n1ξ npξ t0ξ Lwξ nsξ)) (zp_B (zψ_asss A Y F M V n1ξ npξ t0ξ Lwξ nsξ)) ∧ zk_cok w zt_TB zK_asss := by
  refine zp_methX (cn := "WoundTown$Day") zp_lkallDy hWξ (pl := 1219) rfl (by decide +kernel) (fun p e R s m args below meth c Q u hx hb hEξ hQξ hU5ξ heffξ hnLξ hokξ hφ => ?_)
  have hwξ := hWξ.1
  obtain ⟨p0ξ, hpsξ, tk0⟩ := zp_ps1 hokξ
  have hrmξ : zk_Kr (zk_ev (zt_types, zp_lkDy, zt_dv, [], [], zp_lcDy, zK_asss)) = zk_Kr zK_asss := rfl
  rw [hpsξ] at hφ ⊢
  have hφ : zM A Y F M u.1 (zp_n u.2.1) ∧ p0ξ = (A 5 : Int) ∧ zMc Y F ∧ (∀ o k, zNc o → M o k = V o k) ∧ zDst A Y F V Lwξ 2 50 t0ξ (zd_hr (zRc V 2 50) n1ξ npξ (zd_sp (zRc V 2 50) Lwξ t0ξ) (zd_ru (zRc V 2 50) Lwξ t0ξ) t0ξ 0) M ∧ zc_ok V 2 50 n1ξ npξ ∧ 0 ≤ t0ξ ∧ t0ξ ≤ 12 ∧ zSg (zRc V 2 50) n1ξ nsξ := hφ
  obtain ⟨hMξ, rfl, hYFξ, hV0ξ, hDs0ξ, hokξ, ht0ξ, ht12ξ, hsgξ⟩ := hφ
  have hYF0ξ := hYFξ
  obtain ⟨hYbξ, hFbξ, hFxξ, -⟩ := hYFξ
  show zp_J p l e R s m args below meth c Q w u [] 0 [(0, 2, (A 5 : Int))] [] u.1 (zp_n u.2.1)
  have hM00ξ := hMξ
  obtain ⟨hn10ξ, hnp6ξ, hn1ξ, hnpξ, hDwξ, hDpξ⟩ := hokξ.1
  have hn1ξ : V 1 3 = (n1ξ : Int) := hn1ξ
  have hnpξ : V 1 1 = (npξ : Int) := hnpξ
  have hns8ξ := hsgξ.1
  have hnsξ : V 1 9 = (nsξ : Int) := hsgξ.2.1
  have hE0ξ : ∀ s, zRc V 2 50 (3 * s + 153) = V 37 (2000 + s) := fun s => zRc_s (i := 0) (by decide)
  have hE1ξ : ∀ s, zRc V 2 50 (3 * s + 154) = V 38 (2000 + s) := fun s => zRc_s (i := 1) (by decide)
  have hE2ξ : ∀ s, zRc V 2 50 (3 * s + 155) = V 39 (2000 + s) := fun s => zRc_s (i := 2) (by decide)
  have hsvξ : ∀ s, s < nsξ → (0 ≤ V 37 (2000 + s) ∧ V 37 (2000 + s) < (n1ξ : Int)) ∧ 0 ≤ V 38 (2000 + s) ∧ V 38 (2000 + s) ≤ 23 := fun s hsξ => by
    have h9ξ := hsgξ.2.2 s hsξ
    rw [hE0ξ, hE1ξ] at h9ξ
    exact h9ξ
  have hsoeξ : zq_so (zRc V 2 50) n1ξ npξ Lwξ t0ξ nsξ = true ↔ ∀ s, s < nsξ → (zd_hr (zRc V 2 50) n1ξ npξ (zd_sp (zRc V 2 50) Lwξ t0ξ) (zd_ru (zRc V 2 50) Lwξ t0ξ) t0ξ ((V 38 (2000 + s)).toNat + 1)).1 (V 37 (2000 + s)).toNat = V 39 (2000 + s) := by
    rw [zq_so_t]
    refine ⟨fun h9ξ s hsξ => ?_, fun h9ξ s hsξ => ?_⟩
    · have h8ξ := h9ξ s hsξ
      rw [hE0ξ, hE1ξ, hE2ξ] at h8ξ
      exact h8ξ
    · rw [hE0ξ, hE1ξ, hE2ξ]
      exact h9ξ s hsξ
  have loop : ∀ (r9ξ h9ξ : Nat) (M : Nat → Nat → Int) (G : Nat → Nat → Int), r9ξ + h9ξ = 24 → zM A Y F M u.1 G → (∀ o k, zNc o → M o k = V o k) → zDst A Y F V Lwξ 2 50 t0ξ (zd_hr (zRc V 2 50) n1ξ npξ (zd_sp (zRc V 2 50) Lwξ t0ξ) (zd_ru (zRc V 2 50) Lwξ t0ξ) t0ξ h9ξ) M → (∀ s, s < nsξ → V 38 (2000 + s) < (h9ξ : Int) → (zd_hr (zRc V 2 50) n1ξ npξ (zd_sp (zRc V 2 50) Lwξ t0ξ) (zd_ru (zRc V 2 50) Lwξ t0ξ) t0ξ ((V 38 (2000 + s)).toNat + 1)).1 (V 37 (2000 + s)).toNat = V 39 (2000 + s)) → zp_J p l e R s m args below meth c Q w u [] 2 [(1, 0, (h9ξ : Int)), (0, 2, (A 5 : Int))] [] u.1 G := by
    intro r9ξ
    induction r9ξ with
    | zero =>
      intro h9ξ M G hrξ hMξ hVξ hDsξ hsoξ
      refine zp_load (pc := 2) hx hb (zd_X0_areSightsSo (2, .iload_n 1, 1, 0, []) (List.mem_of_getElem? (i := 2) rfl)) rfl (j := 0) rfl ?_
      refine zp_const (pc := 3) hx hb (zd_X0_areSightsSo (3, .bipush 24, 2, 0, []) (List.mem_of_getElem? (i := 3) rfl)) rfl rfl ?_
      refine zp_icmp (pc := 5) (tgt := 98) hx hb (zd_X0_areSightsSo (5, .if_icmp .ge 93, 3, 0, []) (List.mem_of_getElem? (i := 4) rfl)) rfl (fun (hc699ξ : 24 ≤ (h9ξ : Int)) => ?_) (fun (hc699ξ : ¬ (24 ≤ (h9ξ : Int))) => ?_)
      · refine zp_const (pc := 98) hx hb (zd_X0_areSightsSo (98, .iconst 1, 1, 0, []) (List.mem_of_getElem? (i := 52) rfl)) rfl rfl ?_
        refine zp_zret (pc := 99) (n := 1) hx hb hEξ hQξ hU5ξ rfl (by decide) (zd_X0_areSightsSo (99, .ireturn, 1, 0, []) (List.mem_of_getElem? (i := 53) rfl)) (j := 0) rfl (zp_o0 (by omega) (by omega) (by omega) (by omega)) ?_
        rw [hpsξ]
        refine ⟨rfl, M, hMξ, ?_⟩
        refine ⟨hVξ, fun _ => ?_, fun _ => rfl⟩
        refine (Iff.mpr hsoeξ) (fun s hsξ => hsoξ s hsξ ?_)
        have h8ξ := hsvξ s hsξ
        omega
      · exfalso
        omega
    | succ r9ξ ih =>
      intro h9ξ M G hrξ hMξ hVξ hDsξ hsoξ
      refine zp_load (pc := 2) hx hb (zd_X0_areSightsSo (2, .iload_n 1, 1, 0, []) (List.mem_of_getElem? (i := 2) rfl)) rfl (j := 0) rfl ?_
      refine zp_const (pc := 3) hx hb (zd_X0_areSightsSo (3, .bipush 24, 2, 0, []) (List.mem_of_getElem? (i := 3) rfl)) rfl rfl ?_
      refine zp_icmp (pc := 5) (tgt := 98) hx hb (zd_X0_areSightsSo (5, .if_icmp .ge 93, 3, 0, []) (List.mem_of_getElem? (i := 4) rfl)) rfl (fun (hc700ξ : 24 ≤ (h9ξ : Int)) => ?_) (fun (hc700ξ : ¬ (24 ≤ (h9ξ : Int))) => ?_)
      · exfalso
        omega
      · refine zp_load (pc := 8) hx hb (zd_X0_areSightsSo (8, .aload_n 0, 1, 0, []) (List.mem_of_getElem? (i := 5) rfl)) rfl (j := 1) rfl ?_
        refine zp_load (pc := 9) hx hb (zd_X0_areSightsSo (9, .iload_n 1, 1, 0, []) (List.mem_of_getElem? (i := 6) rfl)) rfl (j := 0) rfl ?_
        refine zp_call (pc := 10) (how := 0) (idx := 69) (mi := 108) (S := []) hx hb hEξ hwξ heffξ hrmξ (zX_psh2 hWξ A Y F M V n1ξ npξ t0ξ Lwξ h9ξ) rfl (j := 4) rfl rfl (by decide +kernel) (zd_X0_areSightsSo (10, .invokevirtual 69, 3, 0, []) (List.mem_of_getElem? (i := 7) rfl)) [(A 5 : Int), (h9ξ : Int)] rfl ⟨zp_o2 (zM_P hMξ (hYbξ _ (List.mem_of_getElem? (i := 5) rfl))), zp_o0 (by omega) (by omega) (by omega) (by omega), trivial⟩ (Nat.le_of_ble_eq_true rfl) ⟨hMξ, rfl, hYF0ξ, hVξ, hDsξ, rfl, by omega, hokξ, ht0ξ, ht12ξ⟩ (fun al halξ rnps Pps Gps hextpsξ hfrpsξ hokpsξ hcspsξ hpsipsξ => ?_)
        obtain rfl := List.mem_singleton.mp halξ
        obtain ⟨hPepsξ, Mps, hMpsξ, hVpsξ, hDspsξ⟩ := hpsipsξ
        subst hPepsξ
        clear hextpsξ hfrpsξ hokpsξ hcspsξ
        have hDs1ξ := hDspsξ
        obtain ⟨X, hXeξ⟩ : ∃ X, X = zd_hr (zRc V 2 50) n1ξ npξ (zd_sp (zRc V 2 50) Lwξ t0ξ) (zd_ru (zRc V 2 50) Lwξ t0ξ) t0ξ (h9ξ + 1) := ⟨_, rfl⟩
        rw [← hXeξ] at hDspsξ
        obtain ⟨hAbξ, ⟨h51ξ, h52ξ⟩, hpwξ, hXξ⟩ := hDspsξ
        refine zp_const (pc := 13) hx hb (zd_X0_areSightsSo (13, .iconst 0, 1, 0, []) (List.mem_of_getElem? (i := 8) rfl)) rfl rfl ?_
        refine zp_store (L' := [(2, 0, 0), (1, 0, (h9ξ : Int)), (0, 2, (A 5 : Int))]) (pc := 14) hx hb hnLξ (zd_X0_areSightsSo (14, .istore_n 2, 1, 0, []) (List.mem_of_getElem? (i := 9) rfl)) rfl rfl rfl ?_
        have loops : ∀ (q9ξ s9ξ : Nat), q9ξ + s9ξ = nsξ → (∀ s, s < s9ξ → V 38 (2000 + s) = (h9ξ : Int) → (zd_hr (zRc V 2 50) n1ξ npξ (zd_sp (zRc V 2 50) Lwξ t0ξ) (zd_ru (zRc V 2 50) Lwξ t0ξ) t0ξ ((V 38 (2000 + s)).toNat + 1)).1 (V 37 (2000 + s)).toNat = V 39 (2000 + s)) → zp_J p l e R s m args below meth c Q w u [] 15 [(2, 0, (s9ξ : Int)), (1, 0, (h9ξ : Int)), (0, 2, (A 5 : Int))] [] u.1 Gps := by
          intro q9ξ
          induction q9ξ with
          | zero =>
            intro s9ξ hqξ hinξ
            refine zp_load (pc := 15) hx hb (zd_X0_areSightsSo (15, .iload_n 2, 1, 0, []) (List.mem_of_getElem? (i := 10) rfl)) rfl (j := 0) rfl ?_
            refine zp_load (pc := 16) hx hb (zd_X0_areSightsSo (16, .aload_n 0, 1, 0, []) (List.mem_of_getElem? (i := 11) rfl)) rfl (j := 2) rfl ?_
            refine zp_getf (n := (A 1 : Int)) (pc := 17) hx hb hEξ hwξ (zd_X0_areSightsSo (17, .getfield 25, 3, 0, []) (List.mem_of_getElem? (i := 12) rfl)) (j := 18) rfl rfl rfl (zM_P hMpsξ (hYbξ _ (List.mem_of_getElem? (i := 5) rfl))) ((zM_G hMpsξ (hYbξ _ (List.mem_of_getElem? (i := 5) rfl)) 1).trans h51ξ) ?_
            refine zp_getf (n := (nsξ : Int)) (pc := 20) hx hb hEξ hwξ (zd_X0_areSightsSo (20, .getfield 141, 3, 0, []) (List.mem_of_getElem? (i := 13) rfl)) (j := 11) rfl rfl rfl (zM_P hMpsξ (hYbξ _ (List.mem_of_getElem? (i := 1) rfl))) (((zM_G hMpsξ (hYbξ _ (List.mem_of_getElem? (i := 1) rfl)) 9).trans (hVpsξ 1 9 (by decide))).trans hnsξ) ?_
            refine zp_icmp (pc := 23) (tgt := 92) hx hb (zd_X0_areSightsSo (23, .if_icmp .ge 69, 3, 0, []) (List.mem_of_getElem? (i := 14) rfl)) rfl (fun (hc701ξ : (nsξ : Int) ≤ (s9ξ : Int)) => ?_) (fun (hc701ξ : ¬ ((nsξ : Int) ≤ (s9ξ : Int))) => ?_)
            · refine zp_iinc (L' := [(1, 0, ((h9ξ : Int) + 1)), (2, 0, (s9ξ : Int)), (0, 2, (A 5 : Int))]) (n := ((h9ξ : Int) + 1)) (pc := 92) hx hb hnLξ (zd_X0_areSightsSo (92, .iinc 1 1, 3, 0, []) (List.mem_of_getElem? (i := 50) rfl)) (j := 1) rfl (by omega) (zp_r0 (by omega) (by omega)) rfl rfl ?_
              refine zp_goto (tgt := 2) (pc := 95) hx hb (zd_X0_areSightsSo (95, .goto (-93), 3, 0, []) (List.mem_of_getElem? (i := 51) rfl)) rfl ?_
              refine zp_drop (L' := [(1, 0, ((h9ξ : Int) + 1)), (0, 2, (A 5 : Int))]) (by simp) ?_
              refine ih (h9ξ + 1) Mps Gps (by omega) hMpsξ hVpsξ hDs1ξ (fun s hsξ hlξ => ?_)
              by_cases e9ξ : V 38 (2000 + s) = (h9ξ : Int)
              · exact hinξ s (by omega) e9ξ
              · exact hsoξ s hsξ (by omega)
            · exfalso
              omega
          | succ q9ξ ihs =>
            intro s9ξ hqξ hinξ
            have hs9ξ := hsvξ s9ξ (by omega)
            refine zp_load (pc := 15) hx hb (zd_X0_areSightsSo (15, .iload_n 2, 1, 0, []) (List.mem_of_getElem? (i := 10) rfl)) rfl (j := 0) rfl ?_
            refine zp_load (pc := 16) hx hb (zd_X0_areSightsSo (16, .aload_n 0, 1, 0, []) (List.mem_of_getElem? (i := 11) rfl)) rfl (j := 2) rfl ?_
            refine zp_getf (n := (A 1 : Int)) (pc := 17) hx hb hEξ hwξ (zd_X0_areSightsSo (17, .getfield 25, 3, 0, []) (List.mem_of_getElem? (i := 12) rfl)) (j := 18) rfl rfl rfl (zM_P hMpsξ (hYbξ _ (List.mem_of_getElem? (i := 5) rfl))) ((zM_G hMpsξ (hYbξ _ (List.mem_of_getElem? (i := 5) rfl)) 1).trans h51ξ) ?_
            refine zp_getf (n := (nsξ : Int)) (pc := 20) hx hb hEξ hwξ (zd_X0_areSightsSo (20, .getfield 141, 3, 0, []) (List.mem_of_getElem? (i := 13) rfl)) (j := 11) rfl rfl rfl (zM_P hMpsξ (hYbξ _ (List.mem_of_getElem? (i := 1) rfl))) (((zM_G hMpsξ (hYbξ _ (List.mem_of_getElem? (i := 1) rfl)) 9).trans (hVpsξ 1 9 (by decide))).trans hnsξ) ?_
            refine zp_icmp (pc := 23) (tgt := 92) hx hb (zd_X0_areSightsSo (23, .if_icmp .ge 69, 3, 0, []) (List.mem_of_getElem? (i := 14) rfl)) rfl (fun (hc702ξ : (nsξ : Int) ≤ (s9ξ : Int)) => ?_) (fun (hc702ξ : ¬ ((nsξ : Int) ≤ (s9ξ : Int))) => ?_)
            · exfalso
              omega
            · refine zp_load (pc := 26) hx hb (zd_X0_areSightsSo (26, .iload_n 2, 1, 0, []) (List.mem_of_getElem? (i := 15) rfl)) rfl (j := 0) rfl ?_
              refine zp_const (pc := 27) hx hb (zd_X0_areSightsSo (27, .bipush 8, 2, 0, []) (List.mem_of_getElem? (i := 16) rfl)) rfl rfl ?_
              refine zp_icmp (pc := 29) (tgt := 92) hx hb (zd_X0_areSightsSo (29, .if_icmp .ge 63, 3, 0, []) (List.mem_of_getElem? (i := 17) rfl)) rfl (fun (hc703ξ : 8 ≤ (s9ξ : Int)) => ?_) (fun (hc703ξ : ¬ (8 ≤ (s9ξ : Int))) => ?_)
              · exfalso
                omega
              · refine zp_load (pc := 32) hx hb (zd_X0_areSightsSo (32, .aload_n 0, 1, 0, []) (List.mem_of_getElem? (i := 18) rfl)) rfl (j := 2) rfl ?_
                refine zp_getf (n := (A 1 : Int)) (pc := 33) hx hb hEξ hwξ (zd_X0_areSightsSo (33, .getfield 25, 3, 0, []) (List.mem_of_getElem? (i := 19) rfl)) (j := 18) rfl rfl rfl (zM_P hMpsξ (hYbξ _ (List.mem_of_getElem? (i := 5) rfl))) ((zM_G hMpsξ (hYbξ _ (List.mem_of_getElem? (i := 5) rfl)) 1).trans h51ξ) ?_
                refine zp_getf (n := (A 37 : Int)) (pc := 36) hx hb hEξ hwξ (zd_X0_areSightsSo (36, .getfield 144, 3, 0, []) (List.mem_of_getElem? (i := 20) rfl)) (j := 12) rfl rfl rfl (zM_P hMpsξ (hYbξ _ (List.mem_of_getElem? (i := 1) rfl))) ((zM_G hMpsξ (hYbξ _ (List.mem_of_getElem? (i := 1) rfl)) 10).trans (zM_F hMpsξ (hFbξ _ (List.mem_of_getElem? (i := 20) rfl)))) ?_
                refine zp_load (pc := 39) hx hb (zd_X0_areSightsSo (39, .iload_n 2, 1, 0, []) (List.mem_of_getElem? (i := 21) rfl)) rfl (j := 0) rfl ?_
                refine zp_iald (j := s9ξ) (v := (V 37 (2000 + s9ξ))) (pc := 40) hx hb hwξ (zd_X0_areSightsSo (40, .iaload, 1, 0, []) (List.mem_of_getElem? (i := 22) rfl)) (show zp_ia 1 49 = some (8, 0, 0, (-2147483648), 2147483647) from rfl) (zM_P hMpsξ (hYbξ _ (List.mem_of_getElem? (i := 24) rfl))) (by omega) (by omega) ((zM_G hMpsξ (hYbξ _ (List.mem_of_getElem? (i := 24) rfl)) (2000 + s9ξ)).trans (hVpsξ 37 (2000 + s9ξ) (by decide))) (fun hk704ξ => ?_)
                have hk704bξ := zp_int hk704ξ
                clear hk704ξ
                refine zp_store (L' := [(3, 0, (V 37 (2000 + s9ξ))), (2, 0, (s9ξ : Int)), (1, 0, (h9ξ : Int)), (0, 2, (A 5 : Int))]) (pc := 41) hx hb hnLξ (zd_X0_areSightsSo (41, .istore_n 3, 1, 0, []) (List.mem_of_getElem? (i := 23) rfl)) rfl rfl rfl ?_
                refine zp_load (pc := 42) hx hb (zd_X0_areSightsSo (42, .aload_n 0, 1, 0, []) (List.mem_of_getElem? (i := 24) rfl)) rfl (j := 3) rfl ?_
                refine zp_getf (n := (A 1 : Int)) (pc := 43) hx hb hEξ hwξ (zd_X0_areSightsSo (43, .getfield 25, 3, 0, []) (List.mem_of_getElem? (i := 25) rfl)) (j := 18) rfl rfl rfl (zM_P hMpsξ (hYbξ _ (List.mem_of_getElem? (i := 5) rfl))) ((zM_G hMpsξ (hYbξ _ (List.mem_of_getElem? (i := 5) rfl)) 1).trans h51ξ) ?_
                refine zp_getf (n := (A 38 : Int)) (pc := 46) hx hb hEξ hwξ (zd_X0_areSightsSo (46, .getfield 147, 3, 0, []) (List.mem_of_getElem? (i := 26) rfl)) (j := 13) rfl rfl rfl (zM_P hMpsξ (hYbξ _ (List.mem_of_getElem? (i := 1) rfl))) ((zM_G hMpsξ (hYbξ _ (List.mem_of_getElem? (i := 1) rfl)) 11).trans (zM_F hMpsξ (hFbξ _ (List.mem_of_getElem? (i := 21) rfl)))) ?_
                refine zp_load (pc := 49) hx hb (zd_X0_areSightsSo (49, .iload_n 2, 1, 0, []) (List.mem_of_getElem? (i := 27) rfl)) rfl (j := 1) rfl ?_
                refine zp_iald (j := s9ξ) (v := (V 38 (2000 + s9ξ))) (pc := 50) hx hb hwξ (zd_X0_areSightsSo (50, .iaload, 1, 0, []) (List.mem_of_getElem? (i := 28) rfl)) (show zp_ia 1 50 = some (8, 0, 0, (-2147483648), 2147483647) from rfl) (zM_P hMpsξ (hYbξ _ (List.mem_of_getElem? (i := 25) rfl))) (by omega) (by omega) ((zM_G hMpsξ (hYbξ _ (List.mem_of_getElem? (i := 25) rfl)) (2000 + s9ξ)).trans (hVpsξ 38 (2000 + s9ξ) (by decide))) (fun hk705ξ => ?_)
                have hk705bξ := zp_int hk705ξ
                clear hk705ξ
                refine zp_load (pc := 51) hx hb (zd_X0_areSightsSo (51, .iload_n 1, 1, 0, []) (List.mem_of_getElem? (i := 29) rfl)) rfl (j := 2) rfl ?_
                refine zp_icmp (pc := 52) (tgt := 86) hx hb (zd_X0_areSightsSo (52, .if_icmp .ne 34, 3, 0, []) (List.mem_of_getElem? (i := 30) rfl)) rfl (fun (hc706ξ : ¬ (V 38 (2000 + s9ξ)) = (h9ξ : Int)) => ?_) (fun (hc706ξ : ¬ (¬ (V 38 (2000 + s9ξ)) = (h9ξ : Int))) => ?_)
                · refine zp_iinc (L' := [(2, 0, ((s9ξ : Int) + 1)), (3, 0, (V 37 (2000 + s9ξ))), (1, 0, (h9ξ : Int)), (0, 2, (A 5 : Int))]) (n := ((s9ξ : Int) + 1)) (pc := 86) hx hb hnLξ (zd_X0_areSightsSo (86, .iinc 2 1, 3, 0, []) (List.mem_of_getElem? (i := 48) rfl)) (j := 1) rfl (by omega) (zp_r0 (by omega) (by omega)) rfl rfl ?_
                  refine zp_goto (tgt := 15) (pc := 89) hx hb (zd_X0_areSightsSo (89, .goto (-74), 3, 0, []) (List.mem_of_getElem? (i := 49) rfl)) rfl ?_
                  refine zp_drop (L' := [(2, 0, ((s9ξ : Int) + 1)), (1, 0, (h9ξ : Int)), (0, 2, (A 5 : Int))]) (by simp) ?_
                  refine ihs (s9ξ + 1) (by omega) (fun s hsξ heξ => ?_)
                  by_cases e9ξ : s = s9ξ
                  · rw [e9ξ] at heξ
                    exact absurd heξ (by omega)
                  · exact hinξ s (by omega) heξ
                · refine zp_load (pc := 55) hx hb (zd_X0_areSightsSo (55, .aload_n 0, 1, 0, []) (List.mem_of_getElem? (i := 31) rfl)) rfl (j := 3) rfl ?_
                  refine zp_getf (n := (A 1 : Int)) (pc := 56) hx hb hEξ hwξ (zd_X0_areSightsSo (56, .getfield 25, 3, 0, []) (List.mem_of_getElem? (i := 32) rfl)) (j := 18) rfl rfl rfl (zM_P hMpsξ (hYbξ _ (List.mem_of_getElem? (i := 5) rfl))) ((zM_G hMpsξ (hYbξ _ (List.mem_of_getElem? (i := 5) rfl)) 1).trans h51ξ) ?_
                  refine zp_load (pc := 59) hx hb (zd_X0_areSightsSo (59, .iload_n 3, 1, 0, []) (List.mem_of_getElem? (i := 33) rfl)) rfl (j := 0) rfl ?_
                  refine zp_call (pc := 60) (how := 0) (idx := 119) (mi := 26) (S := []) hx hb hEξ hwξ heffξ hrmξ (zX_hwo1 hWξ A Y F Mps) rfl (j := 7) rfl rfl (by decide +kernel) (zd_X0_areSightsSo (60, .invokevirtual 119, 3, 0, []) (List.mem_of_getElem? (i := 34) rfl)) [(A 1 : Int), (V 37 (2000 + s9ξ))] rfl ⟨zp_o2 (zM_P hMpsξ (hYbξ _ (List.mem_of_getElem? (i := 1) rfl))), zp_o0 (by omega) (by omega) (by omega) (by omega), trivial⟩ (Nat.le_of_ble_eq_true rfl) ⟨hMpsξ, rfl, hYF0ξ⟩ (fun al halξ rni707ξ Pi707 Gi707 hexti707ξ hfri707ξ hoki707ξ hcsi707ξ hpsii707ξ => ?_)
                  obtain rfl := List.mem_singleton.mp halξ
                  have hri707ξ := zp_int (hoki707ξ _ rfl).1
                  obtain ⟨hPei707ξ, hGei707ξ, hti707ξ⟩ := hpsii707ξ
                  rw [hPei707ξ, hGei707ξ]
                  clear hexti707ξ hfri707ξ hcsi707ξ hPei707ξ hGei707ξ
                  have hti707ξ : rni707ξ = 1 ↔ 0 ≤ (V 37 (2000 + s9ξ)) ∧ (V 37 (2000 + s9ξ)) < (n1ξ : Int) ∧ (V 37 (2000 + s9ξ)) < 10 := by
                    have h9ξ : rni707ξ = 1 ↔ 0 ≤ (V 37 (2000 + s9ξ)) ∧ (V 37 (2000 + s9ξ)) < Mps 1 3 ∧ (V 37 (2000 + s9ξ)) < 10 := hti707ξ
                    rw [((hVpsξ 1 3 (by decide)).trans hn1ξ)] at h9ξ
                    exact h9ξ
                  have hrw9ξ : rni707ξ = 1 := (Iff.mpr hti707ξ) ⟨by omega, by omega, by omega⟩
                  refine zp_if (pc := 63) (tgt := 86) hx hb (zd_X0_areSightsSo (63, .ifCond .eq 23, 3, 0, []) (List.mem_of_getElem? (i := 35) rfl)) rfl (fun (hc708ξ : rni707ξ = 0) => ?_) (fun (hc708ξ : ¬ (rni707ξ = 0)) => ?_)
                  · have hbf709ξ : ¬ (0 ≤ (V 37 (2000 + s9ξ)) ∧ (V 37 (2000 + s9ξ)) < (n1ξ : Int) ∧ (V 37 (2000 + s9ξ)) < 10) := fun h9ξ => absurd ((Iff.mpr hti707ξ) h9ξ) (by omega)
                    exfalso
                    omega
                  · have hbt710ξ := (Iff.mp hti707ξ) (by omega)
                    refine zp_load (pc := 66) hx hb (zd_X0_areSightsSo (66, .aload_n 0, 1, 0, []) (List.mem_of_getElem? (i := 36) rfl)) rfl (j := 3) rfl ?_
                    refine zp_getf (n := (A 69 : Int)) (pc := 67) hx hb hEξ hwξ (zd_X0_areSightsSo (67, .getfield 15, 3, 0, []) (List.mem_of_getElem? (i := 37) rfl)) (j := 21) rfl rfl rfl (zM_P hMpsξ (hYbξ _ (List.mem_of_getElem? (i := 5) rfl))) ((zM_G hMpsξ (hYbξ _ (List.mem_of_getElem? (i := 5) rfl)) 4).trans (zM_F hMpsξ (hFbξ _ (List.mem_of_getElem? (i := 45) rfl)))) ?_
                    refine zp_load (pc := 70) hx hb (zd_X0_areSightsSo (70, .iload_n 3, 1, 0, []) (List.mem_of_getElem? (i := 38) rfl)) rfl (j := 0) rfl ?_
                    refine zp_iald (j := (V 37 (2000 + s9ξ)).toNat) (v := (X.1 (V 37 (2000 + s9ξ)).toNat)) (pc := 71) hx hb hwξ (zd_X0_areSightsSo (71, .iaload, 1, 0, []) (List.mem_of_getElem? (i := 39) rfl)) (show zp_ia 1 15 = some (10, 0, 0, (-2147483648), 2147483647) from rfl) (zM_P hMpsξ (hYbξ _ (List.mem_of_getElem? (i := 47) rfl))) (by omega) (by omega) ((zM_G hMpsξ (hYbξ _ (List.mem_of_getElem? (i := 47) rfl)) (2000 + (V 37 (2000 + s9ξ)).toNat)).trans (hXξ (V 37 (2000 + s9ξ)).toNat (by omega)).1) (fun hk711ξ => ?_)
                    have hk711bξ := zp_int hk711ξ
                    clear hk711ξ
                    refine zp_load (pc := 72) hx hb (zd_X0_areSightsSo (72, .aload_n 0, 1, 0, []) (List.mem_of_getElem? (i := 40) rfl)) rfl (j := 3) rfl ?_
                    refine zp_getf (n := (A 1 : Int)) (pc := 73) hx hb hEξ hwξ (zd_X0_areSightsSo (73, .getfield 25, 3, 0, []) (List.mem_of_getElem? (i := 41) rfl)) (j := 18) rfl rfl rfl (zM_P hMpsξ (hYbξ _ (List.mem_of_getElem? (i := 5) rfl))) ((zM_G hMpsξ (hYbξ _ (List.mem_of_getElem? (i := 5) rfl)) 1).trans h51ξ) ?_
                    refine zp_getf (n := (A 39 : Int)) (pc := 76) hx hb hEξ hwξ (zd_X0_areSightsSo (76, .getfield 150, 3, 0, []) (List.mem_of_getElem? (i := 42) rfl)) (j := 14) rfl rfl rfl (zM_P hMpsξ (hYbξ _ (List.mem_of_getElem? (i := 1) rfl))) ((zM_G hMpsξ (hYbξ _ (List.mem_of_getElem? (i := 1) rfl)) 12).trans (zM_F hMpsξ (hFbξ _ (List.mem_of_getElem? (i := 22) rfl)))) ?_
                    refine zp_load (pc := 79) hx hb (zd_X0_areSightsSo (79, .iload_n 2, 1, 0, []) (List.mem_of_getElem? (i := 43) rfl)) rfl (j := 1) rfl ?_
                    refine zp_iald (j := s9ξ) (v := (V 39 (2000 + s9ξ))) (pc := 80) hx hb hwξ (zd_X0_areSightsSo (80, .iaload, 1, 0, []) (List.mem_of_getElem? (i := 44) rfl)) (show zp_ia 1 51 = some (8, 0, 0, (-2147483648), 2147483647) from rfl) (zM_P hMpsξ (hYbξ _ (List.mem_of_getElem? (i := 26) rfl))) (by omega) (by omega) ((zM_G hMpsξ (hYbξ _ (List.mem_of_getElem? (i := 26) rfl)) (2000 + s9ξ)).trans (hVpsξ 39 (2000 + s9ξ) (by decide))) (fun hk712ξ => ?_)
                    have hk712bξ := zp_int hk712ξ
                    clear hk712ξ
                    refine zp_icmp (pc := 81) (tgt := 86) hx hb (zd_X0_areSightsSo (81, .if_icmp .eq 5, 3, 0, []) (List.mem_of_getElem? (i := 45) rfl)) rfl (fun (hc713ξ : (X.1 (V 37 (2000 + s9ξ)).toNat) = (V 39 (2000 + s9ξ))) => ?_) (fun (hc713ξ : ¬ ((X.1 (V 37 (2000 + s9ξ)).toNat) = (V 39 (2000 + s9ξ)))) => ?_)
                    · refine zp_iinc (L' := [(2, 0, ((s9ξ : Int) + 1)), (3, 0, (V 37 (2000 + s9ξ))), (1, 0, (h9ξ : Int)), (0, 2, (A 5 : Int))]) (n := ((s9ξ : Int) + 1)) (pc := 86) hx hb hnLξ (zd_X0_areSightsSo (86, .iinc 2 1, 3, 0, []) (List.mem_of_getElem? (i := 48) rfl)) (j := 1) rfl (by omega) (zp_r0 (by omega) (by omega)) rfl rfl ?_
                      refine zp_goto (tgt := 15) (pc := 89) hx hb (zd_X0_areSightsSo (89, .goto (-74), 3, 0, []) (List.mem_of_getElem? (i := 49) rfl)) rfl ?_
                      refine zp_drop (L' := [(2, 0, ((s9ξ : Int) + 1)), (1, 0, (h9ξ : Int)), (0, 2, (A 5 : Int))]) (by simp) ?_
                      refine ihs (s9ξ + 1) (by omega) (fun s hsξ heξ => ?_)
                      by_cases e9ξ : s = s9ξ
                      · rw [e9ξ, show (V 38 (2000 + s9ξ)).toNat = h9ξ by omega, ← hXeξ]
                        omega
                      · exact hinξ s (by omega) heξ
                    · refine zp_const (pc := 84) hx hb (zd_X0_areSightsSo (84, .iconst 0, 1, 0, []) (List.mem_of_getElem? (i := 46) rfl)) rfl rfl ?_
                      refine zp_zret (pc := 85) (n := 0) hx hb hEξ hQξ hU5ξ rfl (by decide) (zd_X0_areSightsSo (85, .ireturn, 1, 0, []) (List.mem_of_getElem? (i := 47) rfl)) (j := 0) rfl (zp_o0 (by omega) (by omega) (by omega) (by omega)) ?_
                      rw [hpsξ]
                      refine ⟨rfl, Mps, hMpsξ, ?_⟩
                      refine ⟨hVpsξ, fun h9zξ => absurd h9zξ (by decide), fun h9zξ => ?_⟩
                      exfalso
                      have h9yξ := (Iff.mp hsoeξ) h9zξ s9ξ (by omega)
                      rw [show (V 38 (2000 + s9ξ)).toNat = h9ξ by omega, ← hXeξ] at h9yξ
                      omega
        refine zp_drop (L' := [(2, 0, 0), (1, 0, (h9ξ : Int)), (0, 2, (A 5 : Int))]) (by simp) ?_
        exact loops nsξ 0 (by omega) (fun s hsξ => absurd hsξ (Nat.not_lt_zero s))
  refine zp_const (pc := 0) hx hb (zd_X0_areSightsSo (0, .iconst 0, 1, 0, []) (List.mem_of_getElem? (i := 0) rfl)) rfl rfl ?_
  refine zp_store (L' := [(1, 0, 0), (0, 2, (A 5 : Int))]) (pc := 1) hx hb hnLξ (zd_X0_areSightsSo (1, .istore_n 1, 1, 0, []) (List.mem_of_getElem? (i := 1) rfl)) rfl rfl rfl ?_
  refine zp_drop (L' := [(1, 0, 0), (0, 2, (A 5 : Int))]) (by simp) ?_
  exact loop 24 0 M _ (by omega) hM00ξ hV0ξ hDs0ξ (fun s hsξ hlξ => absurd hlξ (by have h8ξ := hsvξ s hsξ; omega))
noncomputable def zK_fitc : zk_K := (zt_mn 154, prog_1_method_41_code, 3, (Option.some Jvm.ClassFile.FieldType.int), 1, 11, [(2, 12, 0, 0)], [(some (0, 0, (-2147483648), 2147483647), [])], zUC, (6, 380, 0, 0))
noncomputable def zφ_fitc (A : Nat → Nat) (Y : List (Nat × Nat)) (F : List (Nat × Nat × Nat)) (V : Nat → Nat → Int) (n1ξ npξ nsξ : Nat) (Lwξ : List yK) : (Nat → Option Nat) → (Nat → Nat → Int) → List Int → Prop := fun P G ps => zMVc A Y F V P G ∧ ps.getD 0 0 = (A 0 : Int) ∧ zMc Y F ∧ zLF A Y F V Lwξ ∧ zc_ok V 2 50 n1ξ npξ ∧ zSg (zRc V 2 50) n1ξ nsξ
noncomputable def zψ_fitc (A : Nat → Nat) (Y : List (Nat × Nat)) (F : List (Nat × Nat × Nat)) (V : Nat → Nat → Int) (n1ξ npξ nsξ : Nat) (Lwξ : List yK) : (Nat → Option Nat) → (Nat → Nat → Int) → List Int → (Nat → Option Nat) → (Nat → Nat → Int) → Int → Prop := fun P G ps P' G' rn => P' = P ∧ zMVc A Y F V P' G' ∧ rn = (zq_fi (fun t => zq_so (zRc V 2 50) n1ξ npξ Lwξ (t : Int) nsξ) 13)
theorem zX_fitc {l : Launch} {w : zk_W} (hWξ : zh_W w) (A : Nat → Nat) (Y : List (Nat × Nat)) (F : List (Nat × Nat × Nat)) (V : Nat → Nat → Int) (n1ξ npξ nsξ : Nat) (Lwξ : List yK) : zk_metX l w zt_dv zt_TB zK_fitc (zp_A (zφ_fitc A Y F V n1ξ npξ nsξ Lwξ)) (zp_B (zψ_fitc A Y F V n1ξ npξ nsξ Lwξ)) ∧ zk_cok w zt_TB zK_fitc := by
  refine zp_methX (cn := "WoundTown") zp_lkallW hWξ (pl := 1215) rfl (by decide +kernel) (fun p e R s m args below meth c Q u hx hb hEξ hQξ hU5ξ heffξ hnLξ hokξ hφ => ?_)
  have hwξ := hWξ.1
  obtain ⟨p0ξ, hpsξ, tk0⟩ := zp_ps1 hokξ
  have hrmξ : zk_Kr (zk_ev (zt_types, zp_lkW, zt_dv, [], [], zp_lcW, zK_fitc)) = zk_Kr zK_fitc := rfl
  rw [hpsξ] at hφ ⊢
  have hφ : zMVc A Y F V u.1 (zp_n u.2.1) ∧ p0ξ = (A 0 : Int) ∧ zMc Y F ∧ zLF A Y F V Lwξ ∧ zc_ok V 2 50 n1ξ npξ ∧ zSg (zRc V 2 50) n1ξ nsξ := hφ
  obtain ⟨⟨M, hMξ, hVξ, hSbξ⟩, rfl, hYFξ, hlwξ, hokξ, hsgξ⟩ := hφ
  have hYF0ξ := hYFξ
  obtain ⟨hYbξ, hFbξ, hFxξ, -⟩ := hYFξ
  show zp_J p l e R s m args below meth c Q w u [] 0 [(0, 2, (A 0 : Int))] [] u.1 (zp_n u.2.1)
  have hM00ξ := hMξ
  have hV00ξ := hVξ
  have loop : ∀ (r9ξ t9ξ : Nat) (M : Nat → Nat → Int) (G : Nat → Nat → Int), r9ξ + t9ξ = 13 → zM A Y F M u.1 G → (∀ o k, zNc o → M o k = V o k) → zp_J p l e R s m args below meth c Q w u [] 4 [(2, 0, (t9ξ : Int)), (1, 0, (zq_fi (fun t => zq_so (zRc V 2 50) n1ξ npξ Lwξ (t : Int) nsξ) t9ξ)), (0, 2, (A 0 : Int))] [] u.1 G := by
    intro r9ξ
    induction r9ξ with
    | zero =>
      intro t9ξ M G hrξ hMξ hVξ
      obtain rfl : t9ξ = 13 := by omega
      show zp_J p l e R s m args below meth c Q w u [] 4 [(2, 0, 13), (1, 0, (zq_fi (fun t => zq_so (zRc V 2 50) n1ξ npξ Lwξ (t : Int) nsξ) 13)), (0, 2, (A 0 : Int))] [] u.1 G
      have hfbξ := zq_fib (so := fun t => zq_so (zRc V 2 50) n1ξ npξ Lwξ (t : Int) nsξ) (t := 13)
      refine zp_load (pc := 4) hx hb (zd_X11_fits (4, .iload_n 2, 1, 0, []) (List.mem_of_getElem? (i := 4) rfl)) rfl (j := 0) rfl ?_
      refine zp_const (pc := 5) hx hb (zd_X11_fits (5, .bipush 12, 2, 0, []) (List.mem_of_getElem? (i := 5) rfl)) rfl rfl ?_
      refine zp_icmp (pc := 7) (tgt := 51) hx hb (zd_X11_fits (7, .if_icmp .gt 44, 3, 0, []) (List.mem_of_getElem? (i := 6) rfl)) rfl (fun (hc714ξ : 12 < (13 : Int)) => ?_) (fun (hc714ξ : ¬ (12 < (13 : Int))) => ?_)
      · refine zp_load (pc := 51) hx hb (zd_X11_fits (51, .iload_n 1, 1, 0, []) (List.mem_of_getElem? (i := 28) rfl)) rfl (j := 1) rfl ?_
        refine zp_iret (pc := 52) (n := (zq_fi (fun t => zq_so (zRc V 2 50) n1ξ npξ Lwξ (t : Int) nsξ) 13)) hx hb hEξ hQξ hU5ξ rfl (by decide) (zd_X11_fits (52, .ireturn, 1, 0, []) (List.mem_of_getElem? (i := 29) rfl)) (j := 0) rfl (zp_o0 (by omega) (by omega) (by omega) (by omega)) ?_
        rw [hpsξ]
        refine ⟨rfl, ?_⟩
        exact ⟨⟨M, hMξ, hVξ, trivial⟩, rfl⟩
      · exfalso
        omega
    | succ r9ξ ih =>
      intro t9ξ M G hrξ hMξ hVξ
      have hfbξ := zq_fib (so := fun t => zq_so (zRc V 2 50) n1ξ npξ Lwξ (t : Int) nsξ) (t := t9ξ)
      refine zp_load (pc := 4) hx hb (zd_X11_fits (4, .iload_n 2, 1, 0, []) (List.mem_of_getElem? (i := 4) rfl)) rfl (j := 0) rfl ?_
      refine zp_const (pc := 5) hx hb (zd_X11_fits (5, .bipush 12, 2, 0, []) (List.mem_of_getElem? (i := 5) rfl)) rfl rfl ?_
      refine zp_icmp (pc := 7) (tgt := 51) hx hb (zd_X11_fits (7, .if_icmp .gt 44, 3, 0, []) (List.mem_of_getElem? (i := 6) rfl)) rfl (fun (hc715ξ : 12 < (t9ξ : Int)) => ?_) (fun (hc715ξ : ¬ (12 < (t9ξ : Int))) => ?_)
      · exfalso
        omega
      · refine zp_load (pc := 10) hx hb (zd_X11_fits (10, .aload_n 0, 1, 0, []) (List.mem_of_getElem? (i := 7) rfl)) rfl (j := 2) rfl ?_
        refine zp_getf (n := (A 5 : Int)) (pc := 11) hx hb hEξ hwξ (zd_X11_fits (11, .getfield 39, 3, 0, []) (List.mem_of_getElem? (i := 8) rfl)) (j := 54) rfl rfl rfl (zM_P hMξ (hYbξ _ (List.mem_of_getElem? (i := 0) rfl))) ((zM_G hMξ (hYbξ _ (List.mem_of_getElem? (i := 0) rfl)) 4).trans (zM_F hMξ (hFbξ _ (List.mem_of_getElem? (i := 4) rfl)))) ?_
        refine zp_load (pc := 14) hx hb (zd_X11_fits (14, .aload_n 0, 1, 0, []) (List.mem_of_getElem? (i := 9) rfl)) rfl (j := 2) rfl ?_
        refine zp_getf (n := (A 1 : Int)) (pc := 15) hx hb hEξ hwξ (zd_X11_fits (15, .getfield 10, 3, 0, []) (List.mem_of_getElem? (i := 10) rfl)) (j := 50) rfl rfl rfl (zM_P hMξ (hYbξ _ (List.mem_of_getElem? (i := 0) rfl))) ((zM_G hMξ (hYbξ _ (List.mem_of_getElem? (i := 0) rfl)) 0).trans (zM_F hMξ (hFbξ _ (List.mem_of_getElem? (i := 0) rfl)))) ?_
        refine zp_load (pc := 18) hx hb (zd_X11_fits (18, .aload_n 0, 1, 0, []) (List.mem_of_getElem? (i := 11) rfl)) rfl (j := 2) rfl ?_
        refine zp_getf (n := (A 1 : Int)) (pc := 19) hx hb hEξ hwξ (zd_X11_fits (19, .getfield 10, 3, 0, []) (List.mem_of_getElem? (i := 12) rfl)) (j := 50) rfl rfl rfl (zM_P hMξ (hYbξ _ (List.mem_of_getElem? (i := 0) rfl))) ((zM_G hMξ (hYbξ _ (List.mem_of_getElem? (i := 0) rfl)) 0).trans (zM_F hMξ (hFbξ _ (List.mem_of_getElem? (i := 0) rfl)))) ?_
        refine zp_getf (n := (A 2 : Int)) (pc := 22) hx hb hEξ hwξ (zd_X11_fits (22, .getfield 135, 3, 0, []) (List.mem_of_getElem? (i := 13) rfl)) (j := 24) rfl rfl rfl (zM_P hMξ (hYbξ _ (List.mem_of_getElem? (i := 1) rfl))) ((zM_G hMξ (hYbξ _ (List.mem_of_getElem? (i := 1) rfl)) 18).trans (zM_F hMξ (hFbξ _ (List.mem_of_getElem? (i := 24) rfl)))) ?_
        refine zp_load (pc := 25) hx hb (zd_X11_fits (25, .iload_n 2, 1, 0, []) (List.mem_of_getElem? (i := 14) rfl)) rfl (j := 0) rfl ?_
        refine zp_call (pc := 26) (how := 0) (idx := 341) (mi := 105) (S := []) hx hb hEξ hwξ heffξ hrmξ (zX_beg2 hWξ A Y F V n1ξ npξ (t9ξ : Int) Lwξ) rfl (j := 45) rfl rfl (by decide +kernel) (zd_X11_fits (26, .invokevirtual 341, 3, 0, []) (List.mem_of_getElem? (i := 15) rfl)) [(A 5 : Int), (A 1 : Int), (A 2 : Int), (t9ξ : Int)] rfl ⟨zp_o2 (zM_P hMξ (hYbξ _ (List.mem_of_getElem? (i := 5) rfl))), zp_o2 (zM_P hMξ (hYbξ _ (List.mem_of_getElem? (i := 1) rfl))), zp_o2 (zM_P hMξ (hYbξ _ (List.mem_of_getElem? (i := 2) rfl))), zp_o0 (by omega) (by omega) (by omega) (by omega), trivial⟩ (Nat.le_of_ble_eq_true rfl) ⟨⟨M, hMξ, hVξ, trivial⟩, rfl, hYF0ξ, rfl, rfl, rfl, hlwξ, hokξ, by omega, by omega⟩ (fun al halξ rndy Pdy Gdy hextdyξ hfrdyξ hokdyξ hcsdyξ hpsidyξ => ?_)
        obtain rfl := List.mem_singleton.mp halξ
        obtain ⟨hPedyξ, Mdy, hMdyξ, hVdyξ, hDsdyξ⟩ := hpsidyξ
        subst hPedyξ
        clear hextdyξ hfrdyξ hokdyξ hcsdyξ
        have hXdyξ : zDX (zd_hr (zRc V 2 50) n1ξ npξ (zd_sp (zRc V 2 50) Lwξ (t9ξ : Int)) (zd_ru (zRc V 2 50) Lwξ (t9ξ : Int)) (t9ξ : Int) 0) Mdy := hDsdyξ.2.2.2
        refine zp_load (pc := 29) hx hb (zd_X11_fits (29, .aload_n 0, 1, 0, []) (List.mem_of_getElem? (i := 16) rfl)) rfl (j := 2) rfl ?_
        refine zp_getf (n := (A 5 : Int)) (pc := 30) hx hb hEξ hwξ (zd_X11_fits (30, .getfield 39, 3, 0, []) (List.mem_of_getElem? (i := 17) rfl)) (j := 54) rfl rfl rfl (zM_P hMdyξ (hYbξ _ (List.mem_of_getElem? (i := 0) rfl))) ((zM_G hMdyξ (hYbξ _ (List.mem_of_getElem? (i := 0) rfl)) 4).trans (zM_F hMdyξ (hFbξ _ (List.mem_of_getElem? (i := 4) rfl)))) ?_
        refine zp_call (pc := 33) (how := 0) (idx := 403) (mi := 155) (S := []) hx hb hEξ hwξ heffξ hrmξ (zX_asss hWξ A Y F Mdy V n1ξ npξ (t9ξ : Int) Lwξ nsξ) rfl (j := 57) rfl rfl (by decide +kernel) (zd_X11_fits (33, .invokevirtual 403, 3, 0, []) (List.mem_of_getElem? (i := 18) rfl)) [(A 5 : Int)] rfl ⟨zp_o2 (zM_P hMdyξ (hYbξ _ (List.mem_of_getElem? (i := 5) rfl))), trivial⟩ (Nat.le_of_ble_eq_true rfl) ⟨hMdyξ, rfl, hYF0ξ, hVdyξ, hDsdyξ, hokξ, by omega, by omega, hsgξ⟩ (fun al halξ rnas Pas Gas hextasξ hfrasξ hokasξ hcsasξ hpsiasξ => ?_)
        obtain rfl := List.mem_singleton.mp halξ
        have hrasξ := zp_int (hokasξ _ rfl).1
        obtain ⟨hPeasξ, Mas, hMasξ, htasξ⟩ := hpsiasξ
        subst hPeasξ
        refine zp_if (pc := 36) (tgt := 45) hx hb (zd_X11_fits (36, .ifCond .eq 9, 3, 0, []) (List.mem_of_getElem? (i := 19) rfl)) rfl (fun (hc716ξ : rnas = 0) => ?_) (fun (hc716ξ : ¬ (rnas = 0)) => ?_)
        · refine zp_iinc (L' := [(2, 0, ((t9ξ : Int) + 1)), (1, 0, (zq_fi (fun t => zq_so (zRc V 2 50) n1ξ npξ Lwξ (t : Int) nsξ) t9ξ)), (0, 2, (A 0 : Int))]) (n := ((t9ξ : Int) + 1)) (pc := 45) hx hb hnLξ (zd_X11_fits (45, .iinc 2 1, 3, 0, []) (List.mem_of_getElem? (i := 26) rfl)) (j := 0) rfl (by omega) (zp_r0 (by omega) (by omega)) rfl rfl ?_
          refine zp_goto (tgt := 4) (pc := 48) hx hb (zd_X11_fits (48, .goto (-44), 3, 0, []) (List.mem_of_getElem? (i := 27) rfl)) rfl ?_
          have hbbξ : (zq_fi (fun t => zq_so (zRc V 2 50) n1ξ npξ Lwξ (t : Int) nsξ) t9ξ) = (zq_fi (fun t => zq_so (zRc V 2 50) n1ξ npξ Lwξ (t : Int) nsξ) (t9ξ + 1)) := by
            rw [zq_fi]
            rw [if_neg (fun h9ξ => by have h8ξ := htasξ.2.mpr h9ξ; omega)]
          rw [hbbξ]
          refine zp_drop (L' := [(2, 0, ((t9ξ : Int) + 1)), (1, 0, (zq_fi (fun t => zq_so (zRc V 2 50) n1ξ npξ Lwξ (t : Int) nsξ) (t9ξ + 1))), (0, 2, (A 0 : Int))]) (by simp) ?_
          exact ih (t9ξ + 1) Mas Gas (by omega) hMasξ htasξ.1
        · refine zp_load (pc := 39) hx hb (zd_X11_fits (39, .iload_n 1, 1, 0, []) (List.mem_of_getElem? (i := 20) rfl)) rfl (j := 1) rfl ?_
          refine zp_const (pc := 40) hx hb (zd_X11_fits (40, .iconst 1, 1, 0, []) (List.mem_of_getElem? (i := 21) rfl)) rfl rfl ?_
          refine zp_load (pc := 41) hx hb (zd_X11_fits (41, .iload_n 2, 1, 0, []) (List.mem_of_getElem? (i := 22) rfl)) rfl (j := 0) rfl ?_
          refine zp_binx (o := 6) (n := (zw_shl 1 (t9ξ : Int))) (pc := 42) hx hb (zd_X11_fits (42, .ishl, 1, 0, []) (List.mem_of_getElem? (i := 23) rfl)) rfl (by decide) rfl ?_
          have hw717ξ := zw_shlb 1 (t9ξ : Int)
          refine zp_binx (o := 4) (n := (zw_or (zq_fi (fun t => zq_so (zRc V 2 50) n1ξ npξ Lwξ (t : Int) nsξ) t9ξ) (zw_shl 1 (t9ξ : Int)))) (pc := 43) hx hb (zd_X11_fits (43, .ior, 1, 0, []) (List.mem_of_getElem? (i := 24) rfl)) rfl (by decide) rfl ?_
          have hw718ξ := zw_orb (zq_fi (fun t => zq_so (zRc V 2 50) n1ξ npξ Lwξ (t : Int) nsξ) t9ξ) (zw_shl 1 (t9ξ : Int))
          refine zp_store (L' := [(1, 0, (zw_or (zq_fi (fun t => zq_so (zRc V 2 50) n1ξ npξ Lwξ (t : Int) nsξ) t9ξ) (zw_shl 1 (t9ξ : Int)))), (2, 0, (t9ξ : Int)), (0, 2, (A 0 : Int))]) (pc := 44) hx hb hnLξ (zd_X11_fits (44, .istore_n 1, 1, 0, []) (List.mem_of_getElem? (i := 25) rfl)) rfl rfl rfl ?_
          refine zp_iinc (L' := [(2, 0, ((t9ξ : Int) + 1)), (1, 0, (zw_or (zq_fi (fun t => zq_so (zRc V 2 50) n1ξ npξ Lwξ (t : Int) nsξ) t9ξ) (zw_shl 1 (t9ξ : Int)))), (0, 2, (A 0 : Int))]) (n := ((t9ξ : Int) + 1)) (pc := 45) hx hb hnLξ (zd_X11_fits (45, .iinc 2 1, 3, 0, []) (List.mem_of_getElem? (i := 26) rfl)) (j := 1) rfl (by omega) (zp_r0 (by omega) (by omega)) rfl rfl ?_
          refine zp_goto (tgt := 4) (pc := 48) hx hb (zd_X11_fits (48, .goto (-44), 3, 0, []) (List.mem_of_getElem? (i := 27) rfl)) rfl ?_
          have hbbξ : (zw_or (zq_fi (fun t => zq_so (zRc V 2 50) n1ξ npξ Lwξ (t : Int) nsξ) t9ξ) (zw_shl 1 (t9ξ : Int))) = (zq_fi (fun t => zq_so (zRc V 2 50) n1ξ npξ Lwξ (t : Int) nsξ) (t9ξ + 1)) := by
            rw [zq_fi]
            rw [if_pos (htasξ.2.mp (by omega))]
          rw [hbbξ]
          refine zp_drop (L' := [(2, 0, ((t9ξ : Int) + 1)), (1, 0, (zq_fi (fun t => zq_so (zRc V 2 50) n1ξ npξ Lwξ (t : Int) nsξ) (t9ξ + 1))), (0, 2, (A 0 : Int))]) (by simp) ?_
          exact ih (t9ξ + 1) Mas Gas (by omega) hMasξ htasξ.1
  refine zp_const (pc := 0) hx hb (zd_X11_fits (0, .iconst 0, 1, 0, []) (List.mem_of_getElem? (i := 0) rfl)) rfl rfl ?_
  refine zp_store (L' := [(1, 0, 0), (0, 2, (A 0 : Int))]) (pc := 1) hx hb hnLξ (zd_X11_fits (1, .istore_n 1, 1, 0, []) (List.mem_of_getElem? (i := 1) rfl)) rfl rfl rfl ?_
  refine zp_const (pc := 2) hx hb (zd_X11_fits (2, .iconst 0, 1, 0, []) (List.mem_of_getElem? (i := 2) rfl)) rfl rfl ?_
  refine zp_store (L' := [(2, 0, 0), (1, 0, 0), (0, 2, (A 0 : Int))]) (pc := 3) hx hb hnLξ (zd_X11_fits (3, .istore_n 2, 1, 0, []) (List.mem_of_getElem? (i := 3) rfl)) rfl rfl rfl ?_
  refine zp_drop (L' := [(2, 0, 0), (1, 0, 0), (0, 2, (A 0 : Int))]) (by simp) ?_
  exact loop 13 0 M _ (by omega) hM00ξ hV00ξ
noncomputable def zK_litc : zk_K := (zt_mn 148, prog_1_method_36_code, 6, (Option.some Jvm.ClassFile.FieldType.int), 1, 11, [(2, 12, 0, 0), (0, 0, (-2147483648), 2147483647), (0, 0, (-2147483648), 2147483647)], [(some (0, 0, (-2147483648), 2147483647), [])], zUC, (6, 380, 0, 0))
noncomputable def zφ_litc (A : Nat → Nat) (Y : List (Nat × Nat)) (F : List (Nat × Nat × Nat)) (V : Nat → Nat → Int) (n1ξ npξ : Nat) (Lwξ : List yK) : (Nat → Option Nat) → (Nat → Nat → Int) → List Int → Prop := fun P G ps => zMVc A Y F V P G ∧ ps.getD 0 0 = (A 0 : Int) ∧ zMc Y F ∧ zLF A Y F V Lwξ ∧ zc_ok V 2 50 n1ξ npξ ∧ zOwn (zRc V 2 50) n1ξ npξ
noncomputable def zψ_litc (A : Nat → Nat) (Y : List (Nat × Nat)) (F : List (Nat × Nat × Nat)) (V : Nat → Nat → Int) (n1ξ npξ : Nat) (Lwξ : List yK) : (Nat → Option Nat) → (Nat → Nat → Int) → List Int → (Nat → Option Nat) → (Nat → Nat → Int) → Int → Prop := fun P G ps P' G' rn => P' = P ∧ ∃ V' : Nat → Nat → Int, zMVc A Y F V' P' G' ∧ (∀ o k, zN8 o → V' o k = V o k) ∧ rn = (if (0 ≤ (ps.getD 1 0) ∧ (ps.getD 1 0) < (n1ξ : Int)) ∧ 0 ≤ (ps.getD 2 0) ∧ (ps.getD 2 0) ≤ 12 then zv_li (zRc V 2 50) n1ξ npξ Lwξ (ps.getD 1 0).toNat (ps.getD 2 0) else -1)
theorem zX_litc {l : Launch} {w : zk_W} (hWξ : zh_W w) (A : Nat → Nat) (Y : List (Nat × Nat)) (F : List (Nat × Nat × Nat)) (V : Nat → Nat → Int) (n1ξ npξ : Nat) (Lwξ : List yK) : zk_metX l w zt_dv zt_TB zK_litc (zp_A (zφ_litc A Y F V n1ξ npξ Lwξ)) (zp_B (zψ_litc A Y F V n1ξ npξ Lwξ)) ∧ zk_cok w zt_TB zK_litc := by
  refine zp_methX (cn := "WoundTown") zp_lkallW hWξ (pl := 1185) rfl (by decide +kernel) (fun p e R s m args below meth c Q u hx hb hEξ hQξ hU5ξ heffξ hnLξ hokξ hφ => ?_)
  have hwξ := hWξ.1
  obtain ⟨p0ξ, p1ξ, p2ξ, hpsξ, tk0, tk1, tk2⟩ := zp_ps3 hokξ
  have hrmξ : zk_Kr (zk_ev (zt_types, zp_lkW, zt_dv, [], [], zp_lcW, zK_litc)) = zk_Kr zK_litc := rfl
  rw [hpsξ] at hφ ⊢
  have hφ : zMVc A Y F V u.1 (zp_n u.2.1) ∧ p0ξ = (A 0 : Int) ∧ zMc Y F ∧ zLF A Y F V Lwξ ∧ zc_ok V 2 50 n1ξ npξ ∧ zOwn (zRc V 2 50) n1ξ npξ := hφ
  obtain ⟨⟨M, hMξ, hVξ, hSbξ⟩, rfl, hYFξ, hlwξ, hokξ, howξ⟩ := hφ
  have hYF0ξ := hYFξ
  obtain ⟨hYbξ, hFbξ, hFxξ, -⟩ := hYFξ
  have hi1ξ := zp_int tk1
  have hi2ξ := zp_int tk2
  show zp_J p l e R s m args below meth c Q w u [] 0 [(0, 2, (A 0 : Int)), (1, 0, p1ξ), (2, 0, p2ξ)] [] u.1 (zp_n u.2.1)
  have hn10ξ := hokξ.1.1
  have hnp6ξ := hokξ.1.2.1
  have hn1ξ : V 1 3 = (n1ξ : Int) := hokξ.1.2.2.1
  have hnpξ : V 1 1 = (npξ : Int) := hokξ.1.2.2.2.1
  refine zp_load (pc := 0) hx hb (zd_X11_little (0, .aload_n 0, 1, 0, []) (List.mem_of_getElem? (i := 0) rfl)) rfl (j := 0) rfl ?_
  refine zp_getf (n := (A 1 : Int)) (pc := 1) hx hb hEξ hwξ (zd_X11_little (1, .getfield 10, 3, 0, []) (List.mem_of_getElem? (i := 1) rfl)) (j := 50) rfl rfl rfl (zM_P hMξ (hYbξ _ (List.mem_of_getElem? (i := 0) rfl))) ((zM_G hMξ (hYbξ _ (List.mem_of_getElem? (i := 0) rfl)) 0).trans (zM_F hMξ (hFbξ _ (List.mem_of_getElem? (i := 0) rfl)))) ?_
  refine zp_load (pc := 4) hx hb (zd_X11_little (4, .iload_n 1, 1, 0, []) (List.mem_of_getElem? (i := 2) rfl)) rfl (j := 1) rfl ?_
  refine zp_call (pc := 5) (how := 0) (idx := 150) (mi := 26) (S := []) hx hb hEξ hwξ heffξ hrmξ (zX_hwo1 hWξ A Y F M) rfl (j := 17) rfl rfl (by decide +kernel) (zd_X11_little (5, .invokevirtual 150, 3, 0, []) (List.mem_of_getElem? (i := 3) rfl)) [(A 1 : Int), p1ξ] rfl ⟨zp_o2 (zM_P hMξ (hYbξ _ (List.mem_of_getElem? (i := 1) rfl))), zp_o0 (by omega) (by omega) (by omega) (by omega), trivial⟩ (Nat.le_of_ble_eq_true rfl) ⟨hMξ, rfl, hYF0ξ⟩ (fun al halξ rni719ξ Pi719 Gi719 hexti719ξ hfri719ξ hoki719ξ hcsi719ξ hpsii719ξ => ?_)
  obtain rfl := List.mem_singleton.mp halξ
  have hri719ξ := zp_int (hoki719ξ _ rfl).1
  obtain ⟨hPei719ξ, hGei719ξ, hti719ξ⟩ := hpsii719ξ
  rw [hPei719ξ, hGei719ξ]
  clear hexti719ξ hfri719ξ hcsi719ξ hPei719ξ hGei719ξ
  have hti719ξ : rni719ξ = 1 ↔ 0 ≤ p1ξ ∧ p1ξ < (n1ξ : Int) ∧ p1ξ < 10 := by
    have h9ξ : rni719ξ = 1 ↔ 0 ≤ p1ξ ∧ p1ξ < M 1 3 ∧ p1ξ < 10 := hti719ξ
    rw [((hVξ 1 3 (by decide)).trans hn1ξ)] at h9ξ
    exact h9ξ
  refine zp_if (pc := 8) (tgt := 29) hx hb (zd_X11_little (8, .ifCond .eq 21, 3, 0, []) (List.mem_of_getElem? (i := 4) rfl)) rfl (fun (hc720ξ : rni719ξ = 0) => ?_) (fun (hc720ξ : ¬ (rni719ξ = 0)) => ?_)
  · have hbf721ξ : ¬ (0 ≤ p1ξ ∧ p1ξ < (n1ξ : Int) ∧ p1ξ < 10) := fun h9ξ => absurd ((Iff.mpr hti719ξ) h9ξ) (by omega)
    refine zp_const (pc := 29) hx hb (zd_X11_little (29, .iconst (-1), 1, 0, []) (List.mem_of_getElem? (i := 13) rfl)) rfl rfl ?_
    refine zp_iret (pc := 30) (n := (-1)) hx hb hEξ hQξ hU5ξ rfl (by decide) (zd_X11_little (30, .ireturn, 1, 0, []) (List.mem_of_getElem? (i := 14) rfl)) (j := 0) rfl (zp_o0 (by omega) (by omega) (by omega) (by omega)) ?_
    rw [hpsξ]
    refine ⟨rfl, ?_⟩
    refine ⟨V, ⟨M, hMξ, hVξ, trivial⟩, fun o k _ => rfl, ?_⟩
    show (-1) = (if (0 ≤ p1ξ ∧ p1ξ < (n1ξ : Int)) ∧ 0 ≤ p2ξ ∧ p2ξ ≤ 12 then zv_li (zRc V 2 50) n1ξ npξ Lwξ p1ξ.toNat p2ξ else -1)
    rw [if_neg (by omega)]
  · have hbt722ξ := (Iff.mp hti719ξ) (by omega)
    refine zp_load (pc := 11) hx hb (zd_X11_little (11, .iload_n 2, 1, 0, []) (List.mem_of_getElem? (i := 5) rfl)) rfl (j := 2) rfl ?_
    refine zp_call (pc := 12) (how := 1) (idx := 292) (mi := 86) (S := []) hx hb hEξ hwξ heffξ hrmξ (zX_art hWξ) rfl (j := 31) rfl rfl (by decide +kernel) (zd_X11_little (12, .invokestatic 292, 3, 0, []) (List.mem_of_getElem? (i := 6) rfl)) [p2ξ] rfl ⟨zp_o0 (by omega) (by omega) (by omega) (by omega), trivial⟩ (Nat.le_of_ble_eq_true rfl) trivial (fun al halξ rnn723ξ Pn723 Gn723 hextn723ξ hfrn723ξ hokn723ξ hcsn723ξ hpsin723ξ => ?_)
    obtain rfl := List.mem_singleton.mp halξ
    have hrn723ξ := zp_int (hokn723ξ _ rfl).1
    obtain ⟨hPen723ξ, hGen723ξ, htn723ξ⟩ := hpsin723ξ
    rw [hPen723ξ, hGen723ξ]
    clear hextn723ξ hfrn723ξ hcsn723ξ hPen723ξ hGen723ξ
    have htn723ξ : rnn723ξ = 1 ↔ 0 ≤ p2ξ ∧ p2ξ ≤ 12 := htn723ξ
    refine zp_if (pc := 15) (tgt := 29) hx hb (zd_X11_little (15, .ifCond .eq 14, 3, 0, []) (List.mem_of_getElem? (i := 7) rfl)) rfl (fun (hc724ξ : rnn723ξ = 0) => ?_) (fun (hc724ξ : ¬ (rnn723ξ = 0)) => ?_)
    · have hbf725ξ : ¬ (0 ≤ p2ξ ∧ p2ξ ≤ 12) := fun h9ξ => absurd ((Iff.mpr htn723ξ) h9ξ) (by omega)
      refine zp_const (pc := 29) hx hb (zd_X11_little (29, .iconst (-1), 1, 0, []) (List.mem_of_getElem? (i := 13) rfl)) rfl rfl ?_
      refine zp_iret (pc := 30) (n := (-1)) hx hb hEξ hQξ hU5ξ rfl (by decide) (zd_X11_little (30, .ireturn, 1, 0, []) (List.mem_of_getElem? (i := 14) rfl)) (j := 0) rfl (zp_o0 (by omega) (by omega) (by omega) (by omega)) ?_
      rw [hpsξ]
      refine ⟨rfl, ?_⟩
      refine ⟨V, ⟨M, hMξ, hVξ, trivial⟩, fun o k _ => rfl, ?_⟩
      show (-1) = (if (0 ≤ p1ξ ∧ p1ξ < (n1ξ : Int)) ∧ 0 ≤ p2ξ ∧ p2ξ ≤ 12 then zv_li (zRc V 2 50) n1ξ npξ Lwξ p1ξ.toNat p2ξ else -1)
      rw [if_neg (by omega)]
    · have hbt726ξ := (Iff.mp htn723ξ) (by omega)
      refine zp_load (pc := 18) hx hb (zd_X11_little (18, .aload_n 0, 1, 0, []) (List.mem_of_getElem? (i := 8) rfl)) rfl (j := 0) rfl ?_
      refine zp_getf (n := (A 1 : Int)) (pc := 19) hx hb hEξ hwξ (zd_X11_little (19, .getfield 10, 3, 0, []) (List.mem_of_getElem? (i := 9) rfl)) (j := 50) rfl rfl rfl (zM_P hMξ (hYbξ _ (List.mem_of_getElem? (i := 0) rfl))) ((zM_G hMξ (hYbξ _ (List.mem_of_getElem? (i := 0) rfl)) 0).trans (zM_F hMξ (hFbξ _ (List.mem_of_getElem? (i := 0) rfl)))) ?_
      refine zp_load (pc := 22) hx hb (zd_X11_little (22, .iload_n 1, 1, 0, []) (List.mem_of_getElem? (i := 10) rfl)) rfl (j := 1) rfl ?_
      refine zp_call (pc := 23) (how := 0) (idx := 381) (mi := 25) (S := []) hx hb hEξ hwξ heffξ hrmξ (zX_isd1 hWξ A Y F M V) rfl (j := 53) rfl rfl (by decide +kernel) (zd_X11_little (23, .invokevirtual 381, 3, 0, []) (List.mem_of_getElem? (i := 11) rfl)) [(A 1 : Int), p1ξ] rfl ⟨zp_o2 (zM_P hMξ (hYbξ _ (List.mem_of_getElem? (i := 1) rfl))), zp_o0 (by omega) (by omega) (by omega) (by omega), trivial⟩ (Nat.le_of_ble_eq_true rfl) ⟨hMξ, rfl, hYF0ξ, hVξ⟩ (fun al halξ rno727ξ Po727 Go727 hexto727ξ hfro727ξ hoko727ξ hcso727ξ hpsio727ξ => ?_)
      obtain rfl := List.mem_singleton.mp halξ
      have hro727ξ := zp_int (hoko727ξ _ rfl).1
      obtain ⟨hPeo727ξ, hGeo727ξ, hto727ξ⟩ := hpsio727ξ
      rw [hPeo727ξ, hGeo727ξ]
      clear hexto727ξ hfro727ξ hcso727ξ hPeo727ξ hGeo727ξ
      have hto727ξ : rno727ξ = 1 ↔ (0 ≤ p1ξ ∧ p1ξ < V 1 3 ∧ p1ξ < 10) ∧ V 33 (2000 + (p1ξ).toNat) ≤ V 52 (2000 + (p1ξ).toNat) := hto727ξ
      rw [show (p1ξ : Int).toNat = p1ξ.toNat by omega] at hto727ξ
      refine zp_if (pc := 26) (tgt := 31) hx hb (zd_X11_little (26, .ifCond .eq 5, 3, 0, []) (List.mem_of_getElem? (i := 12) rfl)) rfl (fun (hc728ξ : rno727ξ = 0) => ?_) (fun (hc728ξ : ¬ (rno727ξ = 0)) => ?_)
      · refine zp_load (pc := 31) hx hb (zd_X11_little (31, .aload_n 0, 1, 0, []) (List.mem_of_getElem? (i := 15) rfl)) rfl (j := 0) rfl ?_
        refine zp_getf (n := (A 1 : Int)) (pc := 32) hx hb hEξ hwξ (zd_X11_little (32, .getfield 10, 3, 0, []) (List.mem_of_getElem? (i := 16) rfl)) (j := 50) rfl rfl rfl (zM_P hMξ (hYbξ _ (List.mem_of_getElem? (i := 0) rfl))) ((zM_G hMξ (hYbξ _ (List.mem_of_getElem? (i := 0) rfl)) 0).trans (zM_F hMξ (hFbξ _ (List.mem_of_getElem? (i := 0) rfl)))) ?_
        refine zp_getf (n := (A 32 : Int)) (pc := 35) hx hb hEξ hwξ (zd_X11_little (35, .getfield 160, 3, 0, []) (List.mem_of_getElem? (i := 17) rfl)) (j := 13) rfl rfl rfl (zM_P hMξ (hYbξ _ (List.mem_of_getElem? (i := 1) rfl))) ((zM_G hMξ (hYbξ _ (List.mem_of_getElem? (i := 1) rfl)) 4).trans (zM_F hMξ (hFbξ _ (List.mem_of_getElem? (i := 15) rfl)))) ?_
        refine zp_load (pc := 38) hx hb (zd_X11_little (38, .iload_n 1, 1, 0, []) (List.mem_of_getElem? (i := 18) rfl)) rfl (j := 1) rfl ?_
        refine zp_iald (j := p1ξ.toNat) (v := (V 32 (2000 + p1ξ.toNat))) (pc := 39) hx hb hwξ (zd_X11_little (39, .iaload, 1, 0, []) (List.mem_of_getElem? (i := 19) rfl)) (show zp_ia 1 44 = some (10, 0, 0, (-2147483648), 2147483647) from rfl) (zM_P hMξ (hYbξ _ (List.mem_of_getElem? (i := 19) rfl))) (by omega) (by omega) ((zM_G hMξ (hYbξ _ (List.mem_of_getElem? (i := 19) rfl)) (2000 + p1ξ.toNat)).trans (hVξ 32 (2000 + p1ξ.toNat) (by decide))) (fun hk729ξ => ?_)
        have hk729bξ := zp_int hk729ξ
        clear hk729ξ
        refine zp_store (L' := [(3, 0, (V 32 (2000 + p1ξ.toNat))), (0, 2, (A 0 : Int)), (1, 0, p1ξ), (2, 0, p2ξ)]) (pc := 40) hx hb hnLξ (zd_X11_little (40, .istore_n 3, 1, 0, []) (List.mem_of_getElem? (i := 20) rfl)) rfl rfl rfl ?_
        refine zp_load (pc := 41) hx hb (zd_X11_little (41, .aload_n 0, 1, 0, []) (List.mem_of_getElem? (i := 21) rfl)) rfl (j := 1) rfl ?_
        refine zp_getf (n := (A 1 : Int)) (pc := 42) hx hb hEξ hwξ (zd_X11_little (42, .getfield 10, 3, 0, []) (List.mem_of_getElem? (i := 22) rfl)) (j := 50) rfl rfl rfl (zM_P hMξ (hYbξ _ (List.mem_of_getElem? (i := 0) rfl))) ((zM_G hMξ (hYbξ _ (List.mem_of_getElem? (i := 0) rfl)) 0).trans (zM_F hMξ (hFbξ _ (List.mem_of_getElem? (i := 0) rfl)))) ?_
        refine zp_load (pc := 45) hx hb (zd_X11_little (45, .iload_n 3, 1, 0, []) (List.mem_of_getElem? (i := 23) rfl)) rfl (j := 0) rfl ?_
        have how9ξ := howξ p1ξ.toNat (by omega)
        have heoξ : (zRc V 2 50) (5 * p1ξ.toNat + 39) = V 32 (2000 + p1ξ.toNat) := zRc_w (i := 0) (by omega) (by omega)
        rw [heoξ] at how9ξ
        refine zp_call (pc := 46) (how := 0) (idx := 131) (mi := 22) (S := []) hx hb hEξ hwξ heffξ hrmξ (zX_hpe1 hWξ A Y F M) rfl (j := 15) rfl rfl (by decide +kernel) (zd_X11_little (46, .invokevirtual 131, 3, 0, []) (List.mem_of_getElem? (i := 24) rfl)) [(A 1 : Int), (V 32 (2000 + p1ξ.toNat))] rfl ⟨zp_o2 (zM_P hMξ (hYbξ _ (List.mem_of_getElem? (i := 1) rfl))), zp_o0 (by omega) (by omega) (by omega) (by omega), trivial⟩ (Nat.le_of_ble_eq_true rfl) ⟨hMξ, rfl, hYF0ξ⟩ (fun al halξ rni730ξ Pi730 Gi730 hexti730ξ hfri730ξ hoki730ξ hcsi730ξ hpsii730ξ => ?_)
        obtain rfl := List.mem_singleton.mp halξ
        have hri730ξ := zp_int (hoki730ξ _ rfl).1
        obtain ⟨hPei730ξ, hGei730ξ, hti730ξ⟩ := hpsii730ξ
        rw [hPei730ξ, hGei730ξ]
        clear hexti730ξ hfri730ξ hcsi730ξ hPei730ξ hGei730ξ
        have hti730ξ : rni730ξ = 1 ↔ 0 ≤ (V 32 (2000 + p1ξ.toNat)) ∧ (V 32 (2000 + p1ξ.toNat)) < (npξ : Int) ∧ (V 32 (2000 + p1ξ.toNat)) < 6 := by
          have h9ξ : rni730ξ = 1 ↔ 0 ≤ (V 32 (2000 + p1ξ.toNat)) ∧ (V 32 (2000 + p1ξ.toNat)) < M 1 1 ∧ (V 32 (2000 + p1ξ.toNat)) < 6 := hti730ξ
          rw [((hVξ 1 1 (by decide)).trans hnpξ)] at h9ξ
          exact h9ξ
        have hrp9ξ : rni730ξ = 1 := (Iff.mpr hti730ξ) ⟨by omega, by omega, by omega⟩
        refine zp_if (pc := 49) (tgt := 54) hx hb (zd_X11_little (49, .ifCond .ne 5, 3, 0, []) (List.mem_of_getElem? (i := 25) rfl)) rfl (fun (hc731ξ : ¬ rni730ξ = 0) => ?_) (fun (hc731ξ : ¬ (¬ rni730ξ = 0)) => ?_)
        · have hbt732ξ := (Iff.mp hti730ξ) (by omega)
          refine zp_load (pc := 54) hx hb (zd_X11_little (54, .aload_n 0, 1, 0, []) (List.mem_of_getElem? (i := 28) rfl)) rfl (j := 1) rfl ?_
          refine zp_getf (n := (A 8 : Int)) (pc := 55) hx hb hEξ hwξ (zd_X11_little (55, .getfield 101, 3, 0, []) (List.mem_of_getElem? (i := 29) rfl)) (j := 66) rfl rfl rfl (zM_P hMξ (hYbξ _ (List.mem_of_getElem? (i := 0) rfl))) ((zM_G hMξ (hYbξ _ (List.mem_of_getElem? (i := 0) rfl)) 16).trans (zM_F hMξ (hFbξ _ (List.mem_of_getElem? (i := 11) rfl)))) ?_
          refine zp_load (pc := 58) hx hb (zd_X11_little (58, .aload_n 0, 1, 0, []) (List.mem_of_getElem? (i := 30) rfl)) rfl (j := 1) rfl ?_
          refine zp_getf (n := (A 1 : Int)) (pc := 59) hx hb hEξ hwξ (zd_X11_little (59, .getfield 10, 3, 0, []) (List.mem_of_getElem? (i := 31) rfl)) (j := 50) rfl rfl rfl (zM_P hMξ (hYbξ _ (List.mem_of_getElem? (i := 0) rfl))) ((zM_G hMξ (hYbξ _ (List.mem_of_getElem? (i := 0) rfl)) 0).trans (zM_F hMξ (hFbξ _ (List.mem_of_getElem? (i := 0) rfl)))) ?_
          refine zp_getf (n := (A 2 : Int)) (pc := 62) hx hb hEξ hwξ (zd_X11_little (62, .getfield 135, 3, 0, []) (List.mem_of_getElem? (i := 32) rfl)) (j := 24) rfl rfl rfl (zM_P hMξ (hYbξ _ (List.mem_of_getElem? (i := 1) rfl))) ((zM_G hMξ (hYbξ _ (List.mem_of_getElem? (i := 1) rfl)) 18).trans (zM_F hMξ (hFbξ _ (List.mem_of_getElem? (i := 24) rfl)))) ?_
          refine zp_call (pc := 65) (how := 0) (idx := 226) (mi := 80) (S := []) hx hb hEξ hwξ heffξ hrmξ (zX_kf8_2 hWξ A Y F V) rfl (j := 25) rfl rfl (by decide +kernel) (zd_X11_little (65, .invokevirtual 226, 3, 0, []) (List.mem_of_getElem? (i := 33) rfl)) [(A 8 : Int), (A 2 : Int)] rfl ⟨zp_o2 (zM_P hMξ (hYbξ _ (List.mem_of_getElem? (i := 8) rfl))), zp_o2 (zM_P hMξ (hYbξ _ (List.mem_of_getElem? (i := 2) rfl))), trivial⟩ (Nat.le_of_ble_eq_true rfl) ⟨⟨M, hMξ, hVξ, trivial⟩, rfl, hYF0ξ, rfl⟩ (fun al halξ rna734ξ Pa734 Ga734 hexta734ξ hfra734ξ hoka734ξ hcsa734ξ hpsia734ξ => ?_)
          obtain rfl := List.mem_singleton.mp halξ
          obtain ⟨hPea734ξ, Ma734, hMa734ξ, hVa734ξ, hSba734ξ⟩ := hpsia734ξ
          subst hPea734ξ
          clear hexta734ξ hfra734ξ hcsa734ξ hoka734ξ
          have hVa734ξ : ∀ o k, zNc o → Ma734 o k = (zf_kf8_2 V).2 o k := hVa734ξ
          have hls9ξ := hokξ.1.2.2.2.2.2 (V 32 (2000 + p1ξ.toNat)).toNat (by omega)
          have helξ : zRc V 2 50 (3 * (V 32 (2000 + p1ξ.toNat)).toNat + 13) = V 51 (2000 + (V 32 (2000 + p1ξ.toNat)).toNat) := zRc_l (show (V 32 (2000 + p1ξ.toNat)).toNat < 6 by omega)
          rw [helξ] at hls9ξ
          have hk8ξ := zRc8_1 (V := V)
          have h57ξ : (zf_kf8_2 V).2 57 (2000 + (V 32 (2000 + p1ξ.toNat)).toNat) = V 51 (2000 + (V 32 (2000 + p1ξ.toNat)).toNat) := (zRc_l (show (V 32 (2000 + p1ξ.toNat)).toNat < 6 by omega) : zRc (zf_kf8_2 V).2 8 56 (3 * (V 32 (2000 + p1ξ.toNat)).toNat + 13) = _).symm.trans ((congrFun hk8ξ _).trans helξ)
          refine zp_const (pc := 68) hx hb (zd_X11_little (68, .bipush 9, 2, 0, []) (List.mem_of_getElem? (i := 34) rfl)) rfl rfl ?_
          refine zp_load (pc := 70) hx hb (zd_X11_little (70, .aload_n 0, 1, 0, []) (List.mem_of_getElem? (i := 35) rfl)) rfl (j := 1) rfl ?_
          refine zp_getf (n := (A 8 : Int)) (pc := 71) hx hb hEξ hwξ (zd_X11_little (71, .getfield 101, 3, 0, []) (List.mem_of_getElem? (i := 36) rfl)) (j := 66) rfl rfl rfl (zM_P hMa734ξ (hYbξ _ (List.mem_of_getElem? (i := 0) rfl))) ((zM_G hMa734ξ (hYbξ _ (List.mem_of_getElem? (i := 0) rfl)) 16).trans (zM_F hMa734ξ (hFbξ _ (List.mem_of_getElem? (i := 11) rfl)))) ?_
          refine zp_getf (n := (A 57 : Int)) (pc := 74) hx hb hEξ hwξ (zd_X11_little (74, .getfield 144, 3, 0, []) (List.mem_of_getElem? (i := 37) rfl)) (j := 3) rfl rfl rfl (zM_P hMa734ξ (hYbξ _ (List.mem_of_getElem? (i := 8) rfl))) ((zM_G hMa734ξ (hYbξ _ (List.mem_of_getElem? (i := 8) rfl)) 1).trans (zM_F hMa734ξ (hFbξ _ (List.mem_of_getElem? (i := 32) rfl)))) ?_
          refine zp_load (pc := 77) hx hb (zd_X11_little (77, .iload_n 3, 1, 0, []) (List.mem_of_getElem? (i := 38) rfl)) rfl (j := 0) rfl ?_
          refine zp_iald (j := (V 32 (2000 + p1ξ.toNat)).toNat) (v := (V 51 (2000 + (V 32 (2000 + p1ξ.toNat)).toNat))) (pc := 78) hx hb hwξ (zd_X11_little (78, .iaload, 1, 0, []) (List.mem_of_getElem? (i := 39) rfl)) (show zp_ia 1 18 = some (6, 0, 0, 0, 45) from rfl) (zM_P hMa734ξ (hYbξ _ (List.mem_of_getElem? (i := 35) rfl))) (by omega) (by omega) (((zM_G hMa734ξ (hYbξ _ (List.mem_of_getElem? (i := 35) rfl)) (2000 + (V 32 (2000 + p1ξ.toNat)).toNat)).trans (hVa734ξ 57 (2000 + (V 32 (2000 + p1ξ.toNat)).toNat) (by decide))).trans h57ξ) (fun hk735ξ => ?_)
          have hk735bξ := zp_int hk735ξ
          clear hk735ξ
          refine zp_sub (n := (9 - (V 51 (2000 + (V 32 (2000 + p1ξ.toNat)).toNat)))) (pc := 79) hx hb (zd_X11_little (79, .isub, 1, 0, []) (List.mem_of_getElem? (i := 40) rfl)) (by omega) (zp_r0 (by omega) (by omega)) ?_
          refine zp_store (L' := [(4, 0, (9 - (V 51 (2000 + (V 32 (2000 + p1ξ.toNat)).toNat)))), (3, 0, (V 32 (2000 + p1ξ.toNat))), (0, 2, (A 0 : Int)), (1, 0, p1ξ), (2, 0, p2ξ)]) (pc := 80) hx hb hnLξ (zd_X11_little (80, .istore 4, 2, 0, []) (List.mem_of_getElem? (i := 41) rfl)) rfl rfl rfl ?_
          refine zp_const (pc := 82) hx hb (zd_X11_little (82, .iconst 0, 1, 0, []) (List.mem_of_getElem? (i := 42) rfl)) rfl rfl ?_
          refine zp_store (L' := [(5, 0, 0), (4, 0, (9 - (V 51 (2000 + (V 32 (2000 + p1ξ.toNat)).toNat)))), (3, 0, (V 32 (2000 + p1ξ.toNat))), (0, 2, (A 0 : Int)), (1, 0, p1ξ), (2, 0, p2ξ)]) (pc := 83) hx hb hnLξ (zd_X11_little (83, .istore 5, 2, 0, []) (List.mem_of_getElem? (i := 43) rfl)) rfl rfl rfl ?_
          obtain ⟨V0, hV0ξ⟩ : ∃ V0 : Nat → Nat → Int, V0 = V := ⟨V, rfl⟩
          subst hV0ξ
          obtain ⟨R0, hR0ξ⟩ : ∃ R0 : Nat → Int, R0 = zRc V0 2 50 := ⟨_, rfl⟩
          rw [← hR0ξ] at helξ heoξ hk8ξ
          have hdkξ : zd_ok R0 n1ξ npξ := by rw [hR0ξ]; exact hokξ.1
          have hdmξ : ∀ w, w < n1ξ → R0 (w + 29) ≤ R0 (5 * w + 40) := by rw [hR0ξ]; exact hokξ.2
          have hp9ξ : (V0 32 (2000 + p1ξ.toNat)).toNat < 6 := by omega
          have hvalξ : (if (0 ≤ p1ξ ∧ p1ξ < (n1ξ : Int)) ∧ 0 ≤ p2ξ ∧ p2ξ ≤ 12 then zv_li (zRc V0 2 50) n1ξ npξ Lwξ p1ξ.toNat p2ξ else -1) = zq_li R0 n1ξ npξ Lwξ p2ξ p1ξ.toNat (V0 32 (2000 + p1ξ.toNat)).toNat (10 - (V0 51 (2000 + (V0 32 (2000 + p1ξ.toNat)).toNat))).toNat 0 := by
            rw [if_pos ⟨by omega, by omega⟩, ← hR0ξ]
            unfold zv_li
            rw [heoξ, helξ, if_pos]
            rw [hR0ξ, show zRc V0 2 50 (p1ξ.toNat + 29) = V0 52 (2000 + p1ξ.toNat) from zRc_d (show p1ξ.toNat < 10 by omega), show zRc V0 2 50 (5 * p1ξ.toNat + 40) = V0 33 (2000 + p1ξ.toNat) from zRc_w (i := 1) (by omega) (by omega)]
            omega
          have loop : ∀ (r9ξ k9ξ : Nat) (V M : Nat → Nat → Int) (G : Nat → Nat → Int), (r9ξ : Int) + (k9ξ : Int) = 10 - (V0 51 (2000 + (V0 32 (2000 + p1ξ.toNat)).toNat)) → zM A Y F M u.1 G → (∀ o k, zNc o → M o k = V o k) → (∀ o k, zN8 o → V o k = V0 o k) → zLF A Y F V Lwξ → (∀ j, j ≠ 3 * (V0 32 (2000 + p1ξ.toNat)).toNat + 13 → zRc V 8 56 j = R0 j) → zq_li R0 n1ξ npξ Lwξ p2ξ p1ξ.toNat (V0 32 (2000 + p1ξ.toNat)).toNat (10 - (V0 51 (2000 + (V0 32 (2000 + p1ξ.toNat)).toNat))).toNat 0 = zq_li R0 n1ξ npξ Lwξ p2ξ p1ξ.toNat (V0 32 (2000 + p1ξ.toNat)).toNat r9ξ k9ξ → zp_J p l e R s m args below meth c Q w u [] 85 [(5, 0, (k9ξ : Int)), (4, 0, (9 - (V0 51 (2000 + (V0 32 (2000 + p1ξ.toNat)).toNat)))), (3, 0, (V0 32 (2000 + p1ξ.toNat))), (0, 2, (A 0 : Int)), (1, 0, p1ξ), (2, 0, p2ξ)] [] u.1 G := by
            intro r9ξ
            induction r9ξ with
            | zero =>
              intro k9ξ V M G hrξ hMξ hVξ hFξ hlwξ hRξ hliξ
              refine zp_load (pc := 85) hx hb (zd_X11_little (85, .iload 5, 2, 0, []) (List.mem_of_getElem? (i := 44) rfl)) rfl (j := 0) rfl ?_
              refine zp_load (pc := 87) hx hb (zd_X11_little (87, .iload 4, 2, 0, []) (List.mem_of_getElem? (i := 45) rfl)) rfl (j := 1) rfl ?_
              refine zp_icmp (pc := 89) (tgt := 152) hx hb (zd_X11_little (89, .if_icmp .gt 63, 3, 0, []) (List.mem_of_getElem? (i := 46) rfl)) rfl (fun (hc736ξ : (9 - (V0 51 (2000 + (V0 32 (2000 + p1ξ.toNat)).toNat))) < (k9ξ : Int)) => ?_) (fun (hc736ξ : ¬ ((9 - (V0 51 (2000 + (V0 32 (2000 + p1ξ.toNat)).toNat))) < (k9ξ : Int))) => ?_)
              · refine zp_const (pc := 152) hx hb (zd_X11_little (152, .iconst (-1), 1, 0, []) (List.mem_of_getElem? (i := 77) rfl)) rfl rfl ?_
                refine zp_iret (pc := 153) (n := (-1)) hx hb hEξ hQξ hU5ξ rfl (by decide) (zd_X11_little (153, .ireturn, 1, 0, []) (List.mem_of_getElem? (i := 78) rfl)) (j := 0) rfl (zp_o0 (by omega) (by omega) (by omega) (by omega)) ?_
                rw [hpsξ]
                refine ⟨rfl, ?_⟩
                refine ⟨V, ⟨M, hMξ, hVξ, trivial⟩, hFξ, ?_⟩
                show (-1) = (if (0 ≤ p1ξ ∧ p1ξ < (n1ξ : Int)) ∧ 0 ≤ p2ξ ∧ p2ξ ≤ 12 then zv_li (zRc V0 2 50) n1ξ npξ Lwξ p1ξ.toNat p2ξ else -1)
                rw [hvalξ, hliξ]
                rfl
              · exfalso
                omega
            | succ r9ξ ih =>
              intro k9ξ V M G hrξ hMξ hVξ hFξ hlwξ hRξ hliξ
              have h51kξ : V 51 (2000 + (V0 32 (2000 + p1ξ.toNat)).toNat) = (V0 51 (2000 + (V0 32 (2000 + p1ξ.toNat)).toNat)) := hFξ _ _ (by unfold zN8; omega)
              refine zp_load (pc := 85) hx hb (zd_X11_little (85, .iload 5, 2, 0, []) (List.mem_of_getElem? (i := 44) rfl)) rfl (j := 0) rfl ?_
              refine zp_load (pc := 87) hx hb (zd_X11_little (87, .iload 4, 2, 0, []) (List.mem_of_getElem? (i := 45) rfl)) rfl (j := 1) rfl ?_
              refine zp_icmp (pc := 89) (tgt := 152) hx hb (zd_X11_little (89, .if_icmp .gt 63, 3, 0, []) (List.mem_of_getElem? (i := 46) rfl)) rfl (fun (hc737ξ : (9 - (V0 51 (2000 + (V0 32 (2000 + p1ξ.toNat)).toNat))) < (k9ξ : Int)) => ?_) (fun (hc737ξ : ¬ ((9 - (V0 51 (2000 + (V0 32 (2000 + p1ξ.toNat)).toNat))) < (k9ξ : Int))) => ?_)
              · exfalso
                omega
              · refine zp_load (pc := 92) hx hb (zd_X11_little (92, .aload_n 0, 1, 0, []) (List.mem_of_getElem? (i := 47) rfl)) rfl (j := 3) rfl ?_
                refine zp_getf (n := (A 8 : Int)) (pc := 93) hx hb hEξ hwξ (zd_X11_little (93, .getfield 101, 3, 0, []) (List.mem_of_getElem? (i := 48) rfl)) (j := 66) rfl rfl rfl (zM_P hMξ (hYbξ _ (List.mem_of_getElem? (i := 0) rfl))) ((zM_G hMξ (hYbξ _ (List.mem_of_getElem? (i := 0) rfl)) 16).trans (zM_F hMξ (hFbξ _ (List.mem_of_getElem? (i := 11) rfl)))) ?_
                refine zp_getf (n := (A 57 : Int)) (pc := 96) hx hb hEξ hwξ (zd_X11_little (96, .getfield 144, 3, 0, []) (List.mem_of_getElem? (i := 49) rfl)) (j := 3) rfl rfl rfl (zM_P hMξ (hYbξ _ (List.mem_of_getElem? (i := 8) rfl))) ((zM_G hMξ (hYbξ _ (List.mem_of_getElem? (i := 8) rfl)) 1).trans (zM_F hMξ (hFbξ _ (List.mem_of_getElem? (i := 32) rfl)))) ?_
                refine zp_load (pc := 99) hx hb (zd_X11_little (99, .iload_n 3, 1, 0, []) (List.mem_of_getElem? (i := 50) rfl)) rfl (j := 2) rfl ?_
                refine zp_load (pc := 100) hx hb (zd_X11_little (100, .aload_n 0, 1, 0, []) (List.mem_of_getElem? (i := 51) rfl)) rfl (j := 3) rfl ?_
                refine zp_getf (n := (A 1 : Int)) (pc := 101) hx hb hEξ hwξ (zd_X11_little (101, .getfield 10, 3, 0, []) (List.mem_of_getElem? (i := 52) rfl)) (j := 50) rfl rfl rfl (zM_P hMξ (hYbξ _ (List.mem_of_getElem? (i := 0) rfl))) ((zM_G hMξ (hYbξ _ (List.mem_of_getElem? (i := 0) rfl)) 0).trans (zM_F hMξ (hFbξ _ (List.mem_of_getElem? (i := 0) rfl)))) ?_
                refine zp_getf (n := (A 2 : Int)) (pc := 104) hx hb hEξ hwξ (zd_X11_little (104, .getfield 135, 3, 0, []) (List.mem_of_getElem? (i := 53) rfl)) (j := 24) rfl rfl rfl (zM_P hMξ (hYbξ _ (List.mem_of_getElem? (i := 1) rfl))) ((zM_G hMξ (hYbξ _ (List.mem_of_getElem? (i := 1) rfl)) 18).trans (zM_F hMξ (hFbξ _ (List.mem_of_getElem? (i := 24) rfl)))) ?_
                refine zp_getf (n := (A 51 : Int)) (pc := 107) hx hb hEξ hwξ (zd_X11_little (107, .getfield 144, 3, 0, []) (List.mem_of_getElem? (i := 54) rfl)) (j := 3) rfl rfl rfl (zM_P hMξ (hYbξ _ (List.mem_of_getElem? (i := 2) rfl))) ((zM_G hMξ (hYbξ _ (List.mem_of_getElem? (i := 2) rfl)) 1).trans (zM_F hMξ (hFbξ _ (List.mem_of_getElem? (i := 26) rfl)))) ?_
                refine zp_load (pc := 110) hx hb (zd_X11_little (110, .iload_n 3, 1, 0, []) (List.mem_of_getElem? (i := 55) rfl)) rfl (j := 2) rfl ?_
                refine zp_iald (j := (V0 32 (2000 + p1ξ.toNat)).toNat) (v := (V0 51 (2000 + (V0 32 (2000 + p1ξ.toNat)).toNat))) (pc := 111) hx hb hwξ (zd_X11_little (111, .iaload, 1, 0, []) (List.mem_of_getElem? (i := 56) rfl)) (show zp_ia 1 18 = some (6, 0, 0, 0, 45) from rfl) (zM_P hMξ (hYbξ _ (List.mem_of_getElem? (i := 29) rfl))) (by omega) (by omega) (((zM_G hMξ (hYbξ _ (List.mem_of_getElem? (i := 29) rfl)) (2000 + (V0 32 (2000 + p1ξ.toNat)).toNat)).trans (hVξ 51 (2000 + (V0 32 (2000 + p1ξ.toNat)).toNat) (by decide))).trans h51kξ) (fun hk738ξ => ?_)
                have hk738bξ := zp_int hk738ξ
                clear hk738ξ
                refine zp_load (pc := 112) hx hb (zd_X11_little (112, .iload 5, 2, 0, []) (List.mem_of_getElem? (i := 57) rfl)) rfl (j := 0) rfl ?_
                refine zp_add (n := ((V0 51 (2000 + (V0 32 (2000 + p1ξ.toNat)).toNat)) + (k9ξ : Int))) (pc := 114) hx hb (zd_X11_little (114, .iadd, 1, 0, []) (List.mem_of_getElem? (i := 58) rfl)) (by omega) (zp_r0 (by omega) (by omega)) ?_
                refine zp_iast (j := (V0 32 (2000 + p1ξ.toNat)).toNat) (pc := 115) hx hb hwξ heffξ (zd_X11_little (115, .iastore, 1, 0, []) (List.mem_of_getElem? (i := 59) rfl)) (show zp_ia 1 18 = some (6, 0, 0, 0, 45) from rfl) (zM_P hMξ (hYbξ _ (List.mem_of_getElem? (i := 35) rfl))) (by omega) (by omega) (zp_o0 (by omega) (by omega) (by omega) (by omega)) rfl ?_
                refine zp_load (pc := 116) hx hb (zd_X11_little (116, .aload_n 0, 1, 0, []) (List.mem_of_getElem? (i := 60) rfl)) rfl (j := 3) rfl ?_
                refine zp_getf (n := (A 5 : Int)) (pc := 117) hx hb hEξ hwξ (zd_X11_little (117, .getfield 39, 3, 0, []) (List.mem_of_getElem? (i := 61) rfl)) (j := 54) rfl rfl rfl (zM_P hMξ (hYbξ _ (List.mem_of_getElem? (i := 0) rfl))) ((zp_set_ne (Or.inl (zM_ne hMξ (hYbξ _ (List.mem_of_getElem? (i := 0) rfl)) (hYbξ _ (List.mem_of_getElem? (i := 35) rfl)) (by decide)))).trans (((zM_G hMξ (hYbξ _ (List.mem_of_getElem? (i := 0) rfl)) 4).trans (zM_F hMξ (hFbξ _ (List.mem_of_getElem? (i := 4) rfl)))))) ?_
                refine zp_load (pc := 120) hx hb (zd_X11_little (120, .aload_n 0, 1, 0, []) (List.mem_of_getElem? (i := 62) rfl)) rfl (j := 3) rfl ?_
                refine zp_getf (n := (A 1 : Int)) (pc := 121) hx hb hEξ hwξ (zd_X11_little (121, .getfield 10, 3, 0, []) (List.mem_of_getElem? (i := 63) rfl)) (j := 50) rfl rfl rfl (zM_P hMξ (hYbξ _ (List.mem_of_getElem? (i := 0) rfl))) ((zp_set_ne (Or.inl (zM_ne hMξ (hYbξ _ (List.mem_of_getElem? (i := 0) rfl)) (hYbξ _ (List.mem_of_getElem? (i := 35) rfl)) (by decide)))).trans (((zM_G hMξ (hYbξ _ (List.mem_of_getElem? (i := 0) rfl)) 0).trans (zM_F hMξ (hFbξ _ (List.mem_of_getElem? (i := 0) rfl)))))) ?_
                refine zp_load (pc := 124) hx hb (zd_X11_little (124, .aload_n 0, 1, 0, []) (List.mem_of_getElem? (i := 64) rfl)) rfl (j := 3) rfl ?_
                refine zp_getf (n := (A 8 : Int)) (pc := 125) hx hb hEξ hwξ (zd_X11_little (125, .getfield 101, 3, 0, []) (List.mem_of_getElem? (i := 65) rfl)) (j := 66) rfl rfl rfl (zM_P hMξ (hYbξ _ (List.mem_of_getElem? (i := 0) rfl))) ((zp_set_ne (Or.inl (zM_ne hMξ (hYbξ _ (List.mem_of_getElem? (i := 0) rfl)) (hYbξ _ (List.mem_of_getElem? (i := 35) rfl)) (by decide)))).trans (((zM_G hMξ (hYbξ _ (List.mem_of_getElem? (i := 0) rfl)) 16).trans (zM_F hMξ (hFbξ _ (List.mem_of_getElem? (i := 11) rfl)))))) ?_
                refine zp_load (pc := 128) hx hb (zd_X11_little (128, .iload_n 2, 1, 0, []) (List.mem_of_getElem? (i := 66) rfl)) rfl (j := 5) rfl ?_
                have hRnξ : zRc (zp_set V 57 (2000 + (V0 32 (2000 + p1ξ.toNat)).toNat) ((V0 51 (2000 + (V0 32 (2000 + p1ξ.toNat)).toNat)) + (k9ξ : Int))) 8 56 = yu R0 (3 * (V0 32 (2000 + p1ξ.toNat)).toNat + 13) ((V0 51 (2000 + (V0 32 (2000 + p1ξ.toNat)).toNat)) + (k9ξ : Int)) := zRc8_l hp9ξ hRξ
                have hlw9ξ : zLF A Y F (zp_set V 57 (2000 + (V0 32 (2000 + p1ξ.toNat)).toNat) ((V0 51 (2000 + (V0 32 (2000 + p1ξ.toNat)).toNat)) + (k9ξ : Int))) Lwξ := zLF_f hlwξ (fun o k h8ξ => zp_set_ne (Or.inl (by omega)))
                have hok9ξ : zc_ok (zp_set V 57 (2000 + (V0 32 (2000 + p1ξ.toNat)).toNat) ((V0 51 (2000 + (V0 32 (2000 + p1ξ.toNat)).toNat)) + (k9ξ : Int))) 8 56 n1ξ npξ := by
                  unfold zc_ok
                  rw [hRnξ]
                  refine ⟨zd_ok_l hp9ξ ⟨by omega, by omega⟩ hdkξ, fun w hwξ => ?_⟩
                  rw [yu_ne (show w + 29 ≠ 3 * (V0 32 (2000 + p1ξ.toNat)).toNat + 13 by omega), yu_ne (show 5 * w + 40 ≠ 3 * (V0 32 (2000 + p1ξ.toNat)).toNat + 13 by omega)]
                  exact hdmξ w hwξ
                refine zp_call (pc := 129) (how := 0) (idx := 350) (mi := 131) (S := []) hx hb hEξ hwξ heffξ hrmξ (zX_pas8 hWξ A Y F (zp_set V 57 (2000 + (V0 32 (2000 + p1ξ.toNat)).toNat) ((V0 51 (2000 + (V0 32 (2000 + p1ξ.toNat)).toNat)) + (k9ξ : Int))) n1ξ npξ p2ξ Lwξ) rfl (j := 47) rfl rfl (by decide +kernel) (zd_X11_little (129, .invokevirtual 350, 3, 0, []) (List.mem_of_getElem? (i := 67) rfl)) [(A 5 : Int), (A 1 : Int), (A 8 : Int), p2ξ] rfl ⟨zp_o2 (zM_P hMξ (hYbξ _ (List.mem_of_getElem? (i := 5) rfl))), zp_o2 (zM_P hMξ (hYbξ _ (List.mem_of_getElem? (i := 1) rfl))), zp_o2 (zM_P hMξ (hYbξ _ (List.mem_of_getElem? (i := 8) rfl))), zp_o0 (by omega) (by omega) (by omega) (by omega), trivial⟩ (Nat.le_of_ble_eq_true rfl) ⟨⟨(zp_set M 57 (2000 + (V0 32 (2000 + p1ξ.toNat)).toNat) ((V0 51 (2000 + (V0 32 (2000 + p1ξ.toNat)).toNat)) + (k9ξ : Int))), (zM_setE hMξ (hYbξ _ (List.mem_of_getElem? (i := 35) rfl))), (zV_set hVξ), trivial⟩, rfl, hYF0ξ, rfl, rfl, rfl, hlw9ξ, hok9ξ, by omega, by omega⟩ (fun al halξ rndy Pdy Gdy hextdyξ hfrdyξ hokdyξ hcsdyξ hpsidyξ => ?_)
                obtain rfl := List.mem_singleton.mp halξ
                obtain ⟨hPedyξ, Mdy, hMdyξ, hVdyξ, hDsdyξ⟩ := hpsidyξ
                subst hPedyξ
                clear hextdyξ hfrdyξ hokdyξ hcsdyξ
                obtain ⟨Vn, hVnξ⟩ : ∃ Vn, Vn = (zp_set V 57 (2000 + (V0 32 (2000 + p1ξ.toNat)).toNat) ((V0 51 (2000 + (V0 32 (2000 + p1ξ.toNat)).toNat)) + (k9ξ : Int))) := ⟨_, rfl⟩
                rw [← hVnξ] at hVdyξ hDsdyξ hlw9ξ hok9ξ hRnξ
                have hXdyξ : zDX (zc_X Vn 8 56 n1ξ npξ Lwξ p2ξ) Mdy := hDsdyξ.2.2.2
                have hX9ξ : zc_X Vn 8 56 n1ξ npξ Lwξ p2ξ = zq_X (yu R0 (3 * (V0 32 (2000 + p1ξ.toNat)).toNat + 13) ((V0 51 (2000 + (V0 32 (2000 + p1ξ.toNat)).toNat)) + (k9ξ : Int))) n1ξ npξ Lwξ p2ξ := by rw [← hRnξ]; rfl
                refine zp_load (pc := 132) hx hb (zd_X11_little (132, .aload_n 0, 1, 0, []) (List.mem_of_getElem? (i := 68) rfl)) rfl (j := 3) rfl ?_
                refine zp_getf (n := (A 5 : Int)) (pc := 133) hx hb hEξ hwξ (zd_X11_little (133, .getfield 39, 3, 0, []) (List.mem_of_getElem? (i := 69) rfl)) (j := 54) rfl rfl rfl (zM_P hMdyξ (hYbξ _ (List.mem_of_getElem? (i := 0) rfl))) ((zM_G hMdyξ (hYbξ _ (List.mem_of_getElem? (i := 0) rfl)) 4).trans (zM_F hMdyξ (hFbξ _ (List.mem_of_getElem? (i := 4) rfl)))) ?_
                refine zp_load (pc := 136) hx hb (zd_X11_little (136, .iload_n 1, 1, 0, []) (List.mem_of_getElem? (i := 70) rfl)) rfl (j := 4) rfl ?_
                refine zp_call (pc := 137) (how := 0) (idx := 384) (mi := 135) (S := []) hx hb hEξ hwξ heffξ hrmξ (zX_isit hWξ A Y F Mdy Vn (zc_X Vn 8 56 n1ξ npξ Lwξ p2ξ)) rfl (j := 54) rfl rfl (by decide +kernel) (zd_X11_little (137, .invokevirtual 384, 3, 0, []) (List.mem_of_getElem? (i := 71) rfl)) [(A 5 : Int), p1ξ] rfl ⟨zp_o2 (zM_P hMdyξ (hYbξ _ (List.mem_of_getElem? (i := 5) rfl))), zp_o0 (by omega) (by omega) (by omega) (by omega), trivial⟩ (Nat.le_of_ble_eq_true rfl) ⟨hMdyξ, rfl, hYF0ξ, hVdyξ, hDsdyξ.2.1.1, hXdyξ⟩ (fun al halξ rnt Pt Gt hexttξ hfrtξ hoktξ hcstξ hpsitξ => ?_)
                obtain rfl := List.mem_singleton.mp halξ
                have hrtξ := zp_int (hoktξ _ rfl).1
                obtain ⟨hPetξ, hGetξ, httξ⟩ := hpsitξ
                rw [hPetξ, hGetξ]
                clear hexttξ hfrtξ hcstξ hPetξ hGetξ
                have h34ξ : Vn 34 (2000 + p1ξ.toNat) = (R0 (5 * p1ξ.toNat + 41)) := by
                  rw [hVnξ, hR0ξ]
                  refine (zp_set_ne (Or.inl (by decide))).trans ((hFξ 34 _ (by unfold zN8; omega)).trans ?_)
                  exact (zRc_w (i := 2) (by omega) (by omega)).symm
                have httξ : rnt = 1 ↔ ((zq_X (yu R0 (3 * (V0 32 (2000 + p1ξ.toNat)).toNat + 13) ((V0 51 (2000 + (V0 32 (2000 + p1ξ.toNat)).toNat)) + (k9ξ : Int))) n1ξ npξ Lwξ p2ξ).2 p1ξ.toNat ≠ -1 ∧ (zq_X (yu R0 (3 * (V0 32 (2000 + p1ξ.toNat)).toNat + 13) ((V0 51 (2000 + (V0 32 (2000 + p1ξ.toNat)).toNat)) + (k9ξ : Int))) n1ξ npξ Lwξ p2ξ).2 p1ξ.toNat ≤ (R0 (5 * p1ξ.toNat + 41))) := by
                  have h9ξ : rnt = 1 ↔ ((0 ≤ p1ξ ∧ p1ξ < 10) ∧ (zc_X Vn 8 56 n1ξ npξ Lwξ p2ξ).2 p1ξ.toNat ≠ -1) ∧ (zc_X Vn 8 56 n1ξ npξ Lwξ p2ξ).2 p1ξ.toNat ≤ Vn 34 (2000 + p1ξ.toNat) := httξ
                  rw [hX9ξ, h34ξ] at h9ξ
                  omega
                refine zp_if (pc := 140) (tgt := 146) hx hb (zd_X11_little (140, .ifCond .eq 6, 3, 0, []) (List.mem_of_getElem? (i := 72) rfl)) rfl (fun (hc739ξ : rnt = 0) => ?_) (fun (hc739ξ : ¬ (rnt = 0)) => ?_)
                · refine zp_iinc (L' := [(5, 0, ((k9ξ : Int) + 1)), (4, 0, (9 - (V0 51 (2000 + (V0 32 (2000 + p1ξ.toNat)).toNat)))), (3, 0, (V0 32 (2000 + p1ξ.toNat))), (0, 2, (A 0 : Int)), (1, 0, p1ξ), (2, 0, p2ξ)]) (n := ((k9ξ : Int) + 1)) (pc := 146) hx hb hnLξ (zd_X11_little (146, .iinc 5 1, 3, 0, []) (List.mem_of_getElem? (i := 75) rfl)) (j := 0) rfl (by omega) (zp_r0 (by omega) (by omega)) rfl rfl ?_
                  refine zp_goto (tgt := 85) (pc := 149) hx hb (zd_X11_little (149, .goto (-64), 3, 0, []) (List.mem_of_getElem? (i := 76) rfl)) rfl ?_
                  have hl1ξ : R0 (3 * (V0 32 (2000 + p1ξ.toNat)).toNat + 13) = (V0 51 (2000 + (V0 32 (2000 + p1ξ.toNat)).toNat)) := helξ
                  refine zp_drop (L' := [(5, 0, ((k9ξ : Int) + 1)), (4, 0, (9 - (V0 51 (2000 + (V0 32 (2000 + p1ξ.toNat)).toNat)))), (3, 0, (V0 32 (2000 + p1ξ.toNat))), (0, 2, (A 0 : Int)), (1, 0, p1ξ), (2, 0, p2ξ)]) (by simp) ?_
                  refine ih (k9ξ + 1) Vn Mdy Gdy (by omega) hMdyξ hVdyξ (fun o k hoξ => by rw [hVnξ]; exact (zp_set_ne (Or.inl hoξ.2.2.1)).trans (hFξ o k hoξ)) hlw9ξ (fun j hjξ => by rw [hRnξ]; exact yu_ne hjξ) ?_
                  rw [hliξ, zq_li, hl1ξ, if_neg (fun h9ξ => by have h8ξ := (Iff.mpr httξ) h9ξ; omega)]
                · refine zp_load (pc := 143) hx hb (zd_X11_little (143, .iload 5, 2, 0, []) (List.mem_of_getElem? (i := 73) rfl)) rfl (j := 0) rfl ?_
                  have hl1ξ : R0 (3 * (V0 32 (2000 + p1ξ.toNat)).toNat + 13) = (V0 51 (2000 + (V0 32 (2000 + p1ξ.toNat)).toNat)) := helξ
                  refine zp_iret (pc := 145) (n := (k9ξ : Int)) hx hb hEξ hQξ hU5ξ rfl (by decide) (zd_X11_little (145, .ireturn, 1, 0, []) (List.mem_of_getElem? (i := 74) rfl)) (j := 0) rfl (zp_o0 (by omega) (by omega) (by omega) (by omega)) ?_
                  rw [hpsξ]
                  refine ⟨rfl, ?_⟩
                  refine ⟨Vn, ⟨Mdy, hMdyξ, hVdyξ, trivial⟩, fun o k hoξ => by rw [hVnξ]; exact (zp_set_ne (Or.inl hoξ.2.2.1)).trans (hFξ o k hoξ), ?_⟩
                  show (k9ξ : Int) = (if (0 ≤ p1ξ ∧ p1ξ < (n1ξ : Int)) ∧ 0 ≤ p2ξ ∧ p2ξ ≤ 12 then zv_li (zRc V0 2 50) n1ξ npξ Lwξ p1ξ.toNat p2ξ else -1)
                  rw [hvalξ, hliξ, zq_li, hl1ξ, if_pos ((Iff.mp httξ) (by omega))]
          refine zp_drop (L' := [(5, 0, 0), (4, 0, (9 - (V0 51 (2000 + (V0 32 (2000 + p1ξ.toNat)).toNat)))), (3, 0, (V0 32 (2000 + p1ξ.toNat))), (0, 2, (A 0 : Int)), (1, 0, p1ξ), (2, 0, p2ξ)]) (by simp) ?_
          refine loop (10 - (V0 51 (2000 + (V0 32 (2000 + p1ξ.toNat)).toNat))).toNat 0 (zf_kf8_2 V0).2 Ma734 Ga734 (by omega) hMa734ξ hVa734ξ (fun o k hoξ => zf_kf8_2_f (zN8_9 hoξ)) (zLF_f hlwξ (fun o k h8ξ => zf_kf8_2_f (fun hmξ => by have h9ξ : o = 8 ∨ o = 56 ∨ o = 57 ∨ o = 58 := (by simpa using hmξ); omega))) (fun j _ => by rw [hk8ξ]) rfl
        · have hbf733ξ : ¬ (0 ≤ (V 32 (2000 + p1ξ.toNat)) ∧ (V 32 (2000 + p1ξ.toNat)) < (npξ : Int) ∧ (V 32 (2000 + p1ξ.toNat)) < 6) := fun h9ξ => absurd ((Iff.mpr hti730ξ) h9ξ) (by omega)
          exfalso
          omega
      · refine zp_const (pc := 29) hx hb (zd_X11_little (29, .iconst (-1), 1, 0, []) (List.mem_of_getElem? (i := 13) rfl)) rfl rfl ?_
        refine zp_iret (pc := 30) (n := (-1)) hx hb hEξ hQξ hU5ξ rfl (by decide) (zd_X11_little (30, .ireturn, 1, 0, []) (List.mem_of_getElem? (i := 14) rfl)) (j := 0) rfl (zp_o0 (by omega) (by omega) (by omega) (by omega)) ?_
        rw [hpsξ]
        refine ⟨rfl, ?_⟩
        refine ⟨V, ⟨M, hMξ, hVξ, trivial⟩, fun o k _ => rfl, ?_⟩
        show (-1) = (if (0 ≤ p1ξ ∧ p1ξ < (n1ξ : Int)) ∧ 0 ≤ p2ξ ∧ p2ξ ≤ 12 then zv_li (zRc V 2 50) n1ξ npξ Lwξ p1ξ.toNat p2ξ else -1)
        rw [if_pos ⟨by omega, by omega⟩]
        unfold zv_li
        rw [show zRc V 2 50 (p1ξ.toNat + 29) = V 52 (2000 + p1ξ.toNat) from zRc_d (show p1ξ.toNat < 10 by omega), show zRc V 2 50 (5 * p1ξ.toNat + 40) = V 33 (2000 + p1ξ.toNat) from zRc_w (i := 1) (by omega) (by omega), if_neg (by omega)]
