/-! part i2: the class over logical cells: goings kept, taken, worn, wound; doings remembered and undone -/
theorem zl_sto {P : Nat → Option Nat} {f : zk_F} {lo hi v : Int} (h : f.1 = 0 ∧ f.2.2.1 = lo ∧ f.2.2.2 = hi) (h1ξ : lo ≤ v) (h2ξ : v ≤ hi) (h3ξ : -2147483648 ≤ v) (h4ξ : v ≤ 2147483647) : zk_ok P f v := by
  obtain ⟨k, t, a, b⟩ := f
  obtain ⟨e1, e2, e3⟩ := h
  dsimp only at e1 e2 e3
  subst e1 e2 e3
  exact ⟨h1ξ, h2ξ, h3ξ, h4ξ⟩
theorem zl_lod {P : Nat → Option Nat} {f : zk_F} {lo hi v : Int} (h : f.1 = 0 ∧ f.2.2.1 = lo ∧ f.2.2.2 = hi) (hkξ : zk_ok P f v) : zk_ok P (0, 0, lo, hi) v := by
  obtain ⟨k, t, a, b⟩ := f
  obtain ⟨e1, e2, e3⟩ := h
  dsimp only at e1 e2 e3
  subst e1 e2 e3
  exact ⟨hkξ.1, hkξ.2.1, hkξ.2.2⟩
theorem zl_54m {k j : Nat} : zk_fj (zt_types.getD 54 (0, 0, 0, [])) (26 * k + j) = zk_fj (zt_types.getD 54 (0, 0, 0, [])) j := by
  unfold zk_fj
  rw [show (26 * k + j) % (zk_f0 (zt_types.getD 54 (0, 0, 0, []))).2.1 = j % (zk_f0 (zt_types.getD 54 (0, 0, 0, []))).2.1 from (show (26 * k + j) % 26 = j % 26 by omega)]
theorem zl_k0_54 (j : Nat) : (zk_fj (zt_types.getD 54 (0, 0, 0, [])) j).1 = 0 := by
  have h : ∀ j, j < 26 → (zk_fj (zt_types.getD 54 (0, 0, 0, [])) j).1 = 0 := by decide +kernel
  rw [show j = 26 * (j / 26) + j % 26 by omega, zl_54m]
  exact h _ (by omega)
theorem zl_54r {k j : Nat} (h1ξ : 12 ≤ j) (h2ξ : j < 26) : (zk_fj (zt_types.getD 54 (0, 0, 0, [])) (26 * k + j)).1 = 0 ∧ (zk_fj (zt_types.getD 54 (0, 0, 0, [])) (26 * k + j)).2.2.1 = -2147483648 ∧ (zk_fj (zt_types.getD 54 (0, 0, 0, [])) (26 * k + j)).2.2.2 = 2147483647 := by
  have h : ∀ j, j < 26 → 12 ≤ j → (zk_fj (zt_types.getD 54 (0, 0, 0, [])) j).1 = 0 ∧ (zk_fj (zt_types.getD 54 (0, 0, 0, [])) j).2.2.1 = -2147483648 ∧ (zk_fj (zt_types.getD 54 (0, 0, 0, [])) j).2.2.2 = 2147483647 := by decide +kernel
  rw [zl_54m]
  exact h j h2ξ h1ξ
theorem zl_54c : ∀ q ∈ [(0, 6, 17), (6, 6, 18), (12, 10, 19)], ∀ j, j < q.2.1 → (zk_fj (zt_types.getD 54 (0, 0, 0, [])) (q.1 + j)).1 = 0 ∧ (zk_fj (zt_types.getD q.2.2 (0, 0, 0, [])) j).1 = 0 ∧ (zk_fj (zt_types.getD 54 (0, 0, 0, [])) (q.1 + j)).2.2 = (zk_fj (zt_types.getD q.2.2 (0, 0, 0, [])) j).2.2 := by decide +kernel
theorem zl_54i {P : Nat → Option Nat} {k b n t : Nat} (hmξ : (b, n, t) ∈ [(0, 6, 17), (6, 6, 18), (12, 10, 19)]) : ∀ j, j < n → ∀ v, zk_fv P (zk_fj (zt_types.getD t (0, 0, 0, [])) (0 + j)) v → zk_fv P (zk_fj (zt_types.getD 54 (0, 0, 0, [])) (26 * k + b + j)) v := fun j hjξ v h => by
  rw [Nat.zero_add] at h
  rw [Nat.add_assoc, zl_54m]
  have h9ξ := zl_54c _ hmξ j hjξ
  exact zl_cpf h9ξ.2.1 h9ξ.1 h9ξ.2.2 h
theorem zl_54o {P : Nat → Option Nat} {k b n t : Nat} (hmξ : (b, n, t) ∈ [(0, 6, 17), (6, 6, 18), (12, 10, 19)]) : ∀ j, j < n → ∀ v, zk_fv P (zk_fj (zt_types.getD 54 (0, 0, 0, [])) (26 * k + b + j)) v → zk_fv P (zk_fj (zt_types.getD t (0, 0, 0, [])) (0 + j)) v := fun j hjξ v h => by
  rw [Nat.zero_add]
  rw [Nat.add_assoc, zl_54m] at h
  have h9ξ := zl_54c _ hmξ j hjξ
  exact zl_cpf h9ξ.1 h9ξ.2.1 h9ξ.2.2.symm h
def zf_kf9_2 (V : Nat → Nat → Int) : Int × (Nat → Nat → Int) := (0, (zp_set (zp_set (zp_set (zp_set (zc_cp (zc_cp (zc_cp V 50 0 59 0 6) 51 0 60 0 6) 52 0 61 0 10) 9 3 (V 2 3)) 9 4 (V 2 4)) 9 5 (V 2 5)) 9 6 (V 2 6)))
def zK_kf9_2 : zk_K := (zt_mn 80, prog_4_method_2_code, 2, (Option.none : Option Jvm.ClassFile.FieldType), 1, 2, [(2, 2, 0, 0), (2, 2, 0, 0)], [(none, [])], zUC, (1, 60, 0, 0))
def zφ_kf9_2 (A : Nat → Nat) (Y : List (Nat × Nat)) (F : List (Nat × Nat × Nat)) (V : Nat → Nat → Int) : (Nat → Option Nat) → (Nat → Nat → Int) → List Int → Prop := fun P G ps => zMVc A Y F V P G ∧ ps.getD 0 0 = (A 9 : Int) ∧ zMc Y F ∧ (ps.getD 1 0) = (A 2 : Int)
def zψ_kf9_2 (A : Nat → Nat) (Y : List (Nat × Nat)) (F : List (Nat × Nat × Nat)) (V : Nat → Nat → Int) : (Nat → Option Nat) → (Nat → Nat → Int) → List Int → (Nat → Option Nat) → (Nat → Nat → Int) → Int → Prop := fun P G ps P' G' rn => P' = P ∧ zMVc A Y F (zf_kf9_2 V).2 P' G'
theorem zX_kf9_2 {l : Launch} {w : zk_W} (hWξ : zh_W w) (A : Nat → Nat) (Y : List (Nat × Nat)) (F : List (Nat × Nat × Nat)) (V : Nat → Nat → Int) : zk_metX l w zt_dv zt_TB zK_kf9_2 (zp_A (zφ_kf9_2 A Y F V)) (zp_B (zψ_kf9_2 A Y F V)) ∧ zk_cok w zt_TB zK_kf9_2 := by
  refine zp_methX (cn := "WoundTown$Going") zp_lkallG hWξ (pl := 892) rfl (by decide +kernel) (fun p e R s m args below meth c Q u hx hb hEξ hQξ hU5ξ heffξ hnLξ hokξ hφ => ?_)
  have hwξ := hWξ.1
  obtain ⟨p0ξ, p1ξ, hpsξ, tk0, tk1⟩ := zp_ps2 hokξ
  have hrmξ : zk_Kr (zk_ev (zt_types, zp_lkG, zt_dv, [], [], zp_lcG, zK_kf9_2)) = zk_Kr zK_kf9_2 := rfl
  rw [hpsξ] at hφ ⊢
  have hφ : zMVc A Y F V u.1 (zp_n u.2.1) ∧ p0ξ = (A 9 : Int) ∧ zMc Y F ∧ p1ξ = (A 2 : Int) := hφ
  obtain ⟨⟨M, hMξ, hVξ, hSbξ⟩, rfl, hYFξ, rfl⟩ := hφ
  have hYF0ξ := hYFξ
  obtain ⟨hYbξ, hFbξ, hFxξ, -⟩ := hYFξ
  show zp_J p l e R s m args below meth c Q w u [] 0 [(0, 2, (A 9 : Int)), (1, 2, (A 2 : Int))] [] u.1 (zp_n u.2.1)
  refine zp_load (pc := 0) hx hb (zd_X2_copyFrom (0, .aload_n 1, 1, 0, []) (List.mem_of_getElem? (i := 0) rfl)) rfl (j := 1) rfl ?_
  refine zp_getf (n := (A 50 : Int)) (pc := 1) hx hb hEξ hwξ (zd_X2_copyFrom (1, .getfield 9, 3, 0, []) (List.mem_of_getElem? (i := 1) rfl)) (j := 1) rfl rfl rfl (zM_P hMξ (hYbξ _ (List.mem_of_getElem? (i := 2) rfl))) ((zM_G hMξ (hYbξ _ (List.mem_of_getElem? (i := 2) rfl)) 0).trans (zM_F hMξ (hFbξ _ (List.mem_of_getElem? (i := 25) rfl)))) ?_
  refine zp_const (pc := 4) hx hb (zd_X2_copyFrom (4, .iconst 0, 1, 0, []) (List.mem_of_getElem? (i := 2) rfl)) rfl rfl ?_
  refine zp_load (pc := 5) hx hb (zd_X2_copyFrom (5, .aload_n 0, 1, 0, []) (List.mem_of_getElem? (i := 3) rfl)) rfl (j := 0) rfl ?_
  refine zp_getf (n := (A 59 : Int)) (pc := 6) hx hb hEξ hwξ (zd_X2_copyFrom (6, .getfield 9, 3, 0, []) (List.mem_of_getElem? (i := 4) rfl)) (j := 1) rfl rfl rfl (zM_P hMξ (hYbξ _ (List.mem_of_getElem? (i := 9) rfl))) ((zM_G hMξ (hYbξ _ (List.mem_of_getElem? (i := 9) rfl)) 0).trans (zM_F hMξ (hFbξ _ (List.mem_of_getElem? (i := 34) rfl)))) ?_
  refine zp_const (pc := 9) hx hb (zd_X2_copyFrom (9, .iconst 0, 1, 0, []) (List.mem_of_getElem? (i := 5) rfl)) rfl rfl ?_
  refine zp_const (pc := 10) hx hb (zd_X2_copyFrom (10, .bipush 6, 2, 0, []) (List.mem_of_getElem? (i := 6) rfl)) rfl rfl ?_
  refine zp_copyO (n := 6) (i0 := 0) (i1 := 0) (pc := 12) (idx := 28) (T0 := zt_types.getD 17 (0, 0, 0, [])) (T := zt_types.getD 17 (0, 0, 0, [])) hx hb hEξ hwξ heffξ hrmξ (zd_X2_copyFrom (12, .invokestatic 28, 3, 0, []) (List.mem_of_getElem? (i := 7) rfl)) (j := 8) rfl rfl rfl rfl rfl (zM_P hMξ (hYbξ _ (List.mem_of_getElem? (i := 28) rfl))) (zM_P hMξ (hYbξ _ (List.mem_of_getElem? (i := 37) rfl))) rfl (by omega) (by omega) (show 0 + 6 ≤ 6 by omega) (show 0 + 6 ≤ 6 by omega) (by omega) (fun j hjξ v h => h) ⟨by decide, by decide⟩ (by decide) (Or.inr ⟨by decide, by decide⟩) rfl ?_
  have hMy262ξ : zM A Y F (zc_cp M 50 0 59 0 6) u.1 (zp_cpo (zp_n u.2.1) (A 50) 0 (A 59) 0 6) := zM_cp hMξ (hYbξ _ (List.mem_of_getElem? (i := 28) rfl)) (hYbξ _ (List.mem_of_getElem? (i := 37) rfl))
  have hVy262ξ : ∀ o k, zNc o → (zc_cp M 50 0 59 0 6) o k = (zc_cp V 50 0 59 0 6) o k := zV_cp (o0 := 50) (i0 := 0) (o1 := 59) (i1 := 0) (n := 6) hVξ (fun j => (by decide))
  obtain ⟨Gy262, hGy262ξ⟩ : ∃ G9ξ, G9ξ = zp_cpo (zp_n u.2.1) (A 50) 0 (A 59) 0 6 := ⟨_, rfl⟩
  rw [← hGy262ξ] at hMy262ξ ⊢
  refine zp_load (pc := 15) hx hb (zd_X2_copyFrom (15, .aload_n 1, 1, 0, []) (List.mem_of_getElem? (i := 8) rfl)) rfl (j := 1) rfl ?_
  refine zp_getf (n := (A 51 : Int)) (pc := 16) hx hb hEξ hwξ (zd_X2_copyFrom (16, .getfield 15, 3, 0, []) (List.mem_of_getElem? (i := 9) rfl)) (j := 2) rfl rfl rfl (zM_P hMy262ξ (hYbξ _ (List.mem_of_getElem? (i := 2) rfl))) ((zM_G hMy262ξ (hYbξ _ (List.mem_of_getElem? (i := 2) rfl)) 1).trans (zM_F hMy262ξ (hFbξ _ (List.mem_of_getElem? (i := 26) rfl)))) ?_
  refine zp_const (pc := 19) hx hb (zd_X2_copyFrom (19, .iconst 0, 1, 0, []) (List.mem_of_getElem? (i := 10) rfl)) rfl rfl ?_
  refine zp_load (pc := 20) hx hb (zd_X2_copyFrom (20, .aload_n 0, 1, 0, []) (List.mem_of_getElem? (i := 11) rfl)) rfl (j := 0) rfl ?_
  refine zp_getf (n := (A 60 : Int)) (pc := 21) hx hb hEξ hwξ (zd_X2_copyFrom (21, .getfield 15, 3, 0, []) (List.mem_of_getElem? (i := 12) rfl)) (j := 2) rfl rfl rfl (zM_P hMy262ξ (hYbξ _ (List.mem_of_getElem? (i := 9) rfl))) ((zM_G hMy262ξ (hYbξ _ (List.mem_of_getElem? (i := 9) rfl)) 1).trans (zM_F hMy262ξ (hFbξ _ (List.mem_of_getElem? (i := 35) rfl)))) ?_
  refine zp_const (pc := 24) hx hb (zd_X2_copyFrom (24, .iconst 0, 1, 0, []) (List.mem_of_getElem? (i := 13) rfl)) rfl rfl ?_
  refine zp_const (pc := 25) hx hb (zd_X2_copyFrom (25, .bipush 6, 2, 0, []) (List.mem_of_getElem? (i := 14) rfl)) rfl rfl ?_
  refine zp_copyO (n := 6) (i0 := 0) (i1 := 0) (pc := 27) (idx := 28) (T0 := zt_types.getD 18 (0, 0, 0, [])) (T := zt_types.getD 18 (0, 0, 0, [])) hx hb hEξ hwξ heffξ hrmξ (zd_X2_copyFrom (27, .invokestatic 28, 3, 0, []) (List.mem_of_getElem? (i := 15) rfl)) (j := 8) rfl rfl rfl rfl rfl (zM_P hMy262ξ (hYbξ _ (List.mem_of_getElem? (i := 29) rfl))) (zM_P hMy262ξ (hYbξ _ (List.mem_of_getElem? (i := 38) rfl))) rfl (by omega) (by omega) (show 0 + 6 ≤ 6 by omega) (show 0 + 6 ≤ 6 by omega) (by omega) (fun j hjξ v h => h) ⟨by decide, by decide⟩ (by decide) (Or.inr ⟨by decide, by decide⟩) rfl ?_
  have hMy263ξ : zM A Y F (zc_cp (zc_cp M 50 0 59 0 6) 51 0 60 0 6) u.1 (zp_cpo Gy262 (A 51) 0 (A 60) 0 6) := zM_cp hMy262ξ (hYbξ _ (List.mem_of_getElem? (i := 29) rfl)) (hYbξ _ (List.mem_of_getElem? (i := 38) rfl))
  have hVy263ξ : ∀ o k, zNc o → (zc_cp (zc_cp M 50 0 59 0 6) 51 0 60 0 6) o k = (zc_cp (zc_cp V 50 0 59 0 6) 51 0 60 0 6) o k := zV_cp (o0 := 51) (i0 := 0) (o1 := 60) (i1 := 0) (n := 6) hVy262ξ (fun j => (by decide))
  obtain ⟨Gy263, hGy263ξ⟩ : ∃ G9ξ, G9ξ = zp_cpo Gy262 (A 51) 0 (A 60) 0 6 := ⟨_, rfl⟩
  rw [← hGy263ξ] at hMy263ξ ⊢
  refine zp_load (pc := 30) hx hb (zd_X2_copyFrom (30, .aload_n 1, 1, 0, []) (List.mem_of_getElem? (i := 16) rfl)) rfl (j := 1) rfl ?_
  refine zp_getf (n := (A 52 : Int)) (pc := 31) hx hb hEξ hwξ (zd_X2_copyFrom (31, .getfield 18, 3, 0, []) (List.mem_of_getElem? (i := 17) rfl)) (j := 3) rfl rfl rfl (zM_P hMy263ξ (hYbξ _ (List.mem_of_getElem? (i := 2) rfl))) ((zM_G hMy263ξ (hYbξ _ (List.mem_of_getElem? (i := 2) rfl)) 2).trans (zM_F hMy263ξ (hFbξ _ (List.mem_of_getElem? (i := 27) rfl)))) ?_
  refine zp_const (pc := 34) hx hb (zd_X2_copyFrom (34, .iconst 0, 1, 0, []) (List.mem_of_getElem? (i := 18) rfl)) rfl rfl ?_
  refine zp_load (pc := 35) hx hb (zd_X2_copyFrom (35, .aload_n 0, 1, 0, []) (List.mem_of_getElem? (i := 19) rfl)) rfl (j := 0) rfl ?_
  refine zp_getf (n := (A 61 : Int)) (pc := 36) hx hb hEξ hwξ (zd_X2_copyFrom (36, .getfield 18, 3, 0, []) (List.mem_of_getElem? (i := 20) rfl)) (j := 3) rfl rfl rfl (zM_P hMy263ξ (hYbξ _ (List.mem_of_getElem? (i := 9) rfl))) ((zM_G hMy263ξ (hYbξ _ (List.mem_of_getElem? (i := 9) rfl)) 2).trans (zM_F hMy263ξ (hFbξ _ (List.mem_of_getElem? (i := 36) rfl)))) ?_
  refine zp_const (pc := 39) hx hb (zd_X2_copyFrom (39, .iconst 0, 1, 0, []) (List.mem_of_getElem? (i := 21) rfl)) rfl rfl ?_
  refine zp_const (pc := 40) hx hb (zd_X2_copyFrom (40, .bipush 10, 2, 0, []) (List.mem_of_getElem? (i := 22) rfl)) rfl rfl ?_
  refine zp_copyO (n := 10) (i0 := 0) (i1 := 0) (pc := 42) (idx := 28) (T0 := zt_types.getD 19 (0, 0, 0, [])) (T := zt_types.getD 19 (0, 0, 0, [])) hx hb hEξ hwξ heffξ hrmξ (zd_X2_copyFrom (42, .invokestatic 28, 3, 0, []) (List.mem_of_getElem? (i := 23) rfl)) (j := 8) rfl rfl rfl rfl rfl (zM_P hMy263ξ (hYbξ _ (List.mem_of_getElem? (i := 30) rfl))) (zM_P hMy263ξ (hYbξ _ (List.mem_of_getElem? (i := 39) rfl))) rfl (by omega) (by omega) (show 0 + 10 ≤ 10 by omega) (show 0 + 10 ≤ 10 by omega) (by omega) (fun j hjξ v h => h) ⟨by decide, by decide⟩ (by decide) (Or.inr ⟨by decide, by decide⟩) rfl ?_
  have hMy264ξ : zM A Y F (zc_cp (zc_cp (zc_cp M 50 0 59 0 6) 51 0 60 0 6) 52 0 61 0 10) u.1 (zp_cpo Gy263 (A 52) 0 (A 61) 0 10) := zM_cp hMy263ξ (hYbξ _ (List.mem_of_getElem? (i := 30) rfl)) (hYbξ _ (List.mem_of_getElem? (i := 39) rfl))
  have hVy264ξ : ∀ o k, zNc o → (zc_cp (zc_cp (zc_cp M 50 0 59 0 6) 51 0 60 0 6) 52 0 61 0 10) o k = (zc_cp (zc_cp (zc_cp V 50 0 59 0 6) 51 0 60 0 6) 52 0 61 0 10) o k := zV_cp (o0 := 52) (i0 := 0) (o1 := 61) (i1 := 0) (n := 10) hVy263ξ (fun j => (by decide))
  obtain ⟨Gy264, hGy264ξ⟩ : ∃ G9ξ, G9ξ = zp_cpo Gy263 (A 52) 0 (A 61) 0 10 := ⟨_, rfl⟩
  rw [← hGy264ξ] at hMy264ξ ⊢
  refine zp_load (pc := 45) hx hb (zd_X2_copyFrom (45, .aload_n 0, 1, 0, []) (List.mem_of_getElem? (i := 24) rfl)) rfl (j := 0) rfl ?_
  refine zp_load (pc := 46) hx hb (zd_X2_copyFrom (46, .aload_n 1, 1, 0, []) (List.mem_of_getElem? (i := 25) rfl)) rfl (j := 1) rfl ?_
  refine zp_getf (n := (V 2 3)) (pc := 47) hx hb hEξ hwξ (zd_X2_copyFrom (47, .getfield 21, 3, 0, []) (List.mem_of_getElem? (i := 26) rfl)) (j := 4) rfl rfl rfl (zM_P hMy264ξ (hYbξ _ (List.mem_of_getElem? (i := 2) rfl))) (((zM_G hMy264ξ (hYbξ _ (List.mem_of_getElem? (i := 2) rfl)) 3).trans (hVy264ξ 2 3 (by decide))).trans (Eq.trans (zc_cp_o (by decide)) (Eq.trans rfl (Eq.trans (zc_cp_o (by decide)) (Eq.trans rfl (zc_cp_o (by decide))))))) ?_
  refine zp_kn (k := 3) (a := (A 2)) hwξ (show zp_fd 2 3 = some (2, 0, 0, (-2147483648), 2147483647) from rfl) rfl (zM_P hMy264ξ (hYbξ _ (List.mem_of_getElem? (i := 2) rfl))) (fun hf265ξ => ?_)
  have hf265bξ := zp_int hf265ξ
  rw [(((zM_G hMy264ξ (hYbξ _ (List.mem_of_getElem? (i := 2) rfl)) 3).trans (hVy264ξ 2 3 (by decide))).trans (Eq.trans (zc_cp_o (by decide)) (Eq.trans rfl (Eq.trans (zc_cp_o (by decide)) (Eq.trans rfl (zc_cp_o (by decide)))))))] at hf265bξ
  clear hf265ξ
  refine zp_putf (pc := 50) hx hb hEξ hwξ heffξ (zd_X2_copyFrom (50, .putfield 21, 3, 0, []) (List.mem_of_getElem? (i := 27) rfl)) (j := 4) rfl rfl rfl (zM_P hMy264ξ (hYbξ _ (List.mem_of_getElem? (i := 9) rfl))) (zp_o0 (by omega) (by omega) (by omega) (by omega)) ?_
  refine zp_load (pc := 53) hx hb (zd_X2_copyFrom (53, .aload_n 0, 1, 0, []) (List.mem_of_getElem? (i := 28) rfl)) rfl (j := 0) rfl ?_
  refine zp_load (pc := 54) hx hb (zd_X2_copyFrom (54, .aload_n 1, 1, 0, []) (List.mem_of_getElem? (i := 29) rfl)) rfl (j := 1) rfl ?_
  refine zp_getf (n := (V 2 4)) (pc := 55) hx hb hEξ hwξ (zd_X2_copyFrom (55, .getfield 34, 3, 0, []) (List.mem_of_getElem? (i := 30) rfl)) (j := 5) rfl rfl rfl (zM_P hMy264ξ (hYbξ _ (List.mem_of_getElem? (i := 2) rfl))) ((zp_set_ne (Or.inl (zM_ne hMy264ξ (hYbξ _ (List.mem_of_getElem? (i := 2) rfl)) (hYbξ _ (List.mem_of_getElem? (i := 9) rfl)) (by decide)))).trans ((((zM_G hMy264ξ (hYbξ _ (List.mem_of_getElem? (i := 2) rfl)) 4).trans (hVy264ξ 2 4 (by decide))).trans (Eq.trans (zc_cp_o (by decide)) (Eq.trans rfl (Eq.trans (zc_cp_o (by decide)) (Eq.trans rfl (zc_cp_o (by decide))))))))) ?_
  refine zp_kn (k := 4) (a := (A 2)) hwξ (show zp_fd 2 4 = some (2, 0, 0, 0, 1) from rfl) rfl (zM_P hMy264ξ (hYbξ _ (List.mem_of_getElem? (i := 2) rfl))) (fun hf266ξ => ?_)
  have hf266bξ := zp_int hf266ξ
  rw [((zp_set_ne (Or.inl (zM_ne hMy264ξ (hYbξ _ (List.mem_of_getElem? (i := 2) rfl)) (hYbξ _ (List.mem_of_getElem? (i := 9) rfl)) (by decide)))).trans ((((zM_G hMy264ξ (hYbξ _ (List.mem_of_getElem? (i := 2) rfl)) 4).trans (hVy264ξ 2 4 (by decide))).trans (Eq.trans (zc_cp_o (by decide)) (Eq.trans rfl (Eq.trans (zc_cp_o (by decide)) (Eq.trans rfl (zc_cp_o (by decide)))))))))] at hf266bξ
  clear hf266ξ
  refine zp_putf (pc := 58) hx hb hEξ hwξ heffξ (zd_X2_copyFrom (58, .putfield 34, 3, 0, []) (List.mem_of_getElem? (i := 31) rfl)) (j := 5) rfl rfl rfl (zM_P hMy264ξ (hYbξ _ (List.mem_of_getElem? (i := 9) rfl))) (zp_o0 (by omega) (by omega) (by omega) (by omega)) ?_
  refine zp_load (pc := 61) hx hb (zd_X2_copyFrom (61, .aload_n 0, 1, 0, []) (List.mem_of_getElem? (i := 32) rfl)) rfl (j := 0) rfl ?_
  refine zp_load (pc := 62) hx hb (zd_X2_copyFrom (62, .aload_n 1, 1, 0, []) (List.mem_of_getElem? (i := 33) rfl)) rfl (j := 1) rfl ?_
  refine zp_getf (n := (V 2 5)) (pc := 63) hx hb hEξ hwξ (zd_X2_copyFrom (63, .getfield 25, 3, 0, []) (List.mem_of_getElem? (i := 34) rfl)) (j := 6) rfl rfl rfl (zM_P hMy264ξ (hYbξ _ (List.mem_of_getElem? (i := 2) rfl))) ((zp_set_ne (Or.inl (zM_ne hMy264ξ (hYbξ _ (List.mem_of_getElem? (i := 2) rfl)) (hYbξ _ (List.mem_of_getElem? (i := 9) rfl)) (by decide)))).trans ((zp_set_ne (Or.inl (zM_ne hMy264ξ (hYbξ _ (List.mem_of_getElem? (i := 2) rfl)) (hYbξ _ (List.mem_of_getElem? (i := 9) rfl)) (by decide)))).trans ((((zM_G hMy264ξ (hYbξ _ (List.mem_of_getElem? (i := 2) rfl)) 5).trans (hVy264ξ 2 5 (by decide))).trans (Eq.trans (zc_cp_o (by decide)) (Eq.trans rfl (Eq.trans (zc_cp_o (by decide)) (Eq.trans rfl (zc_cp_o (by decide)))))))))) ?_
  refine zp_kn (k := 5) (a := (A 2)) hwξ (show zp_fd 2 5 = some (2, 0, 0, (-2147483648), 2147483647) from rfl) rfl (zM_P hMy264ξ (hYbξ _ (List.mem_of_getElem? (i := 2) rfl))) (fun hf267ξ => ?_)
  have hf267bξ := zp_int hf267ξ
  rw [((zp_set_ne (Or.inl (zM_ne hMy264ξ (hYbξ _ (List.mem_of_getElem? (i := 2) rfl)) (hYbξ _ (List.mem_of_getElem? (i := 9) rfl)) (by decide)))).trans ((zp_set_ne (Or.inl (zM_ne hMy264ξ (hYbξ _ (List.mem_of_getElem? (i := 2) rfl)) (hYbξ _ (List.mem_of_getElem? (i := 9) rfl)) (by decide)))).trans ((((zM_G hMy264ξ (hYbξ _ (List.mem_of_getElem? (i := 2) rfl)) 5).trans (hVy264ξ 2 5 (by decide))).trans (Eq.trans (zc_cp_o (by decide)) (Eq.trans rfl (Eq.trans (zc_cp_o (by decide)) (Eq.trans rfl (zc_cp_o (by decide))))))))))] at hf267bξ
  clear hf267ξ
  refine zp_putf (pc := 66) hx hb hEξ hwξ heffξ (zd_X2_copyFrom (66, .putfield 25, 3, 0, []) (List.mem_of_getElem? (i := 35) rfl)) (j := 6) rfl rfl rfl (zM_P hMy264ξ (hYbξ _ (List.mem_of_getElem? (i := 9) rfl))) (zp_o0 (by omega) (by omega) (by omega) (by omega)) ?_
  refine zp_load (pc := 69) hx hb (zd_X2_copyFrom (69, .aload_n 0, 1, 0, []) (List.mem_of_getElem? (i := 36) rfl)) rfl (j := 0) rfl ?_
  refine zp_load (pc := 70) hx hb (zd_X2_copyFrom (70, .aload_n 1, 1, 0, []) (List.mem_of_getElem? (i := 37) rfl)) rfl (j := 1) rfl ?_
  refine zp_getf (n := (V 2 6)) (pc := 71) hx hb hEξ hwξ (zd_X2_copyFrom (71, .getfield 38, 3, 0, []) (List.mem_of_getElem? (i := 38) rfl)) (j := 7) rfl rfl rfl (zM_P hMy264ξ (hYbξ _ (List.mem_of_getElem? (i := 2) rfl))) ((zp_set_ne (Or.inl (zM_ne hMy264ξ (hYbξ _ (List.mem_of_getElem? (i := 2) rfl)) (hYbξ _ (List.mem_of_getElem? (i := 9) rfl)) (by decide)))).trans ((zp_set_ne (Or.inl (zM_ne hMy264ξ (hYbξ _ (List.mem_of_getElem? (i := 2) rfl)) (hYbξ _ (List.mem_of_getElem? (i := 9) rfl)) (by decide)))).trans ((zp_set_ne (Or.inl (zM_ne hMy264ξ (hYbξ _ (List.mem_of_getElem? (i := 2) rfl)) (hYbξ _ (List.mem_of_getElem? (i := 9) rfl)) (by decide)))).trans ((((zM_G hMy264ξ (hYbξ _ (List.mem_of_getElem? (i := 2) rfl)) 6).trans (hVy264ξ 2 6 (by decide))).trans (Eq.trans (zc_cp_o (by decide)) (Eq.trans rfl (Eq.trans (zc_cp_o (by decide)) (Eq.trans rfl (zc_cp_o (by decide))))))))))) ?_
  refine zp_kn (k := 6) (a := (A 2)) hwξ (show zp_fd 2 6 = some (2, 0, 0, (-2147483648), 2147483647) from rfl) rfl (zM_P hMy264ξ (hYbξ _ (List.mem_of_getElem? (i := 2) rfl))) (fun hf268ξ => ?_)
  have hf268bξ := zp_int hf268ξ
  rw [((zp_set_ne (Or.inl (zM_ne hMy264ξ (hYbξ _ (List.mem_of_getElem? (i := 2) rfl)) (hYbξ _ (List.mem_of_getElem? (i := 9) rfl)) (by decide)))).trans ((zp_set_ne (Or.inl (zM_ne hMy264ξ (hYbξ _ (List.mem_of_getElem? (i := 2) rfl)) (hYbξ _ (List.mem_of_getElem? (i := 9) rfl)) (by decide)))).trans ((zp_set_ne (Or.inl (zM_ne hMy264ξ (hYbξ _ (List.mem_of_getElem? (i := 2) rfl)) (hYbξ _ (List.mem_of_getElem? (i := 9) rfl)) (by decide)))).trans ((((zM_G hMy264ξ (hYbξ _ (List.mem_of_getElem? (i := 2) rfl)) 6).trans (hVy264ξ 2 6 (by decide))).trans (Eq.trans (zc_cp_o (by decide)) (Eq.trans rfl (Eq.trans (zc_cp_o (by decide)) (Eq.trans rfl (zc_cp_o (by decide)))))))))))] at hf268bξ
  clear hf268ξ
  refine zp_putf (pc := 74) hx hb hEξ hwξ heffξ (zd_X2_copyFrom (74, .putfield 38, 3, 0, []) (List.mem_of_getElem? (i := 39) rfl)) (j := 7) rfl rfl rfl (zM_P hMy264ξ (hYbξ _ (List.mem_of_getElem? (i := 9) rfl))) (zp_o0 (by omega) (by omega) (by omega) (by omega)) ?_
  refine zp_vret (pc := 77) hx hb hEξ hQξ hU5ξ rfl (by decide) (zd_X2_copyFrom (77, .return_, 1, 0, []) (List.mem_of_getElem? (i := 40) rfl)) (j := 0) rfl ?_
  rw [hpsξ]
  refine ⟨rfl, ?_⟩
  have hffξ : zf_kf9_2 V = (0, (zp_set (zp_set (zp_set (zp_set (zc_cp (zc_cp (zc_cp V 50 0 59 0 6) 51 0 60 0 6) 52 0 61 0 10) 9 3 (V 2 3)) 9 4 (V 2 4)) 9 5 (V 2 5)) 9 6 (V 2 6))) := rfl
  show zMVc A Y F (zf_kf9_2 V).2 u.1 (zp_set (zp_set (zp_set (zp_set Gy264 (A 9) 3 (V 2 3)) (A 9) 4 (V 2 4)) (A 9) 5 (V 2 5)) (A 9) 6 (V 2 6))
  rw [hffξ]
  exact ⟨(zp_set (zp_set (zp_set (zp_set (zc_cp (zc_cp (zc_cp M 50 0 59 0 6) 51 0 60 0 6) 52 0 61 0 10) 9 3 (V 2 3)) 9 4 (V 2 4)) 9 5 (V 2 5)) 9 6 (V 2 6)), (zM_set (zM_set (zM_set (zM_set hMy264ξ (hYbξ _ (List.mem_of_getElem? (i := 9) rfl)) (zFx hFxξ (o := 9) (k := 3) (by decide) (by decide))) (hYbξ _ (List.mem_of_getElem? (i := 9) rfl)) (zFx hFxξ (o := 9) (k := 4) (by decide) (by decide))) (hYbξ _ (List.mem_of_getElem? (i := 9) rfl)) (zFx hFxξ (o := 9) (k := 5) (by decide) (by decide))) (hYbξ _ (List.mem_of_getElem? (i := 9) rfl)) (zFx hFxξ (o := 9) (k := 6) (by decide) (by decide))), (zV_set (zV_set (zV_set (zV_set hVy264ξ)))), trivial⟩
theorem zf_kf9_2_f {V : Nat → Nat → Int} {o k : Nat} (h9ξ : o ∉ ([9, 59, 60, 61] : List Nat)) : (zf_kf9_2 V).2 o k = V o k := by
  unfold zf_kf9_2
  show (zp_set (zp_set (zp_set (zp_set (zc_cp (zc_cp (zc_cp V 50 0 59 0 6) 51 0 60 0 6) 52 0 61 0 10) 9 3 (V 2 3)) 9 4 (V 2 4)) 9 5 (V 2 5)) 9 6 (V 2 6)) o k = V o k
  exact ((zp_set_ne (Or.inl (zc_nin h9ξ (by decide)))).trans ((zp_set_ne (Or.inl (zc_nin h9ξ (by decide)))).trans ((zp_set_ne (Or.inl (zc_nin h9ξ (by decide)))).trans ((zp_set_ne (Or.inl (zc_nin h9ξ (by decide)))).trans ((zc_cp_o (zc_nin h9ξ (by decide))).trans ((zc_cp_o (zc_nin h9ξ (by decide))).trans (zc_cp_o (zc_nin h9ξ (by decide)))))))))
def zf_kf2_9 (V : Nat → Nat → Int) : Int × (Nat → Nat → Int) := (0, (zp_set (zp_set (zp_set (zp_set (zc_cp (zc_cp (zc_cp V 59 0 50 0 6) 60 0 51 0 6) 61 0 52 0 10) 2 3 (V 9 3)) 2 4 (V 9 4)) 2 5 (V 9 5)) 2 6 (V 9 6)))
def zK_kf2_9 : zk_K := (zt_mn 80, prog_4_method_2_code, 2, (Option.none : Option Jvm.ClassFile.FieldType), 1, 2, [(2, 2, 0, 0), (2, 2, 0, 0)], [(none, [])], zUC, (1, 60, 0, 0))
def zφ_kf2_9 (A : Nat → Nat) (Y : List (Nat × Nat)) (F : List (Nat × Nat × Nat)) (V : Nat → Nat → Int) : (Nat → Option Nat) → (Nat → Nat → Int) → List Int → Prop := fun P G ps => zMVc A Y F V P G ∧ ps.getD 0 0 = (A 2 : Int) ∧ zMc Y F ∧ (ps.getD 1 0) = (A 9 : Int)
def zψ_kf2_9 (A : Nat → Nat) (Y : List (Nat × Nat)) (F : List (Nat × Nat × Nat)) (V : Nat → Nat → Int) : (Nat → Option Nat) → (Nat → Nat → Int) → List Int → (Nat → Option Nat) → (Nat → Nat → Int) → Int → Prop := fun P G ps P' G' rn => P' = P ∧ zMVc A Y F (zf_kf2_9 V).2 P' G'
theorem zX_kf2_9 {l : Launch} {w : zk_W} (hWξ : zh_W w) (A : Nat → Nat) (Y : List (Nat × Nat)) (F : List (Nat × Nat × Nat)) (V : Nat → Nat → Int) : zk_metX l w zt_dv zt_TB zK_kf2_9 (zp_A (zφ_kf2_9 A Y F V)) (zp_B (zψ_kf2_9 A Y F V)) ∧ zk_cok w zt_TB zK_kf2_9 := by
  refine zp_methX (cn := "WoundTown$Going") zp_lkallG hWξ (pl := 892) rfl (by decide +kernel) (fun p e R s m args below meth c Q u hx hb hEξ hQξ hU5ξ heffξ hnLξ hokξ hφ => ?_)
  have hwξ := hWξ.1
  obtain ⟨p0ξ, p1ξ, hpsξ, tk0, tk1⟩ := zp_ps2 hokξ
  have hrmξ : zk_Kr (zk_ev (zt_types, zp_lkG, zt_dv, [], [], zp_lcG, zK_kf2_9)) = zk_Kr zK_kf2_9 := rfl
  rw [hpsξ] at hφ ⊢
  have hφ : zMVc A Y F V u.1 (zp_n u.2.1) ∧ p0ξ = (A 2 : Int) ∧ zMc Y F ∧ p1ξ = (A 9 : Int) := hφ
  obtain ⟨⟨M, hMξ, hVξ, hSbξ⟩, rfl, hYFξ, rfl⟩ := hφ
  have hYF0ξ := hYFξ
  obtain ⟨hYbξ, hFbξ, hFxξ, -⟩ := hYFξ
  show zp_J p l e R s m args below meth c Q w u [] 0 [(0, 2, (A 2 : Int)), (1, 2, (A 9 : Int))] [] u.1 (zp_n u.2.1)
  refine zp_load (pc := 0) hx hb (zd_X2_copyFrom (0, .aload_n 1, 1, 0, []) (List.mem_of_getElem? (i := 0) rfl)) rfl (j := 1) rfl ?_
  refine zp_getf (n := (A 59 : Int)) (pc := 1) hx hb hEξ hwξ (zd_X2_copyFrom (1, .getfield 9, 3, 0, []) (List.mem_of_getElem? (i := 1) rfl)) (j := 1) rfl rfl rfl (zM_P hMξ (hYbξ _ (List.mem_of_getElem? (i := 9) rfl))) ((zM_G hMξ (hYbξ _ (List.mem_of_getElem? (i := 9) rfl)) 0).trans (zM_F hMξ (hFbξ _ (List.mem_of_getElem? (i := 34) rfl)))) ?_
  refine zp_const (pc := 4) hx hb (zd_X2_copyFrom (4, .iconst 0, 1, 0, []) (List.mem_of_getElem? (i := 2) rfl)) rfl rfl ?_
  refine zp_load (pc := 5) hx hb (zd_X2_copyFrom (5, .aload_n 0, 1, 0, []) (List.mem_of_getElem? (i := 3) rfl)) rfl (j := 0) rfl ?_
  refine zp_getf (n := (A 50 : Int)) (pc := 6) hx hb hEξ hwξ (zd_X2_copyFrom (6, .getfield 9, 3, 0, []) (List.mem_of_getElem? (i := 4) rfl)) (j := 1) rfl rfl rfl (zM_P hMξ (hYbξ _ (List.mem_of_getElem? (i := 2) rfl))) ((zM_G hMξ (hYbξ _ (List.mem_of_getElem? (i := 2) rfl)) 0).trans (zM_F hMξ (hFbξ _ (List.mem_of_getElem? (i := 25) rfl)))) ?_
  refine zp_const (pc := 9) hx hb (zd_X2_copyFrom (9, .iconst 0, 1, 0, []) (List.mem_of_getElem? (i := 5) rfl)) rfl rfl ?_
  refine zp_const (pc := 10) hx hb (zd_X2_copyFrom (10, .bipush 6, 2, 0, []) (List.mem_of_getElem? (i := 6) rfl)) rfl rfl ?_
  refine zp_copyO (n := 6) (i0 := 0) (i1 := 0) (pc := 12) (idx := 28) (T0 := zt_types.getD 17 (0, 0, 0, [])) (T := zt_types.getD 17 (0, 0, 0, [])) hx hb hEξ hwξ heffξ hrmξ (zd_X2_copyFrom (12, .invokestatic 28, 3, 0, []) (List.mem_of_getElem? (i := 7) rfl)) (j := 8) rfl rfl rfl rfl rfl (zM_P hMξ (hYbξ _ (List.mem_of_getElem? (i := 37) rfl))) (zM_P hMξ (hYbξ _ (List.mem_of_getElem? (i := 28) rfl))) rfl (by omega) (by omega) (show 0 + 6 ≤ 6 by omega) (show 0 + 6 ≤ 6 by omega) (by omega) (fun j hjξ v h => h) ⟨by decide, by decide⟩ (by decide) (Or.inr ⟨by decide, by decide⟩) rfl ?_
  have hMy269ξ : zM A Y F (zc_cp M 59 0 50 0 6) u.1 (zp_cpo (zp_n u.2.1) (A 59) 0 (A 50) 0 6) := zM_cp hMξ (hYbξ _ (List.mem_of_getElem? (i := 37) rfl)) (hYbξ _ (List.mem_of_getElem? (i := 28) rfl))
  have hVy269ξ : ∀ o k, zNc o → (zc_cp M 59 0 50 0 6) o k = (zc_cp V 59 0 50 0 6) o k := zV_cp (o0 := 59) (i0 := 0) (o1 := 50) (i1 := 0) (n := 6) hVξ (fun j => (by decide))
  obtain ⟨Gy269, hGy269ξ⟩ : ∃ G9ξ, G9ξ = zp_cpo (zp_n u.2.1) (A 59) 0 (A 50) 0 6 := ⟨_, rfl⟩
  rw [← hGy269ξ] at hMy269ξ ⊢
  refine zp_load (pc := 15) hx hb (zd_X2_copyFrom (15, .aload_n 1, 1, 0, []) (List.mem_of_getElem? (i := 8) rfl)) rfl (j := 1) rfl ?_
  refine zp_getf (n := (A 60 : Int)) (pc := 16) hx hb hEξ hwξ (zd_X2_copyFrom (16, .getfield 15, 3, 0, []) (List.mem_of_getElem? (i := 9) rfl)) (j := 2) rfl rfl rfl (zM_P hMy269ξ (hYbξ _ (List.mem_of_getElem? (i := 9) rfl))) ((zM_G hMy269ξ (hYbξ _ (List.mem_of_getElem? (i := 9) rfl)) 1).trans (zM_F hMy269ξ (hFbξ _ (List.mem_of_getElem? (i := 35) rfl)))) ?_
  refine zp_const (pc := 19) hx hb (zd_X2_copyFrom (19, .iconst 0, 1, 0, []) (List.mem_of_getElem? (i := 10) rfl)) rfl rfl ?_
  refine zp_load (pc := 20) hx hb (zd_X2_copyFrom (20, .aload_n 0, 1, 0, []) (List.mem_of_getElem? (i := 11) rfl)) rfl (j := 0) rfl ?_
  refine zp_getf (n := (A 51 : Int)) (pc := 21) hx hb hEξ hwξ (zd_X2_copyFrom (21, .getfield 15, 3, 0, []) (List.mem_of_getElem? (i := 12) rfl)) (j := 2) rfl rfl rfl (zM_P hMy269ξ (hYbξ _ (List.mem_of_getElem? (i := 2) rfl))) ((zM_G hMy269ξ (hYbξ _ (List.mem_of_getElem? (i := 2) rfl)) 1).trans (zM_F hMy269ξ (hFbξ _ (List.mem_of_getElem? (i := 26) rfl)))) ?_
  refine zp_const (pc := 24) hx hb (zd_X2_copyFrom (24, .iconst 0, 1, 0, []) (List.mem_of_getElem? (i := 13) rfl)) rfl rfl ?_
  refine zp_const (pc := 25) hx hb (zd_X2_copyFrom (25, .bipush 6, 2, 0, []) (List.mem_of_getElem? (i := 14) rfl)) rfl rfl ?_
  refine zp_copyO (n := 6) (i0 := 0) (i1 := 0) (pc := 27) (idx := 28) (T0 := zt_types.getD 18 (0, 0, 0, [])) (T := zt_types.getD 18 (0, 0, 0, [])) hx hb hEξ hwξ heffξ hrmξ (zd_X2_copyFrom (27, .invokestatic 28, 3, 0, []) (List.mem_of_getElem? (i := 15) rfl)) (j := 8) rfl rfl rfl rfl rfl (zM_P hMy269ξ (hYbξ _ (List.mem_of_getElem? (i := 38) rfl))) (zM_P hMy269ξ (hYbξ _ (List.mem_of_getElem? (i := 29) rfl))) rfl (by omega) (by omega) (show 0 + 6 ≤ 6 by omega) (show 0 + 6 ≤ 6 by omega) (by omega) (fun j hjξ v h => h) ⟨by decide, by decide⟩ (by decide) (Or.inr ⟨by decide, by decide⟩) rfl ?_
  have hMy270ξ : zM A Y F (zc_cp (zc_cp M 59 0 50 0 6) 60 0 51 0 6) u.1 (zp_cpo Gy269 (A 60) 0 (A 51) 0 6) := zM_cp hMy269ξ (hYbξ _ (List.mem_of_getElem? (i := 38) rfl)) (hYbξ _ (List.mem_of_getElem? (i := 29) rfl))
  have hVy270ξ : ∀ o k, zNc o → (zc_cp (zc_cp M 59 0 50 0 6) 60 0 51 0 6) o k = (zc_cp (zc_cp V 59 0 50 0 6) 60 0 51 0 6) o k := zV_cp (o0 := 60) (i0 := 0) (o1 := 51) (i1 := 0) (n := 6) hVy269ξ (fun j => (by decide))
  obtain ⟨Gy270, hGy270ξ⟩ : ∃ G9ξ, G9ξ = zp_cpo Gy269 (A 60) 0 (A 51) 0 6 := ⟨_, rfl⟩
  rw [← hGy270ξ] at hMy270ξ ⊢
  refine zp_load (pc := 30) hx hb (zd_X2_copyFrom (30, .aload_n 1, 1, 0, []) (List.mem_of_getElem? (i := 16) rfl)) rfl (j := 1) rfl ?_
  refine zp_getf (n := (A 61 : Int)) (pc := 31) hx hb hEξ hwξ (zd_X2_copyFrom (31, .getfield 18, 3, 0, []) (List.mem_of_getElem? (i := 17) rfl)) (j := 3) rfl rfl rfl (zM_P hMy270ξ (hYbξ _ (List.mem_of_getElem? (i := 9) rfl))) ((zM_G hMy270ξ (hYbξ _ (List.mem_of_getElem? (i := 9) rfl)) 2).trans (zM_F hMy270ξ (hFbξ _ (List.mem_of_getElem? (i := 36) rfl)))) ?_
  refine zp_const (pc := 34) hx hb (zd_X2_copyFrom (34, .iconst 0, 1, 0, []) (List.mem_of_getElem? (i := 18) rfl)) rfl rfl ?_
  refine zp_load (pc := 35) hx hb (zd_X2_copyFrom (35, .aload_n 0, 1, 0, []) (List.mem_of_getElem? (i := 19) rfl)) rfl (j := 0) rfl ?_
  refine zp_getf (n := (A 52 : Int)) (pc := 36) hx hb hEξ hwξ (zd_X2_copyFrom (36, .getfield 18, 3, 0, []) (List.mem_of_getElem? (i := 20) rfl)) (j := 3) rfl rfl rfl (zM_P hMy270ξ (hYbξ _ (List.mem_of_getElem? (i := 2) rfl))) ((zM_G hMy270ξ (hYbξ _ (List.mem_of_getElem? (i := 2) rfl)) 2).trans (zM_F hMy270ξ (hFbξ _ (List.mem_of_getElem? (i := 27) rfl)))) ?_
  refine zp_const (pc := 39) hx hb (zd_X2_copyFrom (39, .iconst 0, 1, 0, []) (List.mem_of_getElem? (i := 21) rfl)) rfl rfl ?_
  refine zp_const (pc := 40) hx hb (zd_X2_copyFrom (40, .bipush 10, 2, 0, []) (List.mem_of_getElem? (i := 22) rfl)) rfl rfl ?_
  refine zp_copyO (n := 10) (i0 := 0) (i1 := 0) (pc := 42) (idx := 28) (T0 := zt_types.getD 19 (0, 0, 0, [])) (T := zt_types.getD 19 (0, 0, 0, [])) hx hb hEξ hwξ heffξ hrmξ (zd_X2_copyFrom (42, .invokestatic 28, 3, 0, []) (List.mem_of_getElem? (i := 23) rfl)) (j := 8) rfl rfl rfl rfl rfl (zM_P hMy270ξ (hYbξ _ (List.mem_of_getElem? (i := 39) rfl))) (zM_P hMy270ξ (hYbξ _ (List.mem_of_getElem? (i := 30) rfl))) rfl (by omega) (by omega) (show 0 + 10 ≤ 10 by omega) (show 0 + 10 ≤ 10 by omega) (by omega) (fun j hjξ v h => h) ⟨by decide, by decide⟩ (by decide) (Or.inr ⟨by decide, by decide⟩) rfl ?_
  have hMy271ξ : zM A Y F (zc_cp (zc_cp (zc_cp M 59 0 50 0 6) 60 0 51 0 6) 61 0 52 0 10) u.1 (zp_cpo Gy270 (A 61) 0 (A 52) 0 10) := zM_cp hMy270ξ (hYbξ _ (List.mem_of_getElem? (i := 39) rfl)) (hYbξ _ (List.mem_of_getElem? (i := 30) rfl))
  have hVy271ξ : ∀ o k, zNc o → (zc_cp (zc_cp (zc_cp M 59 0 50 0 6) 60 0 51 0 6) 61 0 52 0 10) o k = (zc_cp (zc_cp (zc_cp V 59 0 50 0 6) 60 0 51 0 6) 61 0 52 0 10) o k := zV_cp (o0 := 61) (i0 := 0) (o1 := 52) (i1 := 0) (n := 10) hVy270ξ (fun j => (by decide))
  obtain ⟨Gy271, hGy271ξ⟩ : ∃ G9ξ, G9ξ = zp_cpo Gy270 (A 61) 0 (A 52) 0 10 := ⟨_, rfl⟩
  rw [← hGy271ξ] at hMy271ξ ⊢
  refine zp_load (pc := 45) hx hb (zd_X2_copyFrom (45, .aload_n 0, 1, 0, []) (List.mem_of_getElem? (i := 24) rfl)) rfl (j := 0) rfl ?_
  refine zp_load (pc := 46) hx hb (zd_X2_copyFrom (46, .aload_n 1, 1, 0, []) (List.mem_of_getElem? (i := 25) rfl)) rfl (j := 1) rfl ?_
  refine zp_getf (n := (V 9 3)) (pc := 47) hx hb hEξ hwξ (zd_X2_copyFrom (47, .getfield 21, 3, 0, []) (List.mem_of_getElem? (i := 26) rfl)) (j := 4) rfl rfl rfl (zM_P hMy271ξ (hYbξ _ (List.mem_of_getElem? (i := 9) rfl))) (((zM_G hMy271ξ (hYbξ _ (List.mem_of_getElem? (i := 9) rfl)) 3).trans (hVy271ξ 9 3 (by decide))).trans (Eq.trans (zc_cp_o (by decide)) (Eq.trans rfl (Eq.trans (zc_cp_o (by decide)) (Eq.trans rfl (zc_cp_o (by decide))))))) ?_
  refine zp_kn (k := 3) (a := (A 9)) hwξ (show zp_fd 2 3 = some (2, 0, 0, (-2147483648), 2147483647) from rfl) rfl (zM_P hMy271ξ (hYbξ _ (List.mem_of_getElem? (i := 9) rfl))) (fun hf272ξ => ?_)
  have hf272bξ := zp_int hf272ξ
  rw [(((zM_G hMy271ξ (hYbξ _ (List.mem_of_getElem? (i := 9) rfl)) 3).trans (hVy271ξ 9 3 (by decide))).trans (Eq.trans (zc_cp_o (by decide)) (Eq.trans rfl (Eq.trans (zc_cp_o (by decide)) (Eq.trans rfl (zc_cp_o (by decide)))))))] at hf272bξ
  clear hf272ξ
  refine zp_putf (pc := 50) hx hb hEξ hwξ heffξ (zd_X2_copyFrom (50, .putfield 21, 3, 0, []) (List.mem_of_getElem? (i := 27) rfl)) (j := 4) rfl rfl rfl (zM_P hMy271ξ (hYbξ _ (List.mem_of_getElem? (i := 2) rfl))) (zp_o0 (by omega) (by omega) (by omega) (by omega)) ?_
  refine zp_load (pc := 53) hx hb (zd_X2_copyFrom (53, .aload_n 0, 1, 0, []) (List.mem_of_getElem? (i := 28) rfl)) rfl (j := 0) rfl ?_
  refine zp_load (pc := 54) hx hb (zd_X2_copyFrom (54, .aload_n 1, 1, 0, []) (List.mem_of_getElem? (i := 29) rfl)) rfl (j := 1) rfl ?_
  refine zp_getf (n := (V 9 4)) (pc := 55) hx hb hEξ hwξ (zd_X2_copyFrom (55, .getfield 34, 3, 0, []) (List.mem_of_getElem? (i := 30) rfl)) (j := 5) rfl rfl rfl (zM_P hMy271ξ (hYbξ _ (List.mem_of_getElem? (i := 9) rfl))) ((zp_set_ne (Or.inl (zM_ne hMy271ξ (hYbξ _ (List.mem_of_getElem? (i := 9) rfl)) (hYbξ _ (List.mem_of_getElem? (i := 2) rfl)) (by decide)))).trans ((((zM_G hMy271ξ (hYbξ _ (List.mem_of_getElem? (i := 9) rfl)) 4).trans (hVy271ξ 9 4 (by decide))).trans (Eq.trans (zc_cp_o (by decide)) (Eq.trans rfl (Eq.trans (zc_cp_o (by decide)) (Eq.trans rfl (zc_cp_o (by decide))))))))) ?_
  refine zp_kn (k := 4) (a := (A 9)) hwξ (show zp_fd 2 4 = some (2, 0, 0, 0, 1) from rfl) rfl (zM_P hMy271ξ (hYbξ _ (List.mem_of_getElem? (i := 9) rfl))) (fun hf273ξ => ?_)
  have hf273bξ := zp_int hf273ξ
  rw [((zp_set_ne (Or.inl (zM_ne hMy271ξ (hYbξ _ (List.mem_of_getElem? (i := 9) rfl)) (hYbξ _ (List.mem_of_getElem? (i := 2) rfl)) (by decide)))).trans ((((zM_G hMy271ξ (hYbξ _ (List.mem_of_getElem? (i := 9) rfl)) 4).trans (hVy271ξ 9 4 (by decide))).trans (Eq.trans (zc_cp_o (by decide)) (Eq.trans rfl (Eq.trans (zc_cp_o (by decide)) (Eq.trans rfl (zc_cp_o (by decide)))))))))] at hf273bξ
  clear hf273ξ
  refine zp_putf (pc := 58) hx hb hEξ hwξ heffξ (zd_X2_copyFrom (58, .putfield 34, 3, 0, []) (List.mem_of_getElem? (i := 31) rfl)) (j := 5) rfl rfl rfl (zM_P hMy271ξ (hYbξ _ (List.mem_of_getElem? (i := 2) rfl))) (zp_o0 (by omega) (by omega) (by omega) (by omega)) ?_
  refine zp_load (pc := 61) hx hb (zd_X2_copyFrom (61, .aload_n 0, 1, 0, []) (List.mem_of_getElem? (i := 32) rfl)) rfl (j := 0) rfl ?_
  refine zp_load (pc := 62) hx hb (zd_X2_copyFrom (62, .aload_n 1, 1, 0, []) (List.mem_of_getElem? (i := 33) rfl)) rfl (j := 1) rfl ?_
  refine zp_getf (n := (V 9 5)) (pc := 63) hx hb hEξ hwξ (zd_X2_copyFrom (63, .getfield 25, 3, 0, []) (List.mem_of_getElem? (i := 34) rfl)) (j := 6) rfl rfl rfl (zM_P hMy271ξ (hYbξ _ (List.mem_of_getElem? (i := 9) rfl))) ((zp_set_ne (Or.inl (zM_ne hMy271ξ (hYbξ _ (List.mem_of_getElem? (i := 9) rfl)) (hYbξ _ (List.mem_of_getElem? (i := 2) rfl)) (by decide)))).trans ((zp_set_ne (Or.inl (zM_ne hMy271ξ (hYbξ _ (List.mem_of_getElem? (i := 9) rfl)) (hYbξ _ (List.mem_of_getElem? (i := 2) rfl)) (by decide)))).trans ((((zM_G hMy271ξ (hYbξ _ (List.mem_of_getElem? (i := 9) rfl)) 5).trans (hVy271ξ 9 5 (by decide))).trans (Eq.trans (zc_cp_o (by decide)) (Eq.trans rfl (Eq.trans (zc_cp_o (by decide)) (Eq.trans rfl (zc_cp_o (by decide)))))))))) ?_
  refine zp_kn (k := 5) (a := (A 9)) hwξ (show zp_fd 2 5 = some (2, 0, 0, (-2147483648), 2147483647) from rfl) rfl (zM_P hMy271ξ (hYbξ _ (List.mem_of_getElem? (i := 9) rfl))) (fun hf274ξ => ?_)
  have hf274bξ := zp_int hf274ξ
  rw [((zp_set_ne (Or.inl (zM_ne hMy271ξ (hYbξ _ (List.mem_of_getElem? (i := 9) rfl)) (hYbξ _ (List.mem_of_getElem? (i := 2) rfl)) (by decide)))).trans ((zp_set_ne (Or.inl (zM_ne hMy271ξ (hYbξ _ (List.mem_of_getElem? (i := 9) rfl)) (hYbξ _ (List.mem_of_getElem? (i := 2) rfl)) (by decide)))).trans ((((zM_G hMy271ξ (hYbξ _ (List.mem_of_getElem? (i := 9) rfl)) 5).trans (hVy271ξ 9 5 (by decide))).trans (Eq.trans (zc_cp_o (by decide)) (Eq.trans rfl (Eq.trans (zc_cp_o (by decide)) (Eq.trans rfl (zc_cp_o (by decide))))))))))] at hf274bξ
  clear hf274ξ
  refine zp_putf (pc := 66) hx hb hEξ hwξ heffξ (zd_X2_copyFrom (66, .putfield 25, 3, 0, []) (List.mem_of_getElem? (i := 35) rfl)) (j := 6) rfl rfl rfl (zM_P hMy271ξ (hYbξ _ (List.mem_of_getElem? (i := 2) rfl))) (zp_o0 (by omega) (by omega) (by omega) (by omega)) ?_
  refine zp_load (pc := 69) hx hb (zd_X2_copyFrom (69, .aload_n 0, 1, 0, []) (List.mem_of_getElem? (i := 36) rfl)) rfl (j := 0) rfl ?_
  refine zp_load (pc := 70) hx hb (zd_X2_copyFrom (70, .aload_n 1, 1, 0, []) (List.mem_of_getElem? (i := 37) rfl)) rfl (j := 1) rfl ?_
  refine zp_getf (n := (V 9 6)) (pc := 71) hx hb hEξ hwξ (zd_X2_copyFrom (71, .getfield 38, 3, 0, []) (List.mem_of_getElem? (i := 38) rfl)) (j := 7) rfl rfl rfl (zM_P hMy271ξ (hYbξ _ (List.mem_of_getElem? (i := 9) rfl))) ((zp_set_ne (Or.inl (zM_ne hMy271ξ (hYbξ _ (List.mem_of_getElem? (i := 9) rfl)) (hYbξ _ (List.mem_of_getElem? (i := 2) rfl)) (by decide)))).trans ((zp_set_ne (Or.inl (zM_ne hMy271ξ (hYbξ _ (List.mem_of_getElem? (i := 9) rfl)) (hYbξ _ (List.mem_of_getElem? (i := 2) rfl)) (by decide)))).trans ((zp_set_ne (Or.inl (zM_ne hMy271ξ (hYbξ _ (List.mem_of_getElem? (i := 9) rfl)) (hYbξ _ (List.mem_of_getElem? (i := 2) rfl)) (by decide)))).trans ((((zM_G hMy271ξ (hYbξ _ (List.mem_of_getElem? (i := 9) rfl)) 6).trans (hVy271ξ 9 6 (by decide))).trans (Eq.trans (zc_cp_o (by decide)) (Eq.trans rfl (Eq.trans (zc_cp_o (by decide)) (Eq.trans rfl (zc_cp_o (by decide))))))))))) ?_
  refine zp_kn (k := 6) (a := (A 9)) hwξ (show zp_fd 2 6 = some (2, 0, 0, (-2147483648), 2147483647) from rfl) rfl (zM_P hMy271ξ (hYbξ _ (List.mem_of_getElem? (i := 9) rfl))) (fun hf275ξ => ?_)
  have hf275bξ := zp_int hf275ξ
  rw [((zp_set_ne (Or.inl (zM_ne hMy271ξ (hYbξ _ (List.mem_of_getElem? (i := 9) rfl)) (hYbξ _ (List.mem_of_getElem? (i := 2) rfl)) (by decide)))).trans ((zp_set_ne (Or.inl (zM_ne hMy271ξ (hYbξ _ (List.mem_of_getElem? (i := 9) rfl)) (hYbξ _ (List.mem_of_getElem? (i := 2) rfl)) (by decide)))).trans ((zp_set_ne (Or.inl (zM_ne hMy271ξ (hYbξ _ (List.mem_of_getElem? (i := 9) rfl)) (hYbξ _ (List.mem_of_getElem? (i := 2) rfl)) (by decide)))).trans ((((zM_G hMy271ξ (hYbξ _ (List.mem_of_getElem? (i := 9) rfl)) 6).trans (hVy271ξ 9 6 (by decide))).trans (Eq.trans (zc_cp_o (by decide)) (Eq.trans rfl (Eq.trans (zc_cp_o (by decide)) (Eq.trans rfl (zc_cp_o (by decide)))))))))))] at hf275bξ
  clear hf275ξ
  refine zp_putf (pc := 74) hx hb hEξ hwξ heffξ (zd_X2_copyFrom (74, .putfield 38, 3, 0, []) (List.mem_of_getElem? (i := 39) rfl)) (j := 7) rfl rfl rfl (zM_P hMy271ξ (hYbξ _ (List.mem_of_getElem? (i := 2) rfl))) (zp_o0 (by omega) (by omega) (by omega) (by omega)) ?_
  refine zp_vret (pc := 77) hx hb hEξ hQξ hU5ξ rfl (by decide) (zd_X2_copyFrom (77, .return_, 1, 0, []) (List.mem_of_getElem? (i := 40) rfl)) (j := 0) rfl ?_
  rw [hpsξ]
  refine ⟨rfl, ?_⟩
  have hffξ : zf_kf2_9 V = (0, (zp_set (zp_set (zp_set (zp_set (zc_cp (zc_cp (zc_cp V 59 0 50 0 6) 60 0 51 0 6) 61 0 52 0 10) 2 3 (V 9 3)) 2 4 (V 9 4)) 2 5 (V 9 5)) 2 6 (V 9 6))) := rfl
  show zMVc A Y F (zf_kf2_9 V).2 u.1 (zp_set (zp_set (zp_set (zp_set Gy271 (A 2) 3 (V 9 3)) (A 2) 4 (V 9 4)) (A 2) 5 (V 9 5)) (A 2) 6 (V 9 6))
  rw [hffξ]
  exact ⟨(zp_set (zp_set (zp_set (zp_set (zc_cp (zc_cp (zc_cp M 59 0 50 0 6) 60 0 51 0 6) 61 0 52 0 10) 2 3 (V 9 3)) 2 4 (V 9 4)) 2 5 (V 9 5)) 2 6 (V 9 6)), (zM_set (zM_set (zM_set (zM_set hMy271ξ (hYbξ _ (List.mem_of_getElem? (i := 2) rfl)) (zFx hFxξ (o := 2) (k := 3) (by decide) (by decide))) (hYbξ _ (List.mem_of_getElem? (i := 2) rfl)) (zFx hFxξ (o := 2) (k := 4) (by decide) (by decide))) (hYbξ _ (List.mem_of_getElem? (i := 2) rfl)) (zFx hFxξ (o := 2) (k := 5) (by decide) (by decide))) (hYbξ _ (List.mem_of_getElem? (i := 2) rfl)) (zFx hFxξ (o := 2) (k := 6) (by decide) (by decide))), (zV_set (zV_set (zV_set (zV_set hVy271ξ)))), trivial⟩
theorem zf_kf2_9_f {V : Nat → Nat → Int} {o k : Nat} (h9ξ : o ∉ ([2, 50, 51, 52] : List Nat)) : (zf_kf2_9 V).2 o k = V o k := by
  unfold zf_kf2_9
  show (zp_set (zp_set (zp_set (zp_set (zc_cp (zc_cp (zc_cp V 59 0 50 0 6) 60 0 51 0 6) 61 0 52 0 10) 2 3 (V 9 3)) 2 4 (V 9 4)) 2 5 (V 9 5)) 2 6 (V 9 6)) o k = V o k
  exact ((zp_set_ne (Or.inl (zc_nin h9ξ (by decide)))).trans ((zp_set_ne (Or.inl (zc_nin h9ξ (by decide)))).trans ((zp_set_ne (Or.inl (zc_nin h9ξ (by decide)))).trans ((zp_set_ne (Or.inl (zc_nin h9ξ (by decide)))).trans ((zc_cp_o (zc_nin h9ξ (by decide))).trans ((zc_cp_o (zc_nin h9ξ (by decide))).trans (zc_cp_o (zc_nin h9ξ (by decide)))))))))
def zf_kf8_2 (V : Nat → Nat → Int) : Int × (Nat → Nat → Int) := (0, (zp_set (zp_set (zp_set (zp_set (zc_cp (zc_cp (zc_cp V 50 0 56 0 6) 51 0 57 0 6) 52 0 58 0 10) 8 3 (V 2 3)) 8 4 (V 2 4)) 8 5 (V 2 5)) 8 6 (V 2 6)))
def zK_kf8_2 : zk_K := (zt_mn 80, prog_4_method_2_code, 2, (Option.none : Option Jvm.ClassFile.FieldType), 1, 2, [(2, 2, 0, 0), (2, 2, 0, 0)], [(none, [])], zUC, (1, 60, 0, 0))
def zφ_kf8_2 (A : Nat → Nat) (Y : List (Nat × Nat)) (F : List (Nat × Nat × Nat)) (V : Nat → Nat → Int) : (Nat → Option Nat) → (Nat → Nat → Int) → List Int → Prop := fun P G ps => zMVc A Y F V P G ∧ ps.getD 0 0 = (A 8 : Int) ∧ zMc Y F ∧ (ps.getD 1 0) = (A 2 : Int)
def zψ_kf8_2 (A : Nat → Nat) (Y : List (Nat × Nat)) (F : List (Nat × Nat × Nat)) (V : Nat → Nat → Int) : (Nat → Option Nat) → (Nat → Nat → Int) → List Int → (Nat → Option Nat) → (Nat → Nat → Int) → Int → Prop := fun P G ps P' G' rn => P' = P ∧ zMVc A Y F (zf_kf8_2 V).2 P' G'
theorem zX_kf8_2 {l : Launch} {w : zk_W} (hWξ : zh_W w) (A : Nat → Nat) (Y : List (Nat × Nat)) (F : List (Nat × Nat × Nat)) (V : Nat → Nat → Int) : zk_metX l w zt_dv zt_TB zK_kf8_2 (zp_A (zφ_kf8_2 A Y F V)) (zp_B (zψ_kf8_2 A Y F V)) ∧ zk_cok w zt_TB zK_kf8_2 := by
  refine zp_methX (cn := "WoundTown$Going") zp_lkallG hWξ (pl := 892) rfl (by decide +kernel) (fun p e R s m args below meth c Q u hx hb hEξ hQξ hU5ξ heffξ hnLξ hokξ hφ => ?_)
  have hwξ := hWξ.1
  obtain ⟨p0ξ, p1ξ, hpsξ, tk0, tk1⟩ := zp_ps2 hokξ
  have hrmξ : zk_Kr (zk_ev (zt_types, zp_lkG, zt_dv, [], [], zp_lcG, zK_kf8_2)) = zk_Kr zK_kf8_2 := rfl
  rw [hpsξ] at hφ ⊢
  have hφ : zMVc A Y F V u.1 (zp_n u.2.1) ∧ p0ξ = (A 8 : Int) ∧ zMc Y F ∧ p1ξ = (A 2 : Int) := hφ
  obtain ⟨⟨M, hMξ, hVξ, hSbξ⟩, rfl, hYFξ, rfl⟩ := hφ
  have hYF0ξ := hYFξ
  obtain ⟨hYbξ, hFbξ, hFxξ, -⟩ := hYFξ
  show zp_J p l e R s m args below meth c Q w u [] 0 [(0, 2, (A 8 : Int)), (1, 2, (A 2 : Int))] [] u.1 (zp_n u.2.1)
  refine zp_load (pc := 0) hx hb (zd_X2_copyFrom (0, .aload_n 1, 1, 0, []) (List.mem_of_getElem? (i := 0) rfl)) rfl (j := 1) rfl ?_
  refine zp_getf (n := (A 50 : Int)) (pc := 1) hx hb hEξ hwξ (zd_X2_copyFrom (1, .getfield 9, 3, 0, []) (List.mem_of_getElem? (i := 1) rfl)) (j := 1) rfl rfl rfl (zM_P hMξ (hYbξ _ (List.mem_of_getElem? (i := 2) rfl))) ((zM_G hMξ (hYbξ _ (List.mem_of_getElem? (i := 2) rfl)) 0).trans (zM_F hMξ (hFbξ _ (List.mem_of_getElem? (i := 25) rfl)))) ?_
  refine zp_const (pc := 4) hx hb (zd_X2_copyFrom (4, .iconst 0, 1, 0, []) (List.mem_of_getElem? (i := 2) rfl)) rfl rfl ?_
  refine zp_load (pc := 5) hx hb (zd_X2_copyFrom (5, .aload_n 0, 1, 0, []) (List.mem_of_getElem? (i := 3) rfl)) rfl (j := 0) rfl ?_
  refine zp_getf (n := (A 56 : Int)) (pc := 6) hx hb hEξ hwξ (zd_X2_copyFrom (6, .getfield 9, 3, 0, []) (List.mem_of_getElem? (i := 4) rfl)) (j := 1) rfl rfl rfl (zM_P hMξ (hYbξ _ (List.mem_of_getElem? (i := 8) rfl))) ((zM_G hMξ (hYbξ _ (List.mem_of_getElem? (i := 8) rfl)) 0).trans (zM_F hMξ (hFbξ _ (List.mem_of_getElem? (i := 31) rfl)))) ?_
  refine zp_const (pc := 9) hx hb (zd_X2_copyFrom (9, .iconst 0, 1, 0, []) (List.mem_of_getElem? (i := 5) rfl)) rfl rfl ?_
  refine zp_const (pc := 10) hx hb (zd_X2_copyFrom (10, .bipush 6, 2, 0, []) (List.mem_of_getElem? (i := 6) rfl)) rfl rfl ?_
  refine zp_copyO (n := 6) (i0 := 0) (i1 := 0) (pc := 12) (idx := 28) (T0 := zt_types.getD 17 (0, 0, 0, [])) (T := zt_types.getD 17 (0, 0, 0, [])) hx hb hEξ hwξ heffξ hrmξ (zd_X2_copyFrom (12, .invokestatic 28, 3, 0, []) (List.mem_of_getElem? (i := 7) rfl)) (j := 8) rfl rfl rfl rfl rfl (zM_P hMξ (hYbξ _ (List.mem_of_getElem? (i := 28) rfl))) (zM_P hMξ (hYbξ _ (List.mem_of_getElem? (i := 34) rfl))) rfl (by omega) (by omega) (show 0 + 6 ≤ 6 by omega) (show 0 + 6 ≤ 6 by omega) (by omega) (fun j hjξ v h => h) ⟨by decide, by decide⟩ (by decide) (Or.inr ⟨by decide, by decide⟩) rfl ?_
  have hMy276ξ : zM A Y F (zc_cp M 50 0 56 0 6) u.1 (zp_cpo (zp_n u.2.1) (A 50) 0 (A 56) 0 6) := zM_cp hMξ (hYbξ _ (List.mem_of_getElem? (i := 28) rfl)) (hYbξ _ (List.mem_of_getElem? (i := 34) rfl))
  have hVy276ξ : ∀ o k, zNc o → (zc_cp M 50 0 56 0 6) o k = (zc_cp V 50 0 56 0 6) o k := zV_cp (o0 := 50) (i0 := 0) (o1 := 56) (i1 := 0) (n := 6) hVξ (fun j => (by decide))
  obtain ⟨Gy276, hGy276ξ⟩ : ∃ G9ξ, G9ξ = zp_cpo (zp_n u.2.1) (A 50) 0 (A 56) 0 6 := ⟨_, rfl⟩
  rw [← hGy276ξ] at hMy276ξ ⊢
  refine zp_load (pc := 15) hx hb (zd_X2_copyFrom (15, .aload_n 1, 1, 0, []) (List.mem_of_getElem? (i := 8) rfl)) rfl (j := 1) rfl ?_
  refine zp_getf (n := (A 51 : Int)) (pc := 16) hx hb hEξ hwξ (zd_X2_copyFrom (16, .getfield 15, 3, 0, []) (List.mem_of_getElem? (i := 9) rfl)) (j := 2) rfl rfl rfl (zM_P hMy276ξ (hYbξ _ (List.mem_of_getElem? (i := 2) rfl))) ((zM_G hMy276ξ (hYbξ _ (List.mem_of_getElem? (i := 2) rfl)) 1).trans (zM_F hMy276ξ (hFbξ _ (List.mem_of_getElem? (i := 26) rfl)))) ?_
  refine zp_const (pc := 19) hx hb (zd_X2_copyFrom (19, .iconst 0, 1, 0, []) (List.mem_of_getElem? (i := 10) rfl)) rfl rfl ?_
  refine zp_load (pc := 20) hx hb (zd_X2_copyFrom (20, .aload_n 0, 1, 0, []) (List.mem_of_getElem? (i := 11) rfl)) rfl (j := 0) rfl ?_
  refine zp_getf (n := (A 57 : Int)) (pc := 21) hx hb hEξ hwξ (zd_X2_copyFrom (21, .getfield 15, 3, 0, []) (List.mem_of_getElem? (i := 12) rfl)) (j := 2) rfl rfl rfl (zM_P hMy276ξ (hYbξ _ (List.mem_of_getElem? (i := 8) rfl))) ((zM_G hMy276ξ (hYbξ _ (List.mem_of_getElem? (i := 8) rfl)) 1).trans (zM_F hMy276ξ (hFbξ _ (List.mem_of_getElem? (i := 32) rfl)))) ?_
  refine zp_const (pc := 24) hx hb (zd_X2_copyFrom (24, .iconst 0, 1, 0, []) (List.mem_of_getElem? (i := 13) rfl)) rfl rfl ?_
  refine zp_const (pc := 25) hx hb (zd_X2_copyFrom (25, .bipush 6, 2, 0, []) (List.mem_of_getElem? (i := 14) rfl)) rfl rfl ?_
  refine zp_copyO (n := 6) (i0 := 0) (i1 := 0) (pc := 27) (idx := 28) (T0 := zt_types.getD 18 (0, 0, 0, [])) (T := zt_types.getD 18 (0, 0, 0, [])) hx hb hEξ hwξ heffξ hrmξ (zd_X2_copyFrom (27, .invokestatic 28, 3, 0, []) (List.mem_of_getElem? (i := 15) rfl)) (j := 8) rfl rfl rfl rfl rfl (zM_P hMy276ξ (hYbξ _ (List.mem_of_getElem? (i := 29) rfl))) (zM_P hMy276ξ (hYbξ _ (List.mem_of_getElem? (i := 35) rfl))) rfl (by omega) (by omega) (show 0 + 6 ≤ 6 by omega) (show 0 + 6 ≤ 6 by omega) (by omega) (fun j hjξ v h => h) ⟨by decide, by decide⟩ (by decide) (Or.inr ⟨by decide, by decide⟩) rfl ?_
  have hMy277ξ : zM A Y F (zc_cp (zc_cp M 50 0 56 0 6) 51 0 57 0 6) u.1 (zp_cpo Gy276 (A 51) 0 (A 57) 0 6) := zM_cp hMy276ξ (hYbξ _ (List.mem_of_getElem? (i := 29) rfl)) (hYbξ _ (List.mem_of_getElem? (i := 35) rfl))
  have hVy277ξ : ∀ o k, zNc o → (zc_cp (zc_cp M 50 0 56 0 6) 51 0 57 0 6) o k = (zc_cp (zc_cp V 50 0 56 0 6) 51 0 57 0 6) o k := zV_cp (o0 := 51) (i0 := 0) (o1 := 57) (i1 := 0) (n := 6) hVy276ξ (fun j => (by decide))
  obtain ⟨Gy277, hGy277ξ⟩ : ∃ G9ξ, G9ξ = zp_cpo Gy276 (A 51) 0 (A 57) 0 6 := ⟨_, rfl⟩
  rw [← hGy277ξ] at hMy277ξ ⊢
  refine zp_load (pc := 30) hx hb (zd_X2_copyFrom (30, .aload_n 1, 1, 0, []) (List.mem_of_getElem? (i := 16) rfl)) rfl (j := 1) rfl ?_
  refine zp_getf (n := (A 52 : Int)) (pc := 31) hx hb hEξ hwξ (zd_X2_copyFrom (31, .getfield 18, 3, 0, []) (List.mem_of_getElem? (i := 17) rfl)) (j := 3) rfl rfl rfl (zM_P hMy277ξ (hYbξ _ (List.mem_of_getElem? (i := 2) rfl))) ((zM_G hMy277ξ (hYbξ _ (List.mem_of_getElem? (i := 2) rfl)) 2).trans (zM_F hMy277ξ (hFbξ _ (List.mem_of_getElem? (i := 27) rfl)))) ?_
  refine zp_const (pc := 34) hx hb (zd_X2_copyFrom (34, .iconst 0, 1, 0, []) (List.mem_of_getElem? (i := 18) rfl)) rfl rfl ?_
  refine zp_load (pc := 35) hx hb (zd_X2_copyFrom (35, .aload_n 0, 1, 0, []) (List.mem_of_getElem? (i := 19) rfl)) rfl (j := 0) rfl ?_
  refine zp_getf (n := (A 58 : Int)) (pc := 36) hx hb hEξ hwξ (zd_X2_copyFrom (36, .getfield 18, 3, 0, []) (List.mem_of_getElem? (i := 20) rfl)) (j := 3) rfl rfl rfl (zM_P hMy277ξ (hYbξ _ (List.mem_of_getElem? (i := 8) rfl))) ((zM_G hMy277ξ (hYbξ _ (List.mem_of_getElem? (i := 8) rfl)) 2).trans (zM_F hMy277ξ (hFbξ _ (List.mem_of_getElem? (i := 33) rfl)))) ?_
  refine zp_const (pc := 39) hx hb (zd_X2_copyFrom (39, .iconst 0, 1, 0, []) (List.mem_of_getElem? (i := 21) rfl)) rfl rfl ?_
  refine zp_const (pc := 40) hx hb (zd_X2_copyFrom (40, .bipush 10, 2, 0, []) (List.mem_of_getElem? (i := 22) rfl)) rfl rfl ?_
  refine zp_copyO (n := 10) (i0 := 0) (i1 := 0) (pc := 42) (idx := 28) (T0 := zt_types.getD 19 (0, 0, 0, [])) (T := zt_types.getD 19 (0, 0, 0, [])) hx hb hEξ hwξ heffξ hrmξ (zd_X2_copyFrom (42, .invokestatic 28, 3, 0, []) (List.mem_of_getElem? (i := 23) rfl)) (j := 8) rfl rfl rfl rfl rfl (zM_P hMy277ξ (hYbξ _ (List.mem_of_getElem? (i := 30) rfl))) (zM_P hMy277ξ (hYbξ _ (List.mem_of_getElem? (i := 36) rfl))) rfl (by omega) (by omega) (show 0 + 10 ≤ 10 by omega) (show 0 + 10 ≤ 10 by omega) (by omega) (fun j hjξ v h => h) ⟨by decide, by decide⟩ (by decide) (Or.inr ⟨by decide, by decide⟩) rfl ?_
  have hMy278ξ : zM A Y F (zc_cp (zc_cp (zc_cp M 50 0 56 0 6) 51 0 57 0 6) 52 0 58 0 10) u.1 (zp_cpo Gy277 (A 52) 0 (A 58) 0 10) := zM_cp hMy277ξ (hYbξ _ (List.mem_of_getElem? (i := 30) rfl)) (hYbξ _ (List.mem_of_getElem? (i := 36) rfl))
  have hVy278ξ : ∀ o k, zNc o → (zc_cp (zc_cp (zc_cp M 50 0 56 0 6) 51 0 57 0 6) 52 0 58 0 10) o k = (zc_cp (zc_cp (zc_cp V 50 0 56 0 6) 51 0 57 0 6) 52 0 58 0 10) o k := zV_cp (o0 := 52) (i0 := 0) (o1 := 58) (i1 := 0) (n := 10) hVy277ξ (fun j => (by decide))
  obtain ⟨Gy278, hGy278ξ⟩ : ∃ G9ξ, G9ξ = zp_cpo Gy277 (A 52) 0 (A 58) 0 10 := ⟨_, rfl⟩
  rw [← hGy278ξ] at hMy278ξ ⊢
  refine zp_load (pc := 45) hx hb (zd_X2_copyFrom (45, .aload_n 0, 1, 0, []) (List.mem_of_getElem? (i := 24) rfl)) rfl (j := 0) rfl ?_
  refine zp_load (pc := 46) hx hb (zd_X2_copyFrom (46, .aload_n 1, 1, 0, []) (List.mem_of_getElem? (i := 25) rfl)) rfl (j := 1) rfl ?_
  refine zp_getf (n := (V 2 3)) (pc := 47) hx hb hEξ hwξ (zd_X2_copyFrom (47, .getfield 21, 3, 0, []) (List.mem_of_getElem? (i := 26) rfl)) (j := 4) rfl rfl rfl (zM_P hMy278ξ (hYbξ _ (List.mem_of_getElem? (i := 2) rfl))) (((zM_G hMy278ξ (hYbξ _ (List.mem_of_getElem? (i := 2) rfl)) 3).trans (hVy278ξ 2 3 (by decide))).trans (Eq.trans (zc_cp_o (by decide)) (Eq.trans rfl (Eq.trans (zc_cp_o (by decide)) (Eq.trans rfl (zc_cp_o (by decide))))))) ?_
  refine zp_kn (k := 3) (a := (A 2)) hwξ (show zp_fd 2 3 = some (2, 0, 0, (-2147483648), 2147483647) from rfl) rfl (zM_P hMy278ξ (hYbξ _ (List.mem_of_getElem? (i := 2) rfl))) (fun hf279ξ => ?_)
  have hf279bξ := zp_int hf279ξ
  rw [(((zM_G hMy278ξ (hYbξ _ (List.mem_of_getElem? (i := 2) rfl)) 3).trans (hVy278ξ 2 3 (by decide))).trans (Eq.trans (zc_cp_o (by decide)) (Eq.trans rfl (Eq.trans (zc_cp_o (by decide)) (Eq.trans rfl (zc_cp_o (by decide)))))))] at hf279bξ
  clear hf279ξ
  refine zp_putf (pc := 50) hx hb hEξ hwξ heffξ (zd_X2_copyFrom (50, .putfield 21, 3, 0, []) (List.mem_of_getElem? (i := 27) rfl)) (j := 4) rfl rfl rfl (zM_P hMy278ξ (hYbξ _ (List.mem_of_getElem? (i := 8) rfl))) (zp_o0 (by omega) (by omega) (by omega) (by omega)) ?_
  refine zp_load (pc := 53) hx hb (zd_X2_copyFrom (53, .aload_n 0, 1, 0, []) (List.mem_of_getElem? (i := 28) rfl)) rfl (j := 0) rfl ?_
  refine zp_load (pc := 54) hx hb (zd_X2_copyFrom (54, .aload_n 1, 1, 0, []) (List.mem_of_getElem? (i := 29) rfl)) rfl (j := 1) rfl ?_
  refine zp_getf (n := (V 2 4)) (pc := 55) hx hb hEξ hwξ (zd_X2_copyFrom (55, .getfield 34, 3, 0, []) (List.mem_of_getElem? (i := 30) rfl)) (j := 5) rfl rfl rfl (zM_P hMy278ξ (hYbξ _ (List.mem_of_getElem? (i := 2) rfl))) ((zp_set_ne (Or.inl (zM_ne hMy278ξ (hYbξ _ (List.mem_of_getElem? (i := 2) rfl)) (hYbξ _ (List.mem_of_getElem? (i := 8) rfl)) (by decide)))).trans ((((zM_G hMy278ξ (hYbξ _ (List.mem_of_getElem? (i := 2) rfl)) 4).trans (hVy278ξ 2 4 (by decide))).trans (Eq.trans (zc_cp_o (by decide)) (Eq.trans rfl (Eq.trans (zc_cp_o (by decide)) (Eq.trans rfl (zc_cp_o (by decide))))))))) ?_
  refine zp_kn (k := 4) (a := (A 2)) hwξ (show zp_fd 2 4 = some (2, 0, 0, 0, 1) from rfl) rfl (zM_P hMy278ξ (hYbξ _ (List.mem_of_getElem? (i := 2) rfl))) (fun hf280ξ => ?_)
  have hf280bξ := zp_int hf280ξ
  rw [((zp_set_ne (Or.inl (zM_ne hMy278ξ (hYbξ _ (List.mem_of_getElem? (i := 2) rfl)) (hYbξ _ (List.mem_of_getElem? (i := 8) rfl)) (by decide)))).trans ((((zM_G hMy278ξ (hYbξ _ (List.mem_of_getElem? (i := 2) rfl)) 4).trans (hVy278ξ 2 4 (by decide))).trans (Eq.trans (zc_cp_o (by decide)) (Eq.trans rfl (Eq.trans (zc_cp_o (by decide)) (Eq.trans rfl (zc_cp_o (by decide)))))))))] at hf280bξ
  clear hf280ξ
  refine zp_putf (pc := 58) hx hb hEξ hwξ heffξ (zd_X2_copyFrom (58, .putfield 34, 3, 0, []) (List.mem_of_getElem? (i := 31) rfl)) (j := 5) rfl rfl rfl (zM_P hMy278ξ (hYbξ _ (List.mem_of_getElem? (i := 8) rfl))) (zp_o0 (by omega) (by omega) (by omega) (by omega)) ?_
  refine zp_load (pc := 61) hx hb (zd_X2_copyFrom (61, .aload_n 0, 1, 0, []) (List.mem_of_getElem? (i := 32) rfl)) rfl (j := 0) rfl ?_
  refine zp_load (pc := 62) hx hb (zd_X2_copyFrom (62, .aload_n 1, 1, 0, []) (List.mem_of_getElem? (i := 33) rfl)) rfl (j := 1) rfl ?_
  refine zp_getf (n := (V 2 5)) (pc := 63) hx hb hEξ hwξ (zd_X2_copyFrom (63, .getfield 25, 3, 0, []) (List.mem_of_getElem? (i := 34) rfl)) (j := 6) rfl rfl rfl (zM_P hMy278ξ (hYbξ _ (List.mem_of_getElem? (i := 2) rfl))) ((zp_set_ne (Or.inl (zM_ne hMy278ξ (hYbξ _ (List.mem_of_getElem? (i := 2) rfl)) (hYbξ _ (List.mem_of_getElem? (i := 8) rfl)) (by decide)))).trans ((zp_set_ne (Or.inl (zM_ne hMy278ξ (hYbξ _ (List.mem_of_getElem? (i := 2) rfl)) (hYbξ _ (List.mem_of_getElem? (i := 8) rfl)) (by decide)))).trans ((((zM_G hMy278ξ (hYbξ _ (List.mem_of_getElem? (i := 2) rfl)) 5).trans (hVy278ξ 2 5 (by decide))).trans (Eq.trans (zc_cp_o (by decide)) (Eq.trans rfl (Eq.trans (zc_cp_o (by decide)) (Eq.trans rfl (zc_cp_o (by decide)))))))))) ?_
  refine zp_kn (k := 5) (a := (A 2)) hwξ (show zp_fd 2 5 = some (2, 0, 0, (-2147483648), 2147483647) from rfl) rfl (zM_P hMy278ξ (hYbξ _ (List.mem_of_getElem? (i := 2) rfl))) (fun hf281ξ => ?_)
  have hf281bξ := zp_int hf281ξ
  rw [((zp_set_ne (Or.inl (zM_ne hMy278ξ (hYbξ _ (List.mem_of_getElem? (i := 2) rfl)) (hYbξ _ (List.mem_of_getElem? (i := 8) rfl)) (by decide)))).trans ((zp_set_ne (Or.inl (zM_ne hMy278ξ (hYbξ _ (List.mem_of_getElem? (i := 2) rfl)) (hYbξ _ (List.mem_of_getElem? (i := 8) rfl)) (by decide)))).trans ((((zM_G hMy278ξ (hYbξ _ (List.mem_of_getElem? (i := 2) rfl)) 5).trans (hVy278ξ 2 5 (by decide))).trans (Eq.trans (zc_cp_o (by decide)) (Eq.trans rfl (Eq.trans (zc_cp_o (by decide)) (Eq.trans rfl (zc_cp_o (by decide))))))))))] at hf281bξ
  clear hf281ξ
  refine zp_putf (pc := 66) hx hb hEξ hwξ heffξ (zd_X2_copyFrom (66, .putfield 25, 3, 0, []) (List.mem_of_getElem? (i := 35) rfl)) (j := 6) rfl rfl rfl (zM_P hMy278ξ (hYbξ _ (List.mem_of_getElem? (i := 8) rfl))) (zp_o0 (by omega) (by omega) (by omega) (by omega)) ?_
  refine zp_load (pc := 69) hx hb (zd_X2_copyFrom (69, .aload_n 0, 1, 0, []) (List.mem_of_getElem? (i := 36) rfl)) rfl (j := 0) rfl ?_
  refine zp_load (pc := 70) hx hb (zd_X2_copyFrom (70, .aload_n 1, 1, 0, []) (List.mem_of_getElem? (i := 37) rfl)) rfl (j := 1) rfl ?_
  refine zp_getf (n := (V 2 6)) (pc := 71) hx hb hEξ hwξ (zd_X2_copyFrom (71, .getfield 38, 3, 0, []) (List.mem_of_getElem? (i := 38) rfl)) (j := 7) rfl rfl rfl (zM_P hMy278ξ (hYbξ _ (List.mem_of_getElem? (i := 2) rfl))) ((zp_set_ne (Or.inl (zM_ne hMy278ξ (hYbξ _ (List.mem_of_getElem? (i := 2) rfl)) (hYbξ _ (List.mem_of_getElem? (i := 8) rfl)) (by decide)))).trans ((zp_set_ne (Or.inl (zM_ne hMy278ξ (hYbξ _ (List.mem_of_getElem? (i := 2) rfl)) (hYbξ _ (List.mem_of_getElem? (i := 8) rfl)) (by decide)))).trans ((zp_set_ne (Or.inl (zM_ne hMy278ξ (hYbξ _ (List.mem_of_getElem? (i := 2) rfl)) (hYbξ _ (List.mem_of_getElem? (i := 8) rfl)) (by decide)))).trans ((((zM_G hMy278ξ (hYbξ _ (List.mem_of_getElem? (i := 2) rfl)) 6).trans (hVy278ξ 2 6 (by decide))).trans (Eq.trans (zc_cp_o (by decide)) (Eq.trans rfl (Eq.trans (zc_cp_o (by decide)) (Eq.trans rfl (zc_cp_o (by decide))))))))))) ?_
  refine zp_kn (k := 6) (a := (A 2)) hwξ (show zp_fd 2 6 = some (2, 0, 0, (-2147483648), 2147483647) from rfl) rfl (zM_P hMy278ξ (hYbξ _ (List.mem_of_getElem? (i := 2) rfl))) (fun hf282ξ => ?_)
  have hf282bξ := zp_int hf282ξ
  rw [((zp_set_ne (Or.inl (zM_ne hMy278ξ (hYbξ _ (List.mem_of_getElem? (i := 2) rfl)) (hYbξ _ (List.mem_of_getElem? (i := 8) rfl)) (by decide)))).trans ((zp_set_ne (Or.inl (zM_ne hMy278ξ (hYbξ _ (List.mem_of_getElem? (i := 2) rfl)) (hYbξ _ (List.mem_of_getElem? (i := 8) rfl)) (by decide)))).trans ((zp_set_ne (Or.inl (zM_ne hMy278ξ (hYbξ _ (List.mem_of_getElem? (i := 2) rfl)) (hYbξ _ (List.mem_of_getElem? (i := 8) rfl)) (by decide)))).trans ((((zM_G hMy278ξ (hYbξ _ (List.mem_of_getElem? (i := 2) rfl)) 6).trans (hVy278ξ 2 6 (by decide))).trans (Eq.trans (zc_cp_o (by decide)) (Eq.trans rfl (Eq.trans (zc_cp_o (by decide)) (Eq.trans rfl (zc_cp_o (by decide)))))))))))] at hf282bξ
  clear hf282ξ
  refine zp_putf (pc := 74) hx hb hEξ hwξ heffξ (zd_X2_copyFrom (74, .putfield 38, 3, 0, []) (List.mem_of_getElem? (i := 39) rfl)) (j := 7) rfl rfl rfl (zM_P hMy278ξ (hYbξ _ (List.mem_of_getElem? (i := 8) rfl))) (zp_o0 (by omega) (by omega) (by omega) (by omega)) ?_
  refine zp_vret (pc := 77) hx hb hEξ hQξ hU5ξ rfl (by decide) (zd_X2_copyFrom (77, .return_, 1, 0, []) (List.mem_of_getElem? (i := 40) rfl)) (j := 0) rfl ?_
  rw [hpsξ]
  refine ⟨rfl, ?_⟩
  have hffξ : zf_kf8_2 V = (0, (zp_set (zp_set (zp_set (zp_set (zc_cp (zc_cp (zc_cp V 50 0 56 0 6) 51 0 57 0 6) 52 0 58 0 10) 8 3 (V 2 3)) 8 4 (V 2 4)) 8 5 (V 2 5)) 8 6 (V 2 6))) := rfl
  show zMVc A Y F (zf_kf8_2 V).2 u.1 (zp_set (zp_set (zp_set (zp_set Gy278 (A 8) 3 (V 2 3)) (A 8) 4 (V 2 4)) (A 8) 5 (V 2 5)) (A 8) 6 (V 2 6))
  rw [hffξ]
  exact ⟨(zp_set (zp_set (zp_set (zp_set (zc_cp (zc_cp (zc_cp M 50 0 56 0 6) 51 0 57 0 6) 52 0 58 0 10) 8 3 (V 2 3)) 8 4 (V 2 4)) 8 5 (V 2 5)) 8 6 (V 2 6)), (zM_set (zM_set (zM_set (zM_set hMy278ξ (hYbξ _ (List.mem_of_getElem? (i := 8) rfl)) (zFx hFxξ (o := 8) (k := 3) (by decide) (by decide))) (hYbξ _ (List.mem_of_getElem? (i := 8) rfl)) (zFx hFxξ (o := 8) (k := 4) (by decide) (by decide))) (hYbξ _ (List.mem_of_getElem? (i := 8) rfl)) (zFx hFxξ (o := 8) (k := 5) (by decide) (by decide))) (hYbξ _ (List.mem_of_getElem? (i := 8) rfl)) (zFx hFxξ (o := 8) (k := 6) (by decide) (by decide))), (zV_set (zV_set (zV_set (zV_set hVy278ξ)))), trivial⟩
theorem zf_kf8_2_f {V : Nat → Nat → Int} {o k : Nat} (h9ξ : o ∉ ([8, 56, 57, 58] : List Nat)) : (zf_kf8_2 V).2 o k = V o k := by
  unfold zf_kf8_2
  show (zp_set (zp_set (zp_set (zp_set (zc_cp (zc_cp (zc_cp V 50 0 56 0 6) 51 0 57 0 6) 52 0 58 0 10) 8 3 (V 2 3)) 8 4 (V 2 4)) 8 5 (V 2 5)) 8 6 (V 2 6)) o k = V o k
  exact ((zp_set_ne (Or.inl (zc_nin h9ξ (by decide)))).trans ((zp_set_ne (Or.inl (zc_nin h9ξ (by decide)))).trans ((zp_set_ne (Or.inl (zc_nin h9ξ (by decide)))).trans ((zp_set_ne (Or.inl (zc_nin h9ξ (by decide)))).trans ((zc_cp_o (zc_nin h9ξ (by decide))).trans ((zc_cp_o (zc_nin h9ξ (by decide))).trans (zc_cp_o (zc_nin h9ξ (by decide)))))))))
def zf_kf7_2 (V : Nat → Nat → Int) : Int × (Nat → Nat → Int) := (0, (zp_set (zp_set (zp_set (zp_set (zc_cp (zc_cp (zc_cp V 50 0 53 0 6) 51 0 54 0 6) 52 0 55 0 10) 7 3 (V 2 3)) 7 4 (V 2 4)) 7 5 (V 2 5)) 7 6 (V 2 6)))
def zK_kf7_2 : zk_K := (zt_mn 80, prog_4_method_2_code, 2, (Option.none : Option Jvm.ClassFile.FieldType), 1, 2, [(2, 2, 0, 0), (2, 2, 0, 0)], [(none, [])], zUC, (1, 60, 0, 0))
def zφ_kf7_2 (A : Nat → Nat) (Y : List (Nat × Nat)) (F : List (Nat × Nat × Nat)) (V : Nat → Nat → Int) : (Nat → Option Nat) → (Nat → Nat → Int) → List Int → Prop := fun P G ps => zMVc A Y F V P G ∧ ps.getD 0 0 = (A 7 : Int) ∧ zMc Y F ∧ (ps.getD 1 0) = (A 2 : Int)
def zψ_kf7_2 (A : Nat → Nat) (Y : List (Nat × Nat)) (F : List (Nat × Nat × Nat)) (V : Nat → Nat → Int) : (Nat → Option Nat) → (Nat → Nat → Int) → List Int → (Nat → Option Nat) → (Nat → Nat → Int) → Int → Prop := fun P G ps P' G' rn => P' = P ∧ zMVc A Y F (zf_kf7_2 V).2 P' G'
theorem zX_kf7_2 {l : Launch} {w : zk_W} (hWξ : zh_W w) (A : Nat → Nat) (Y : List (Nat × Nat)) (F : List (Nat × Nat × Nat)) (V : Nat → Nat → Int) : zk_metX l w zt_dv zt_TB zK_kf7_2 (zp_A (zφ_kf7_2 A Y F V)) (zp_B (zψ_kf7_2 A Y F V)) ∧ zk_cok w zt_TB zK_kf7_2 := by
  refine zp_methX (cn := "WoundTown$Going") zp_lkallG hWξ (pl := 892) rfl (by decide +kernel) (fun p e R s m args below meth c Q u hx hb hEξ hQξ hU5ξ heffξ hnLξ hokξ hφ => ?_)
  have hwξ := hWξ.1
  obtain ⟨p0ξ, p1ξ, hpsξ, tk0, tk1⟩ := zp_ps2 hokξ
  have hrmξ : zk_Kr (zk_ev (zt_types, zp_lkG, zt_dv, [], [], zp_lcG, zK_kf7_2)) = zk_Kr zK_kf7_2 := rfl
  rw [hpsξ] at hφ ⊢
  have hφ : zMVc A Y F V u.1 (zp_n u.2.1) ∧ p0ξ = (A 7 : Int) ∧ zMc Y F ∧ p1ξ = (A 2 : Int) := hφ
  obtain ⟨⟨M, hMξ, hVξ, hSbξ⟩, rfl, hYFξ, rfl⟩ := hφ
  have hYF0ξ := hYFξ
  obtain ⟨hYbξ, hFbξ, hFxξ, -⟩ := hYFξ
  show zp_J p l e R s m args below meth c Q w u [] 0 [(0, 2, (A 7 : Int)), (1, 2, (A 2 : Int))] [] u.1 (zp_n u.2.1)
  refine zp_load (pc := 0) hx hb (zd_X2_copyFrom (0, .aload_n 1, 1, 0, []) (List.mem_of_getElem? (i := 0) rfl)) rfl (j := 1) rfl ?_
  refine zp_getf (n := (A 50 : Int)) (pc := 1) hx hb hEξ hwξ (zd_X2_copyFrom (1, .getfield 9, 3, 0, []) (List.mem_of_getElem? (i := 1) rfl)) (j := 1) rfl rfl rfl (zM_P hMξ (hYbξ _ (List.mem_of_getElem? (i := 2) rfl))) ((zM_G hMξ (hYbξ _ (List.mem_of_getElem? (i := 2) rfl)) 0).trans (zM_F hMξ (hFbξ _ (List.mem_of_getElem? (i := 25) rfl)))) ?_
  refine zp_const (pc := 4) hx hb (zd_X2_copyFrom (4, .iconst 0, 1, 0, []) (List.mem_of_getElem? (i := 2) rfl)) rfl rfl ?_
  refine zp_load (pc := 5) hx hb (zd_X2_copyFrom (5, .aload_n 0, 1, 0, []) (List.mem_of_getElem? (i := 3) rfl)) rfl (j := 0) rfl ?_
  refine zp_getf (n := (A 53 : Int)) (pc := 6) hx hb hEξ hwξ (zd_X2_copyFrom (6, .getfield 9, 3, 0, []) (List.mem_of_getElem? (i := 4) rfl)) (j := 1) rfl rfl rfl (zM_P hMξ (hYbξ _ (List.mem_of_getElem? (i := 7) rfl))) ((zM_G hMξ (hYbξ _ (List.mem_of_getElem? (i := 7) rfl)) 0).trans (zM_F hMξ (hFbξ _ (List.mem_of_getElem? (i := 28) rfl)))) ?_
  refine zp_const (pc := 9) hx hb (zd_X2_copyFrom (9, .iconst 0, 1, 0, []) (List.mem_of_getElem? (i := 5) rfl)) rfl rfl ?_
  refine zp_const (pc := 10) hx hb (zd_X2_copyFrom (10, .bipush 6, 2, 0, []) (List.mem_of_getElem? (i := 6) rfl)) rfl rfl ?_
  refine zp_copyO (n := 6) (i0 := 0) (i1 := 0) (pc := 12) (idx := 28) (T0 := zt_types.getD 17 (0, 0, 0, [])) (T := zt_types.getD 17 (0, 0, 0, [])) hx hb hEξ hwξ heffξ hrmξ (zd_X2_copyFrom (12, .invokestatic 28, 3, 0, []) (List.mem_of_getElem? (i := 7) rfl)) (j := 8) rfl rfl rfl rfl rfl (zM_P hMξ (hYbξ _ (List.mem_of_getElem? (i := 28) rfl))) (zM_P hMξ (hYbξ _ (List.mem_of_getElem? (i := 31) rfl))) rfl (by omega) (by omega) (show 0 + 6 ≤ 6 by omega) (show 0 + 6 ≤ 6 by omega) (by omega) (fun j hjξ v h => h) ⟨by decide, by decide⟩ (by decide) (Or.inr ⟨by decide, by decide⟩) rfl ?_
  have hMy283ξ : zM A Y F (zc_cp M 50 0 53 0 6) u.1 (zp_cpo (zp_n u.2.1) (A 50) 0 (A 53) 0 6) := zM_cp hMξ (hYbξ _ (List.mem_of_getElem? (i := 28) rfl)) (hYbξ _ (List.mem_of_getElem? (i := 31) rfl))
  have hVy283ξ : ∀ o k, zNc o → (zc_cp M 50 0 53 0 6) o k = (zc_cp V 50 0 53 0 6) o k := zV_cp (o0 := 50) (i0 := 0) (o1 := 53) (i1 := 0) (n := 6) hVξ (fun j => (by decide))
  obtain ⟨Gy283, hGy283ξ⟩ : ∃ G9ξ, G9ξ = zp_cpo (zp_n u.2.1) (A 50) 0 (A 53) 0 6 := ⟨_, rfl⟩
  rw [← hGy283ξ] at hMy283ξ ⊢
  refine zp_load (pc := 15) hx hb (zd_X2_copyFrom (15, .aload_n 1, 1, 0, []) (List.mem_of_getElem? (i := 8) rfl)) rfl (j := 1) rfl ?_
  refine zp_getf (n := (A 51 : Int)) (pc := 16) hx hb hEξ hwξ (zd_X2_copyFrom (16, .getfield 15, 3, 0, []) (List.mem_of_getElem? (i := 9) rfl)) (j := 2) rfl rfl rfl (zM_P hMy283ξ (hYbξ _ (List.mem_of_getElem? (i := 2) rfl))) ((zM_G hMy283ξ (hYbξ _ (List.mem_of_getElem? (i := 2) rfl)) 1).trans (zM_F hMy283ξ (hFbξ _ (List.mem_of_getElem? (i := 26) rfl)))) ?_
  refine zp_const (pc := 19) hx hb (zd_X2_copyFrom (19, .iconst 0, 1, 0, []) (List.mem_of_getElem? (i := 10) rfl)) rfl rfl ?_
  refine zp_load (pc := 20) hx hb (zd_X2_copyFrom (20, .aload_n 0, 1, 0, []) (List.mem_of_getElem? (i := 11) rfl)) rfl (j := 0) rfl ?_
  refine zp_getf (n := (A 54 : Int)) (pc := 21) hx hb hEξ hwξ (zd_X2_copyFrom (21, .getfield 15, 3, 0, []) (List.mem_of_getElem? (i := 12) rfl)) (j := 2) rfl rfl rfl (zM_P hMy283ξ (hYbξ _ (List.mem_of_getElem? (i := 7) rfl))) ((zM_G hMy283ξ (hYbξ _ (List.mem_of_getElem? (i := 7) rfl)) 1).trans (zM_F hMy283ξ (hFbξ _ (List.mem_of_getElem? (i := 29) rfl)))) ?_
  refine zp_const (pc := 24) hx hb (zd_X2_copyFrom (24, .iconst 0, 1, 0, []) (List.mem_of_getElem? (i := 13) rfl)) rfl rfl ?_
  refine zp_const (pc := 25) hx hb (zd_X2_copyFrom (25, .bipush 6, 2, 0, []) (List.mem_of_getElem? (i := 14) rfl)) rfl rfl ?_
  refine zp_copyO (n := 6) (i0 := 0) (i1 := 0) (pc := 27) (idx := 28) (T0 := zt_types.getD 18 (0, 0, 0, [])) (T := zt_types.getD 18 (0, 0, 0, [])) hx hb hEξ hwξ heffξ hrmξ (zd_X2_copyFrom (27, .invokestatic 28, 3, 0, []) (List.mem_of_getElem? (i := 15) rfl)) (j := 8) rfl rfl rfl rfl rfl (zM_P hMy283ξ (hYbξ _ (List.mem_of_getElem? (i := 29) rfl))) (zM_P hMy283ξ (hYbξ _ (List.mem_of_getElem? (i := 32) rfl))) rfl (by omega) (by omega) (show 0 + 6 ≤ 6 by omega) (show 0 + 6 ≤ 6 by omega) (by omega) (fun j hjξ v h => h) ⟨by decide, by decide⟩ (by decide) (Or.inr ⟨by decide, by decide⟩) rfl ?_
  have hMy284ξ : zM A Y F (zc_cp (zc_cp M 50 0 53 0 6) 51 0 54 0 6) u.1 (zp_cpo Gy283 (A 51) 0 (A 54) 0 6) := zM_cp hMy283ξ (hYbξ _ (List.mem_of_getElem? (i := 29) rfl)) (hYbξ _ (List.mem_of_getElem? (i := 32) rfl))
  have hVy284ξ : ∀ o k, zNc o → (zc_cp (zc_cp M 50 0 53 0 6) 51 0 54 0 6) o k = (zc_cp (zc_cp V 50 0 53 0 6) 51 0 54 0 6) o k := zV_cp (o0 := 51) (i0 := 0) (o1 := 54) (i1 := 0) (n := 6) hVy283ξ (fun j => (by decide))
  obtain ⟨Gy284, hGy284ξ⟩ : ∃ G9ξ, G9ξ = zp_cpo Gy283 (A 51) 0 (A 54) 0 6 := ⟨_, rfl⟩
  rw [← hGy284ξ] at hMy284ξ ⊢
  refine zp_load (pc := 30) hx hb (zd_X2_copyFrom (30, .aload_n 1, 1, 0, []) (List.mem_of_getElem? (i := 16) rfl)) rfl (j := 1) rfl ?_
  refine zp_getf (n := (A 52 : Int)) (pc := 31) hx hb hEξ hwξ (zd_X2_copyFrom (31, .getfield 18, 3, 0, []) (List.mem_of_getElem? (i := 17) rfl)) (j := 3) rfl rfl rfl (zM_P hMy284ξ (hYbξ _ (List.mem_of_getElem? (i := 2) rfl))) ((zM_G hMy284ξ (hYbξ _ (List.mem_of_getElem? (i := 2) rfl)) 2).trans (zM_F hMy284ξ (hFbξ _ (List.mem_of_getElem? (i := 27) rfl)))) ?_
  refine zp_const (pc := 34) hx hb (zd_X2_copyFrom (34, .iconst 0, 1, 0, []) (List.mem_of_getElem? (i := 18) rfl)) rfl rfl ?_
  refine zp_load (pc := 35) hx hb (zd_X2_copyFrom (35, .aload_n 0, 1, 0, []) (List.mem_of_getElem? (i := 19) rfl)) rfl (j := 0) rfl ?_
  refine zp_getf (n := (A 55 : Int)) (pc := 36) hx hb hEξ hwξ (zd_X2_copyFrom (36, .getfield 18, 3, 0, []) (List.mem_of_getElem? (i := 20) rfl)) (j := 3) rfl rfl rfl (zM_P hMy284ξ (hYbξ _ (List.mem_of_getElem? (i := 7) rfl))) ((zM_G hMy284ξ (hYbξ _ (List.mem_of_getElem? (i := 7) rfl)) 2).trans (zM_F hMy284ξ (hFbξ _ (List.mem_of_getElem? (i := 30) rfl)))) ?_
  refine zp_const (pc := 39) hx hb (zd_X2_copyFrom (39, .iconst 0, 1, 0, []) (List.mem_of_getElem? (i := 21) rfl)) rfl rfl ?_
  refine zp_const (pc := 40) hx hb (zd_X2_copyFrom (40, .bipush 10, 2, 0, []) (List.mem_of_getElem? (i := 22) rfl)) rfl rfl ?_
  refine zp_copyO (n := 10) (i0 := 0) (i1 := 0) (pc := 42) (idx := 28) (T0 := zt_types.getD 19 (0, 0, 0, [])) (T := zt_types.getD 19 (0, 0, 0, [])) hx hb hEξ hwξ heffξ hrmξ (zd_X2_copyFrom (42, .invokestatic 28, 3, 0, []) (List.mem_of_getElem? (i := 23) rfl)) (j := 8) rfl rfl rfl rfl rfl (zM_P hMy284ξ (hYbξ _ (List.mem_of_getElem? (i := 30) rfl))) (zM_P hMy284ξ (hYbξ _ (List.mem_of_getElem? (i := 33) rfl))) rfl (by omega) (by omega) (show 0 + 10 ≤ 10 by omega) (show 0 + 10 ≤ 10 by omega) (by omega) (fun j hjξ v h => h) ⟨by decide, by decide⟩ (by decide) (Or.inr ⟨by decide, by decide⟩) rfl ?_
  have hMy285ξ : zM A Y F (zc_cp (zc_cp (zc_cp M 50 0 53 0 6) 51 0 54 0 6) 52 0 55 0 10) u.1 (zp_cpo Gy284 (A 52) 0 (A 55) 0 10) := zM_cp hMy284ξ (hYbξ _ (List.mem_of_getElem? (i := 30) rfl)) (hYbξ _ (List.mem_of_getElem? (i := 33) rfl))
  have hVy285ξ : ∀ o k, zNc o → (zc_cp (zc_cp (zc_cp M 50 0 53 0 6) 51 0 54 0 6) 52 0 55 0 10) o k = (zc_cp (zc_cp (zc_cp V 50 0 53 0 6) 51 0 54 0 6) 52 0 55 0 10) o k := zV_cp (o0 := 52) (i0 := 0) (o1 := 55) (i1 := 0) (n := 10) hVy284ξ (fun j => (by decide))
  obtain ⟨Gy285, hGy285ξ⟩ : ∃ G9ξ, G9ξ = zp_cpo Gy284 (A 52) 0 (A 55) 0 10 := ⟨_, rfl⟩
  rw [← hGy285ξ] at hMy285ξ ⊢
  refine zp_load (pc := 45) hx hb (zd_X2_copyFrom (45, .aload_n 0, 1, 0, []) (List.mem_of_getElem? (i := 24) rfl)) rfl (j := 0) rfl ?_
  refine zp_load (pc := 46) hx hb (zd_X2_copyFrom (46, .aload_n 1, 1, 0, []) (List.mem_of_getElem? (i := 25) rfl)) rfl (j := 1) rfl ?_
  refine zp_getf (n := (V 2 3)) (pc := 47) hx hb hEξ hwξ (zd_X2_copyFrom (47, .getfield 21, 3, 0, []) (List.mem_of_getElem? (i := 26) rfl)) (j := 4) rfl rfl rfl (zM_P hMy285ξ (hYbξ _ (List.mem_of_getElem? (i := 2) rfl))) (((zM_G hMy285ξ (hYbξ _ (List.mem_of_getElem? (i := 2) rfl)) 3).trans (hVy285ξ 2 3 (by decide))).trans (Eq.trans (zc_cp_o (by decide)) (Eq.trans rfl (Eq.trans (zc_cp_o (by decide)) (Eq.trans rfl (zc_cp_o (by decide))))))) ?_
  refine zp_kn (k := 3) (a := (A 2)) hwξ (show zp_fd 2 3 = some (2, 0, 0, (-2147483648), 2147483647) from rfl) rfl (zM_P hMy285ξ (hYbξ _ (List.mem_of_getElem? (i := 2) rfl))) (fun hf286ξ => ?_)
  have hf286bξ := zp_int hf286ξ
  rw [(((zM_G hMy285ξ (hYbξ _ (List.mem_of_getElem? (i := 2) rfl)) 3).trans (hVy285ξ 2 3 (by decide))).trans (Eq.trans (zc_cp_o (by decide)) (Eq.trans rfl (Eq.trans (zc_cp_o (by decide)) (Eq.trans rfl (zc_cp_o (by decide)))))))] at hf286bξ
  clear hf286ξ
  refine zp_putf (pc := 50) hx hb hEξ hwξ heffξ (zd_X2_copyFrom (50, .putfield 21, 3, 0, []) (List.mem_of_getElem? (i := 27) rfl)) (j := 4) rfl rfl rfl (zM_P hMy285ξ (hYbξ _ (List.mem_of_getElem? (i := 7) rfl))) (zp_o0 (by omega) (by omega) (by omega) (by omega)) ?_
  refine zp_load (pc := 53) hx hb (zd_X2_copyFrom (53, .aload_n 0, 1, 0, []) (List.mem_of_getElem? (i := 28) rfl)) rfl (j := 0) rfl ?_
  refine zp_load (pc := 54) hx hb (zd_X2_copyFrom (54, .aload_n 1, 1, 0, []) (List.mem_of_getElem? (i := 29) rfl)) rfl (j := 1) rfl ?_
  refine zp_getf (n := (V 2 4)) (pc := 55) hx hb hEξ hwξ (zd_X2_copyFrom (55, .getfield 34, 3, 0, []) (List.mem_of_getElem? (i := 30) rfl)) (j := 5) rfl rfl rfl (zM_P hMy285ξ (hYbξ _ (List.mem_of_getElem? (i := 2) rfl))) ((zp_set_ne (Or.inl (zM_ne hMy285ξ (hYbξ _ (List.mem_of_getElem? (i := 2) rfl)) (hYbξ _ (List.mem_of_getElem? (i := 7) rfl)) (by decide)))).trans ((((zM_G hMy285ξ (hYbξ _ (List.mem_of_getElem? (i := 2) rfl)) 4).trans (hVy285ξ 2 4 (by decide))).trans (Eq.trans (zc_cp_o (by decide)) (Eq.trans rfl (Eq.trans (zc_cp_o (by decide)) (Eq.trans rfl (zc_cp_o (by decide))))))))) ?_
  refine zp_kn (k := 4) (a := (A 2)) hwξ (show zp_fd 2 4 = some (2, 0, 0, 0, 1) from rfl) rfl (zM_P hMy285ξ (hYbξ _ (List.mem_of_getElem? (i := 2) rfl))) (fun hf287ξ => ?_)
  have hf287bξ := zp_int hf287ξ
  rw [((zp_set_ne (Or.inl (zM_ne hMy285ξ (hYbξ _ (List.mem_of_getElem? (i := 2) rfl)) (hYbξ _ (List.mem_of_getElem? (i := 7) rfl)) (by decide)))).trans ((((zM_G hMy285ξ (hYbξ _ (List.mem_of_getElem? (i := 2) rfl)) 4).trans (hVy285ξ 2 4 (by decide))).trans (Eq.trans (zc_cp_o (by decide)) (Eq.trans rfl (Eq.trans (zc_cp_o (by decide)) (Eq.trans rfl (zc_cp_o (by decide)))))))))] at hf287bξ
  clear hf287ξ
  refine zp_putf (pc := 58) hx hb hEξ hwξ heffξ (zd_X2_copyFrom (58, .putfield 34, 3, 0, []) (List.mem_of_getElem? (i := 31) rfl)) (j := 5) rfl rfl rfl (zM_P hMy285ξ (hYbξ _ (List.mem_of_getElem? (i := 7) rfl))) (zp_o0 (by omega) (by omega) (by omega) (by omega)) ?_
  refine zp_load (pc := 61) hx hb (zd_X2_copyFrom (61, .aload_n 0, 1, 0, []) (List.mem_of_getElem? (i := 32) rfl)) rfl (j := 0) rfl ?_
  refine zp_load (pc := 62) hx hb (zd_X2_copyFrom (62, .aload_n 1, 1, 0, []) (List.mem_of_getElem? (i := 33) rfl)) rfl (j := 1) rfl ?_
  refine zp_getf (n := (V 2 5)) (pc := 63) hx hb hEξ hwξ (zd_X2_copyFrom (63, .getfield 25, 3, 0, []) (List.mem_of_getElem? (i := 34) rfl)) (j := 6) rfl rfl rfl (zM_P hMy285ξ (hYbξ _ (List.mem_of_getElem? (i := 2) rfl))) ((zp_set_ne (Or.inl (zM_ne hMy285ξ (hYbξ _ (List.mem_of_getElem? (i := 2) rfl)) (hYbξ _ (List.mem_of_getElem? (i := 7) rfl)) (by decide)))).trans ((zp_set_ne (Or.inl (zM_ne hMy285ξ (hYbξ _ (List.mem_of_getElem? (i := 2) rfl)) (hYbξ _ (List.mem_of_getElem? (i := 7) rfl)) (by decide)))).trans ((((zM_G hMy285ξ (hYbξ _ (List.mem_of_getElem? (i := 2) rfl)) 5).trans (hVy285ξ 2 5 (by decide))).trans (Eq.trans (zc_cp_o (by decide)) (Eq.trans rfl (Eq.trans (zc_cp_o (by decide)) (Eq.trans rfl (zc_cp_o (by decide)))))))))) ?_
  refine zp_kn (k := 5) (a := (A 2)) hwξ (show zp_fd 2 5 = some (2, 0, 0, (-2147483648), 2147483647) from rfl) rfl (zM_P hMy285ξ (hYbξ _ (List.mem_of_getElem? (i := 2) rfl))) (fun hf288ξ => ?_)
  have hf288bξ := zp_int hf288ξ
  rw [((zp_set_ne (Or.inl (zM_ne hMy285ξ (hYbξ _ (List.mem_of_getElem? (i := 2) rfl)) (hYbξ _ (List.mem_of_getElem? (i := 7) rfl)) (by decide)))).trans ((zp_set_ne (Or.inl (zM_ne hMy285ξ (hYbξ _ (List.mem_of_getElem? (i := 2) rfl)) (hYbξ _ (List.mem_of_getElem? (i := 7) rfl)) (by decide)))).trans ((((zM_G hMy285ξ (hYbξ _ (List.mem_of_getElem? (i := 2) rfl)) 5).trans (hVy285ξ 2 5 (by decide))).trans (Eq.trans (zc_cp_o (by decide)) (Eq.trans rfl (Eq.trans (zc_cp_o (by decide)) (Eq.trans rfl (zc_cp_o (by decide))))))))))] at hf288bξ
  clear hf288ξ
  refine zp_putf (pc := 66) hx hb hEξ hwξ heffξ (zd_X2_copyFrom (66, .putfield 25, 3, 0, []) (List.mem_of_getElem? (i := 35) rfl)) (j := 6) rfl rfl rfl (zM_P hMy285ξ (hYbξ _ (List.mem_of_getElem? (i := 7) rfl))) (zp_o0 (by omega) (by omega) (by omega) (by omega)) ?_
  refine zp_load (pc := 69) hx hb (zd_X2_copyFrom (69, .aload_n 0, 1, 0, []) (List.mem_of_getElem? (i := 36) rfl)) rfl (j := 0) rfl ?_
  refine zp_load (pc := 70) hx hb (zd_X2_copyFrom (70, .aload_n 1, 1, 0, []) (List.mem_of_getElem? (i := 37) rfl)) rfl (j := 1) rfl ?_
  refine zp_getf (n := (V 2 6)) (pc := 71) hx hb hEξ hwξ (zd_X2_copyFrom (71, .getfield 38, 3, 0, []) (List.mem_of_getElem? (i := 38) rfl)) (j := 7) rfl rfl rfl (zM_P hMy285ξ (hYbξ _ (List.mem_of_getElem? (i := 2) rfl))) ((zp_set_ne (Or.inl (zM_ne hMy285ξ (hYbξ _ (List.mem_of_getElem? (i := 2) rfl)) (hYbξ _ (List.mem_of_getElem? (i := 7) rfl)) (by decide)))).trans ((zp_set_ne (Or.inl (zM_ne hMy285ξ (hYbξ _ (List.mem_of_getElem? (i := 2) rfl)) (hYbξ _ (List.mem_of_getElem? (i := 7) rfl)) (by decide)))).trans ((zp_set_ne (Or.inl (zM_ne hMy285ξ (hYbξ _ (List.mem_of_getElem? (i := 2) rfl)) (hYbξ _ (List.mem_of_getElem? (i := 7) rfl)) (by decide)))).trans ((((zM_G hMy285ξ (hYbξ _ (List.mem_of_getElem? (i := 2) rfl)) 6).trans (hVy285ξ 2 6 (by decide))).trans (Eq.trans (zc_cp_o (by decide)) (Eq.trans rfl (Eq.trans (zc_cp_o (by decide)) (Eq.trans rfl (zc_cp_o (by decide))))))))))) ?_
  refine zp_kn (k := 6) (a := (A 2)) hwξ (show zp_fd 2 6 = some (2, 0, 0, (-2147483648), 2147483647) from rfl) rfl (zM_P hMy285ξ (hYbξ _ (List.mem_of_getElem? (i := 2) rfl))) (fun hf289ξ => ?_)
  have hf289bξ := zp_int hf289ξ
  rw [((zp_set_ne (Or.inl (zM_ne hMy285ξ (hYbξ _ (List.mem_of_getElem? (i := 2) rfl)) (hYbξ _ (List.mem_of_getElem? (i := 7) rfl)) (by decide)))).trans ((zp_set_ne (Or.inl (zM_ne hMy285ξ (hYbξ _ (List.mem_of_getElem? (i := 2) rfl)) (hYbξ _ (List.mem_of_getElem? (i := 7) rfl)) (by decide)))).trans ((zp_set_ne (Or.inl (zM_ne hMy285ξ (hYbξ _ (List.mem_of_getElem? (i := 2) rfl)) (hYbξ _ (List.mem_of_getElem? (i := 7) rfl)) (by decide)))).trans ((((zM_G hMy285ξ (hYbξ _ (List.mem_of_getElem? (i := 2) rfl)) 6).trans (hVy285ξ 2 6 (by decide))).trans (Eq.trans (zc_cp_o (by decide)) (Eq.trans rfl (Eq.trans (zc_cp_o (by decide)) (Eq.trans rfl (zc_cp_o (by decide)))))))))))] at hf289bξ
  clear hf289ξ
  refine zp_putf (pc := 74) hx hb hEξ hwξ heffξ (zd_X2_copyFrom (74, .putfield 38, 3, 0, []) (List.mem_of_getElem? (i := 39) rfl)) (j := 7) rfl rfl rfl (zM_P hMy285ξ (hYbξ _ (List.mem_of_getElem? (i := 7) rfl))) (zp_o0 (by omega) (by omega) (by omega) (by omega)) ?_
  refine zp_vret (pc := 77) hx hb hEξ hQξ hU5ξ rfl (by decide) (zd_X2_copyFrom (77, .return_, 1, 0, []) (List.mem_of_getElem? (i := 40) rfl)) (j := 0) rfl ?_
  rw [hpsξ]
  refine ⟨rfl, ?_⟩
  have hffξ : zf_kf7_2 V = (0, (zp_set (zp_set (zp_set (zp_set (zc_cp (zc_cp (zc_cp V 50 0 53 0 6) 51 0 54 0 6) 52 0 55 0 10) 7 3 (V 2 3)) 7 4 (V 2 4)) 7 5 (V 2 5)) 7 6 (V 2 6))) := rfl
  show zMVc A Y F (zf_kf7_2 V).2 u.1 (zp_set (zp_set (zp_set (zp_set Gy285 (A 7) 3 (V 2 3)) (A 7) 4 (V 2 4)) (A 7) 5 (V 2 5)) (A 7) 6 (V 2 6))
  rw [hffξ]
  exact ⟨(zp_set (zp_set (zp_set (zp_set (zc_cp (zc_cp (zc_cp M 50 0 53 0 6) 51 0 54 0 6) 52 0 55 0 10) 7 3 (V 2 3)) 7 4 (V 2 4)) 7 5 (V 2 5)) 7 6 (V 2 6)), (zM_set (zM_set (zM_set (zM_set hMy285ξ (hYbξ _ (List.mem_of_getElem? (i := 7) rfl)) (zFx hFxξ (o := 7) (k := 3) (by decide) (by decide))) (hYbξ _ (List.mem_of_getElem? (i := 7) rfl)) (zFx hFxξ (o := 7) (k := 4) (by decide) (by decide))) (hYbξ _ (List.mem_of_getElem? (i := 7) rfl)) (zFx hFxξ (o := 7) (k := 5) (by decide) (by decide))) (hYbξ _ (List.mem_of_getElem? (i := 7) rfl)) (zFx hFxξ (o := 7) (k := 6) (by decide) (by decide))), (zV_set (zV_set (zV_set (zV_set hVy285ξ)))), trivial⟩
theorem zf_kf7_2_f {V : Nat → Nat → Int} {o k : Nat} (h9ξ : o ∉ ([7, 53, 54, 55] : List Nat)) : (zf_kf7_2 V).2 o k = V o k := by
  unfold zf_kf7_2
  show (zp_set (zp_set (zp_set (zp_set (zc_cp (zc_cp (zc_cp V 50 0 53 0 6) 51 0 54 0 6) 52 0 55 0 10) 7 3 (V 2 3)) 7 4 (V 2 4)) 7 5 (V 2 5)) 7 6 (V 2 6)) o k = V o k
  exact ((zp_set_ne (Or.inl (zc_nin h9ξ (by decide)))).trans ((zp_set_ne (Or.inl (zc_nin h9ξ (by decide)))).trans ((zp_set_ne (Or.inl (zc_nin h9ξ (by decide)))).trans ((zp_set_ne (Or.inl (zc_nin h9ξ (by decide)))).trans ((zc_cp_o (zc_nin h9ξ (by decide))).trans ((zc_cp_o (zc_nin h9ξ (by decide))).trans (zc_cp_o (zc_nin h9ξ (by decide)))))))))
def zf_uf10_3 (V : Nat → Nat → Int) : Int × (Nat → Nat → Int) := (0, (zp_set (zp_set (zc_cp (zc_cp V 62 0 64 0 16) 63 0 65 0 416) 10 2 (V 3 2)) 10 3 (V 3 3)))
def zK_uf10_3 : zk_K := (zt_mn 81, prog_12_method_5_code, 2, (Option.none : Option Jvm.ClassFile.FieldType), 1, 10, [(2, 11, 0, 0), (2, 11, 0, 0)], [(none, [])], zUC, (1, 60, 0, 0))
def zφ_uf10_3 (A : Nat → Nat) (Y : List (Nat × Nat)) (F : List (Nat × Nat × Nat)) (V : Nat → Nat → Int) : (Nat → Option Nat) → (Nat → Nat → Int) → List Int → Prop := fun P G ps => zMVc A Y F V P G ∧ ps.getD 0 0 = (A 10 : Int) ∧ zMc Y F ∧ (ps.getD 1 0) = (A 3 : Int)
def zψ_uf10_3 (A : Nat → Nat) (Y : List (Nat × Nat)) (F : List (Nat × Nat × Nat)) (V : Nat → Nat → Int) : (Nat → Option Nat) → (Nat → Nat → Int) → List Int → (Nat → Option Nat) → (Nat → Nat → Int) → Int → Prop := fun P G ps P' G' rn => P' = P ∧ zMVc A Y F (zf_uf10_3 V).2 P' G'
theorem zX_uf10_3 {l : Launch} {w : zk_W} (hWξ : zh_W w) (A : Nat → Nat) (Y : List (Nat × Nat)) (F : List (Nat × Nat × Nat)) (V : Nat → Nat → Int) : zk_metX l w zt_dv zt_TB zK_uf10_3 (zp_A (zφ_uf10_3 A Y F V)) (zp_B (zψ_uf10_3 A Y F V)) ∧ zk_cok w zt_TB zK_uf10_3 := by
  refine zp_methX (cn := "WoundTown$Undo") zp_lkallU hWξ (pl := 897) rfl (by decide +kernel) (fun p e R s m args below meth c Q u hx hb hEξ hQξ hU5ξ heffξ hnLξ hokξ hφ => ?_)
  have hwξ := hWξ.1
  obtain ⟨p0ξ, p1ξ, hpsξ, tk0, tk1⟩ := zp_ps2 hokξ
  have hrmξ : zk_Kr (zk_ev (zt_types, zp_lkU, zt_dv, [], [], zp_lcU, zK_uf10_3)) = zk_Kr zK_uf10_3 := rfl
  rw [hpsξ] at hφ ⊢
  have hφ : zMVc A Y F V u.1 (zp_n u.2.1) ∧ p0ξ = (A 10 : Int) ∧ zMc Y F ∧ p1ξ = (A 3 : Int) := hφ
  obtain ⟨⟨M, hMξ, hVξ, hSbξ⟩, rfl, hYFξ, rfl⟩ := hφ
  have hYF0ξ := hYFξ
  obtain ⟨hYbξ, hFbξ, hFxξ, -⟩ := hYFξ
  show zp_J p l e R s m args below meth c Q w u [] 0 [(0, 2, (A 10 : Int)), (1, 2, (A 3 : Int))] [] u.1 (zp_n u.2.1)
  refine zp_load (pc := 0) hx hb (zd_X10_copyFrom (0, .aload_n 1, 1, 0, []) (List.mem_of_getElem? (i := 0) rfl)) rfl (j := 1) rfl ?_
  refine zp_getf (n := (A 62 : Int)) (pc := 1) hx hb hEξ hwξ (zd_X10_copyFrom (1, .getfield 11, 3, 0, []) (List.mem_of_getElem? (i := 1) rfl)) (j := 1) rfl rfl rfl (zM_P hMξ (hYbξ _ (List.mem_of_getElem? (i := 3) rfl))) ((zM_G hMξ (hYbξ _ (List.mem_of_getElem? (i := 3) rfl)) 0).trans (zM_F hMξ (hFbξ _ (List.mem_of_getElem? (i := 37) rfl)))) ?_
  refine zp_const (pc := 4) hx hb (zd_X10_copyFrom (4, .iconst 0, 1, 0, []) (List.mem_of_getElem? (i := 2) rfl)) rfl rfl ?_
  refine zp_load (pc := 5) hx hb (zd_X10_copyFrom (5, .aload_n 0, 1, 0, []) (List.mem_of_getElem? (i := 3) rfl)) rfl (j := 0) rfl ?_
  refine zp_getf (n := (A 64 : Int)) (pc := 6) hx hb hEξ hwξ (zd_X10_copyFrom (6, .getfield 11, 3, 0, []) (List.mem_of_getElem? (i := 4) rfl)) (j := 1) rfl rfl rfl (zM_P hMξ (hYbξ _ (List.mem_of_getElem? (i := 10) rfl))) ((zM_G hMξ (hYbξ _ (List.mem_of_getElem? (i := 10) rfl)) 0).trans (zM_F hMξ (hFbξ _ (List.mem_of_getElem? (i := 39) rfl)))) ?_
  refine zp_const (pc := 9) hx hb (zd_X10_copyFrom (9, .iconst 0, 1, 0, []) (List.mem_of_getElem? (i := 5) rfl)) rfl rfl ?_
  refine zp_const (pc := 10) hx hb (zd_X10_copyFrom (10, .bipush 16, 2, 0, []) (List.mem_of_getElem? (i := 6) rfl)) rfl rfl ?_
  refine zp_copyO (n := 16) (i0 := 0) (i1 := 0) (pc := 12) (idx := 34) (T0 := zt_types.getD 53 (0, 0, 0, [])) (T := zt_types.getD 53 (0, 0, 0, [])) hx hb hEξ hwξ heffξ hrmξ (zd_X10_copyFrom (12, .invokestatic 34, 3, 0, []) (List.mem_of_getElem? (i := 7) rfl)) (j := 5) rfl rfl rfl rfl rfl (zM_P hMξ (hYbξ _ (List.mem_of_getElem? (i := 40) rfl))) (zM_P hMξ (hYbξ _ (List.mem_of_getElem? (i := 42) rfl))) rfl (by omega) (by omega) (show 0 + 16 ≤ 16 by omega) (show 0 + 16 ≤ 16 by omega) (by omega) (fun j hjξ v h => h) ⟨by decide, by decide⟩ (by decide) (Or.inr ⟨by decide, by decide⟩) rfl ?_
  have hMy290ξ : zM A Y F (zc_cp M 62 0 64 0 16) u.1 (zp_cpo (zp_n u.2.1) (A 62) 0 (A 64) 0 16) := zM_cp hMξ (hYbξ _ (List.mem_of_getElem? (i := 40) rfl)) (hYbξ _ (List.mem_of_getElem? (i := 42) rfl))
  have hVy290ξ : ∀ o k, zNc o → (zc_cp M 62 0 64 0 16) o k = (zc_cp V 62 0 64 0 16) o k := zV_cp (o0 := 62) (i0 := 0) (o1 := 64) (i1 := 0) (n := 16) hVξ (fun j => (by decide))
  obtain ⟨Gy290, hGy290ξ⟩ : ∃ G9ξ, G9ξ = zp_cpo (zp_n u.2.1) (A 62) 0 (A 64) 0 16 := ⟨_, rfl⟩
  rw [← hGy290ξ] at hMy290ξ ⊢
  refine zp_load (pc := 15) hx hb (zd_X10_copyFrom (15, .aload_n 1, 1, 0, []) (List.mem_of_getElem? (i := 8) rfl)) rfl (j := 1) rfl ?_
  refine zp_getf (n := (A 63 : Int)) (pc := 16) hx hb hEξ hwξ (zd_X10_copyFrom (16, .getfield 17, 3, 0, []) (List.mem_of_getElem? (i := 9) rfl)) (j := 2) rfl rfl rfl (zM_P hMy290ξ (hYbξ _ (List.mem_of_getElem? (i := 3) rfl))) ((zM_G hMy290ξ (hYbξ _ (List.mem_of_getElem? (i := 3) rfl)) 1).trans (zM_F hMy290ξ (hFbξ _ (List.mem_of_getElem? (i := 38) rfl)))) ?_
  refine zp_const (pc := 19) hx hb (zd_X10_copyFrom (19, .iconst 0, 1, 0, []) (List.mem_of_getElem? (i := 10) rfl)) rfl rfl ?_
  refine zp_load (pc := 20) hx hb (zd_X10_copyFrom (20, .aload_n 0, 1, 0, []) (List.mem_of_getElem? (i := 11) rfl)) rfl (j := 0) rfl ?_
  refine zp_getf (n := (A 65 : Int)) (pc := 21) hx hb hEξ hwξ (zd_X10_copyFrom (21, .getfield 17, 3, 0, []) (List.mem_of_getElem? (i := 12) rfl)) (j := 2) rfl rfl rfl (zM_P hMy290ξ (hYbξ _ (List.mem_of_getElem? (i := 10) rfl))) ((zM_G hMy290ξ (hYbξ _ (List.mem_of_getElem? (i := 10) rfl)) 1).trans (zM_F hMy290ξ (hFbξ _ (List.mem_of_getElem? (i := 40) rfl)))) ?_
  refine zp_const (pc := 24) hx hb (zd_X10_copyFrom (24, .iconst 0, 1, 0, []) (List.mem_of_getElem? (i := 13) rfl)) rfl rfl ?_
  refine zp_const (pc := 25) hx hb (zd_X10_copyFrom (25, .sipush 416, 3, 0, []) (List.mem_of_getElem? (i := 14) rfl)) rfl rfl ?_
  refine zp_copyO (n := 416) (i0 := 0) (i1 := 0) (pc := 28) (idx := 34) (T0 := zt_types.getD 54 (0, 0, 0, [])) (T := zt_types.getD 54 (0, 0, 0, [])) hx hb hEξ hwξ heffξ hrmξ (zd_X10_copyFrom (28, .invokestatic 34, 3, 0, []) (List.mem_of_getElem? (i := 15) rfl)) (j := 5) rfl rfl rfl rfl rfl (zM_P hMy290ξ (hYbξ _ (List.mem_of_getElem? (i := 41) rfl))) (zM_P hMy290ξ (hYbξ _ (List.mem_of_getElem? (i := 43) rfl))) rfl (by omega) (by omega) (show 0 + 416 ≤ 416 by omega) (show 0 + 416 ≤ 416 by omega) (by omega) (fun j hjξ v h => h) ⟨by decide, by decide⟩ (by decide) (Or.inr ⟨by decide, by decide⟩) rfl ?_
  have hMy291ξ : zM A Y F (zc_cp (zc_cp M 62 0 64 0 16) 63 0 65 0 416) u.1 (zp_cpo Gy290 (A 63) 0 (A 65) 0 416) := zM_cp hMy290ξ (hYbξ _ (List.mem_of_getElem? (i := 41) rfl)) (hYbξ _ (List.mem_of_getElem? (i := 43) rfl))
  have hVy291ξ : ∀ o k, zNc o → (zc_cp (zc_cp M 62 0 64 0 16) 63 0 65 0 416) o k = (zc_cp (zc_cp V 62 0 64 0 16) 63 0 65 0 416) o k := zV_cp (o0 := 63) (i0 := 0) (o1 := 65) (i1 := 0) (n := 416) hVy290ξ (fun j => (by decide))
  obtain ⟨Gy291, hGy291ξ⟩ : ∃ G9ξ, G9ξ = zp_cpo Gy290 (A 63) 0 (A 65) 0 416 := ⟨_, rfl⟩
  rw [← hGy291ξ] at hMy291ξ ⊢
  refine zp_load (pc := 31) hx hb (zd_X10_copyFrom (31, .aload_n 0, 1, 0, []) (List.mem_of_getElem? (i := 16) rfl)) rfl (j := 0) rfl ?_
  refine zp_load (pc := 32) hx hb (zd_X10_copyFrom (32, .aload_n 1, 1, 0, []) (List.mem_of_getElem? (i := 17) rfl)) rfl (j := 1) rfl ?_
  refine zp_getf (n := (V 3 2)) (pc := 33) hx hb hEξ hwξ (zd_X10_copyFrom (33, .getfield 24, 3, 0, []) (List.mem_of_getElem? (i := 18) rfl)) (j := 3) rfl rfl rfl (zM_P hMy291ξ (hYbξ _ (List.mem_of_getElem? (i := 3) rfl))) (((zM_G hMy291ξ (hYbξ _ (List.mem_of_getElem? (i := 3) rfl)) 2).trans (hVy291ξ 3 2 (by decide))).trans (Eq.trans (zc_cp_o (by decide)) (Eq.trans rfl (zc_cp_o (by decide))))) ?_
  refine zp_kn (k := 2) (a := (A 3)) hwξ (show zp_fd 11 2 = some (10, 0, 0, 0, 15) from rfl) rfl (zM_P hMy291ξ (hYbξ _ (List.mem_of_getElem? (i := 3) rfl))) (fun hf292ξ => ?_)
  have hf292bξ := zp_int hf292ξ
  rw [(((zM_G hMy291ξ (hYbξ _ (List.mem_of_getElem? (i := 3) rfl)) 2).trans (hVy291ξ 3 2 (by decide))).trans (Eq.trans (zc_cp_o (by decide)) (Eq.trans rfl (zc_cp_o (by decide)))))] at hf292bξ
  clear hf292ξ
  refine zp_putf (pc := 36) hx hb hEξ hwξ heffξ (zd_X10_copyFrom (36, .putfield 24, 3, 0, []) (List.mem_of_getElem? (i := 19) rfl)) (j := 3) rfl rfl rfl (zM_P hMy291ξ (hYbξ _ (List.mem_of_getElem? (i := 10) rfl))) (zp_o0 (by omega) (by omega) (by omega) (by omega)) ?_
  refine zp_load (pc := 39) hx hb (zd_X10_copyFrom (39, .aload_n 0, 1, 0, []) (List.mem_of_getElem? (i := 20) rfl)) rfl (j := 0) rfl ?_
  refine zp_load (pc := 40) hx hb (zd_X10_copyFrom (40, .aload_n 1, 1, 0, []) (List.mem_of_getElem? (i := 21) rfl)) rfl (j := 1) rfl ?_
  refine zp_getf (n := (V 3 3)) (pc := 41) hx hb hEξ hwξ (zd_X10_copyFrom (41, .getfield 20, 3, 0, []) (List.mem_of_getElem? (i := 22) rfl)) (j := 4) rfl rfl rfl (zM_P hMy291ξ (hYbξ _ (List.mem_of_getElem? (i := 3) rfl))) ((zp_set_ne (Or.inl (zM_ne hMy291ξ (hYbξ _ (List.mem_of_getElem? (i := 3) rfl)) (hYbξ _ (List.mem_of_getElem? (i := 10) rfl)) (by decide)))).trans ((((zM_G hMy291ξ (hYbξ _ (List.mem_of_getElem? (i := 3) rfl)) 3).trans (hVy291ξ 3 3 (by decide))).trans (Eq.trans (zc_cp_o (by decide)) (Eq.trans rfl (zc_cp_o (by decide))))))) ?_
  refine zp_kn (k := 3) (a := (A 3)) hwξ (show zp_fd 11 3 = some (10, 0, 0, 0, 16) from rfl) rfl (zM_P hMy291ξ (hYbξ _ (List.mem_of_getElem? (i := 3) rfl))) (fun hf293ξ => ?_)
  have hf293bξ := zp_int hf293ξ
  rw [((zp_set_ne (Or.inl (zM_ne hMy291ξ (hYbξ _ (List.mem_of_getElem? (i := 3) rfl)) (hYbξ _ (List.mem_of_getElem? (i := 10) rfl)) (by decide)))).trans ((((zM_G hMy291ξ (hYbξ _ (List.mem_of_getElem? (i := 3) rfl)) 3).trans (hVy291ξ 3 3 (by decide))).trans (Eq.trans (zc_cp_o (by decide)) (Eq.trans rfl (zc_cp_o (by decide)))))))] at hf293bξ
  clear hf293ξ
  refine zp_putf (pc := 44) hx hb hEξ hwξ heffξ (zd_X10_copyFrom (44, .putfield 20, 3, 0, []) (List.mem_of_getElem? (i := 23) rfl)) (j := 4) rfl rfl rfl (zM_P hMy291ξ (hYbξ _ (List.mem_of_getElem? (i := 10) rfl))) (zp_o0 (by omega) (by omega) (by omega) (by omega)) ?_
  refine zp_vret (pc := 47) hx hb hEξ hQξ hU5ξ rfl (by decide) (zd_X10_copyFrom (47, .return_, 1, 0, []) (List.mem_of_getElem? (i := 24) rfl)) (j := 0) rfl ?_
  rw [hpsξ]
  refine ⟨rfl, ?_⟩
  have hffξ : zf_uf10_3 V = (0, (zp_set (zp_set (zc_cp (zc_cp V 62 0 64 0 16) 63 0 65 0 416) 10 2 (V 3 2)) 10 3 (V 3 3))) := rfl
  show zMVc A Y F (zf_uf10_3 V).2 u.1 (zp_set (zp_set Gy291 (A 10) 2 (V 3 2)) (A 10) 3 (V 3 3))
  rw [hffξ]
  exact ⟨(zp_set (zp_set (zc_cp (zc_cp M 62 0 64 0 16) 63 0 65 0 416) 10 2 (V 3 2)) 10 3 (V 3 3)), (zM_set (zM_set hMy291ξ (hYbξ _ (List.mem_of_getElem? (i := 10) rfl)) (zFx hFxξ (o := 10) (k := 2) (by decide) (by decide))) (hYbξ _ (List.mem_of_getElem? (i := 10) rfl)) (zFx hFxξ (o := 10) (k := 3) (by decide) (by decide))), (zV_set (zV_set hVy291ξ)), trivial⟩
theorem zf_uf10_3_f {V : Nat → Nat → Int} {o k : Nat} (h9ξ : o ∉ ([10, 64, 65] : List Nat)) : (zf_uf10_3 V).2 o k = V o k := by
  unfold zf_uf10_3
  show (zp_set (zp_set (zc_cp (zc_cp V 62 0 64 0 16) 63 0 65 0 416) 10 2 (V 3 2)) 10 3 (V 3 3)) o k = V o k
  exact ((zp_set_ne (Or.inl (zc_nin h9ξ (by decide)))).trans ((zp_set_ne (Or.inl (zc_nin h9ξ (by decide)))).trans ((zc_cp_o (zc_nin h9ξ (by decide))).trans (zc_cp_o (zc_nin h9ξ (by decide))))))
def zf_uf3_10 (V : Nat → Nat → Int) : Int × (Nat → Nat → Int) := (0, (zp_set (zp_set (zc_cp (zc_cp V 64 0 62 0 16) 65 0 63 0 416) 3 2 (V 10 2)) 3 3 (V 10 3)))
def zK_uf3_10 : zk_K := (zt_mn 81, prog_12_method_5_code, 2, (Option.none : Option Jvm.ClassFile.FieldType), 1, 10, [(2, 11, 0, 0), (2, 11, 0, 0)], [(none, [])], zUC, (1, 60, 0, 0))
def zφ_uf3_10 (A : Nat → Nat) (Y : List (Nat × Nat)) (F : List (Nat × Nat × Nat)) (V : Nat → Nat → Int) : (Nat → Option Nat) → (Nat → Nat → Int) → List Int → Prop := fun P G ps => zMVc A Y F V P G ∧ ps.getD 0 0 = (A 3 : Int) ∧ zMc Y F ∧ (ps.getD 1 0) = (A 10 : Int)
def zψ_uf3_10 (A : Nat → Nat) (Y : List (Nat × Nat)) (F : List (Nat × Nat × Nat)) (V : Nat → Nat → Int) : (Nat → Option Nat) → (Nat → Nat → Int) → List Int → (Nat → Option Nat) → (Nat → Nat → Int) → Int → Prop := fun P G ps P' G' rn => P' = P ∧ zMVc A Y F (zf_uf3_10 V).2 P' G'
theorem zX_uf3_10 {l : Launch} {w : zk_W} (hWξ : zh_W w) (A : Nat → Nat) (Y : List (Nat × Nat)) (F : List (Nat × Nat × Nat)) (V : Nat → Nat → Int) : zk_metX l w zt_dv zt_TB zK_uf3_10 (zp_A (zφ_uf3_10 A Y F V)) (zp_B (zψ_uf3_10 A Y F V)) ∧ zk_cok w zt_TB zK_uf3_10 := by
  refine zp_methX (cn := "WoundTown$Undo") zp_lkallU hWξ (pl := 897) rfl (by decide +kernel) (fun p e R s m args below meth c Q u hx hb hEξ hQξ hU5ξ heffξ hnLξ hokξ hφ => ?_)
  have hwξ := hWξ.1
  obtain ⟨p0ξ, p1ξ, hpsξ, tk0, tk1⟩ := zp_ps2 hokξ
  have hrmξ : zk_Kr (zk_ev (zt_types, zp_lkU, zt_dv, [], [], zp_lcU, zK_uf3_10)) = zk_Kr zK_uf3_10 := rfl
  rw [hpsξ] at hφ ⊢
  have hφ : zMVc A Y F V u.1 (zp_n u.2.1) ∧ p0ξ = (A 3 : Int) ∧ zMc Y F ∧ p1ξ = (A 10 : Int) := hφ
  obtain ⟨⟨M, hMξ, hVξ, hSbξ⟩, rfl, hYFξ, rfl⟩ := hφ
  have hYF0ξ := hYFξ
  obtain ⟨hYbξ, hFbξ, hFxξ, -⟩ := hYFξ
  show zp_J p l e R s m args below meth c Q w u [] 0 [(0, 2, (A 3 : Int)), (1, 2, (A 10 : Int))] [] u.1 (zp_n u.2.1)
  refine zp_load (pc := 0) hx hb (zd_X10_copyFrom (0, .aload_n 1, 1, 0, []) (List.mem_of_getElem? (i := 0) rfl)) rfl (j := 1) rfl ?_
  refine zp_getf (n := (A 64 : Int)) (pc := 1) hx hb hEξ hwξ (zd_X10_copyFrom (1, .getfield 11, 3, 0, []) (List.mem_of_getElem? (i := 1) rfl)) (j := 1) rfl rfl rfl (zM_P hMξ (hYbξ _ (List.mem_of_getElem? (i := 10) rfl))) ((zM_G hMξ (hYbξ _ (List.mem_of_getElem? (i := 10) rfl)) 0).trans (zM_F hMξ (hFbξ _ (List.mem_of_getElem? (i := 39) rfl)))) ?_
  refine zp_const (pc := 4) hx hb (zd_X10_copyFrom (4, .iconst 0, 1, 0, []) (List.mem_of_getElem? (i := 2) rfl)) rfl rfl ?_
  refine zp_load (pc := 5) hx hb (zd_X10_copyFrom (5, .aload_n 0, 1, 0, []) (List.mem_of_getElem? (i := 3) rfl)) rfl (j := 0) rfl ?_
  refine zp_getf (n := (A 62 : Int)) (pc := 6) hx hb hEξ hwξ (zd_X10_copyFrom (6, .getfield 11, 3, 0, []) (List.mem_of_getElem? (i := 4) rfl)) (j := 1) rfl rfl rfl (zM_P hMξ (hYbξ _ (List.mem_of_getElem? (i := 3) rfl))) ((zM_G hMξ (hYbξ _ (List.mem_of_getElem? (i := 3) rfl)) 0).trans (zM_F hMξ (hFbξ _ (List.mem_of_getElem? (i := 37) rfl)))) ?_
  refine zp_const (pc := 9) hx hb (zd_X10_copyFrom (9, .iconst 0, 1, 0, []) (List.mem_of_getElem? (i := 5) rfl)) rfl rfl ?_
  refine zp_const (pc := 10) hx hb (zd_X10_copyFrom (10, .bipush 16, 2, 0, []) (List.mem_of_getElem? (i := 6) rfl)) rfl rfl ?_
  refine zp_copyO (n := 16) (i0 := 0) (i1 := 0) (pc := 12) (idx := 34) (T0 := zt_types.getD 53 (0, 0, 0, [])) (T := zt_types.getD 53 (0, 0, 0, [])) hx hb hEξ hwξ heffξ hrmξ (zd_X10_copyFrom (12, .invokestatic 34, 3, 0, []) (List.mem_of_getElem? (i := 7) rfl)) (j := 5) rfl rfl rfl rfl rfl (zM_P hMξ (hYbξ _ (List.mem_of_getElem? (i := 42) rfl))) (zM_P hMξ (hYbξ _ (List.mem_of_getElem? (i := 40) rfl))) rfl (by omega) (by omega) (show 0 + 16 ≤ 16 by omega) (show 0 + 16 ≤ 16 by omega) (by omega) (fun j hjξ v h => h) ⟨by decide, by decide⟩ (by decide) (Or.inr ⟨by decide, by decide⟩) rfl ?_
  have hMy294ξ : zM A Y F (zc_cp M 64 0 62 0 16) u.1 (zp_cpo (zp_n u.2.1) (A 64) 0 (A 62) 0 16) := zM_cp hMξ (hYbξ _ (List.mem_of_getElem? (i := 42) rfl)) (hYbξ _ (List.mem_of_getElem? (i := 40) rfl))
  have hVy294ξ : ∀ o k, zNc o → (zc_cp M 64 0 62 0 16) o k = (zc_cp V 64 0 62 0 16) o k := zV_cp (o0 := 64) (i0 := 0) (o1 := 62) (i1 := 0) (n := 16) hVξ (fun j => (by decide))
  obtain ⟨Gy294, hGy294ξ⟩ : ∃ G9ξ, G9ξ = zp_cpo (zp_n u.2.1) (A 64) 0 (A 62) 0 16 := ⟨_, rfl⟩
  rw [← hGy294ξ] at hMy294ξ ⊢
  refine zp_load (pc := 15) hx hb (zd_X10_copyFrom (15, .aload_n 1, 1, 0, []) (List.mem_of_getElem? (i := 8) rfl)) rfl (j := 1) rfl ?_
  refine zp_getf (n := (A 65 : Int)) (pc := 16) hx hb hEξ hwξ (zd_X10_copyFrom (16, .getfield 17, 3, 0, []) (List.mem_of_getElem? (i := 9) rfl)) (j := 2) rfl rfl rfl (zM_P hMy294ξ (hYbξ _ (List.mem_of_getElem? (i := 10) rfl))) ((zM_G hMy294ξ (hYbξ _ (List.mem_of_getElem? (i := 10) rfl)) 1).trans (zM_F hMy294ξ (hFbξ _ (List.mem_of_getElem? (i := 40) rfl)))) ?_
  refine zp_const (pc := 19) hx hb (zd_X10_copyFrom (19, .iconst 0, 1, 0, []) (List.mem_of_getElem? (i := 10) rfl)) rfl rfl ?_
  refine zp_load (pc := 20) hx hb (zd_X10_copyFrom (20, .aload_n 0, 1, 0, []) (List.mem_of_getElem? (i := 11) rfl)) rfl (j := 0) rfl ?_
  refine zp_getf (n := (A 63 : Int)) (pc := 21) hx hb hEξ hwξ (zd_X10_copyFrom (21, .getfield 17, 3, 0, []) (List.mem_of_getElem? (i := 12) rfl)) (j := 2) rfl rfl rfl (zM_P hMy294ξ (hYbξ _ (List.mem_of_getElem? (i := 3) rfl))) ((zM_G hMy294ξ (hYbξ _ (List.mem_of_getElem? (i := 3) rfl)) 1).trans (zM_F hMy294ξ (hFbξ _ (List.mem_of_getElem? (i := 38) rfl)))) ?_
  refine zp_const (pc := 24) hx hb (zd_X10_copyFrom (24, .iconst 0, 1, 0, []) (List.mem_of_getElem? (i := 13) rfl)) rfl rfl ?_
  refine zp_const (pc := 25) hx hb (zd_X10_copyFrom (25, .sipush 416, 3, 0, []) (List.mem_of_getElem? (i := 14) rfl)) rfl rfl ?_
  refine zp_copyO (n := 416) (i0 := 0) (i1 := 0) (pc := 28) (idx := 34) (T0 := zt_types.getD 54 (0, 0, 0, [])) (T := zt_types.getD 54 (0, 0, 0, [])) hx hb hEξ hwξ heffξ hrmξ (zd_X10_copyFrom (28, .invokestatic 34, 3, 0, []) (List.mem_of_getElem? (i := 15) rfl)) (j := 5) rfl rfl rfl rfl rfl (zM_P hMy294ξ (hYbξ _ (List.mem_of_getElem? (i := 43) rfl))) (zM_P hMy294ξ (hYbξ _ (List.mem_of_getElem? (i := 41) rfl))) rfl (by omega) (by omega) (show 0 + 416 ≤ 416 by omega) (show 0 + 416 ≤ 416 by omega) (by omega) (fun j hjξ v h => h) ⟨by decide, by decide⟩ (by decide) (Or.inr ⟨by decide, by decide⟩) rfl ?_
  have hMy295ξ : zM A Y F (zc_cp (zc_cp M 64 0 62 0 16) 65 0 63 0 416) u.1 (zp_cpo Gy294 (A 65) 0 (A 63) 0 416) := zM_cp hMy294ξ (hYbξ _ (List.mem_of_getElem? (i := 43) rfl)) (hYbξ _ (List.mem_of_getElem? (i := 41) rfl))
  have hVy295ξ : ∀ o k, zNc o → (zc_cp (zc_cp M 64 0 62 0 16) 65 0 63 0 416) o k = (zc_cp (zc_cp V 64 0 62 0 16) 65 0 63 0 416) o k := zV_cp (o0 := 65) (i0 := 0) (o1 := 63) (i1 := 0) (n := 416) hVy294ξ (fun j => (by decide))
  obtain ⟨Gy295, hGy295ξ⟩ : ∃ G9ξ, G9ξ = zp_cpo Gy294 (A 65) 0 (A 63) 0 416 := ⟨_, rfl⟩
  rw [← hGy295ξ] at hMy295ξ ⊢
  refine zp_load (pc := 31) hx hb (zd_X10_copyFrom (31, .aload_n 0, 1, 0, []) (List.mem_of_getElem? (i := 16) rfl)) rfl (j := 0) rfl ?_
  refine zp_load (pc := 32) hx hb (zd_X10_copyFrom (32, .aload_n 1, 1, 0, []) (List.mem_of_getElem? (i := 17) rfl)) rfl (j := 1) rfl ?_
  refine zp_getf (n := (V 10 2)) (pc := 33) hx hb hEξ hwξ (zd_X10_copyFrom (33, .getfield 24, 3, 0, []) (List.mem_of_getElem? (i := 18) rfl)) (j := 3) rfl rfl rfl (zM_P hMy295ξ (hYbξ _ (List.mem_of_getElem? (i := 10) rfl))) (((zM_G hMy295ξ (hYbξ _ (List.mem_of_getElem? (i := 10) rfl)) 2).trans (hVy295ξ 10 2 (by decide))).trans (Eq.trans (zc_cp_o (by decide)) (Eq.trans rfl (zc_cp_o (by decide))))) ?_
  refine zp_kn (k := 2) (a := (A 10)) hwξ (show zp_fd 11 2 = some (10, 0, 0, 0, 15) from rfl) rfl (zM_P hMy295ξ (hYbξ _ (List.mem_of_getElem? (i := 10) rfl))) (fun hf296ξ => ?_)
  have hf296bξ := zp_int hf296ξ
  rw [(((zM_G hMy295ξ (hYbξ _ (List.mem_of_getElem? (i := 10) rfl)) 2).trans (hVy295ξ 10 2 (by decide))).trans (Eq.trans (zc_cp_o (by decide)) (Eq.trans rfl (zc_cp_o (by decide)))))] at hf296bξ
  clear hf296ξ
  refine zp_putf (pc := 36) hx hb hEξ hwξ heffξ (zd_X10_copyFrom (36, .putfield 24, 3, 0, []) (List.mem_of_getElem? (i := 19) rfl)) (j := 3) rfl rfl rfl (zM_P hMy295ξ (hYbξ _ (List.mem_of_getElem? (i := 3) rfl))) (zp_o0 (by omega) (by omega) (by omega) (by omega)) ?_
  refine zp_load (pc := 39) hx hb (zd_X10_copyFrom (39, .aload_n 0, 1, 0, []) (List.mem_of_getElem? (i := 20) rfl)) rfl (j := 0) rfl ?_
  refine zp_load (pc := 40) hx hb (zd_X10_copyFrom (40, .aload_n 1, 1, 0, []) (List.mem_of_getElem? (i := 21) rfl)) rfl (j := 1) rfl ?_
  refine zp_getf (n := (V 10 3)) (pc := 41) hx hb hEξ hwξ (zd_X10_copyFrom (41, .getfield 20, 3, 0, []) (List.mem_of_getElem? (i := 22) rfl)) (j := 4) rfl rfl rfl (zM_P hMy295ξ (hYbξ _ (List.mem_of_getElem? (i := 10) rfl))) ((zp_set_ne (Or.inl (zM_ne hMy295ξ (hYbξ _ (List.mem_of_getElem? (i := 10) rfl)) (hYbξ _ (List.mem_of_getElem? (i := 3) rfl)) (by decide)))).trans ((((zM_G hMy295ξ (hYbξ _ (List.mem_of_getElem? (i := 10) rfl)) 3).trans (hVy295ξ 10 3 (by decide))).trans (Eq.trans (zc_cp_o (by decide)) (Eq.trans rfl (zc_cp_o (by decide))))))) ?_
  refine zp_kn (k := 3) (a := (A 10)) hwξ (show zp_fd 11 3 = some (10, 0, 0, 0, 16) from rfl) rfl (zM_P hMy295ξ (hYbξ _ (List.mem_of_getElem? (i := 10) rfl))) (fun hf297ξ => ?_)
  have hf297bξ := zp_int hf297ξ
  rw [((zp_set_ne (Or.inl (zM_ne hMy295ξ (hYbξ _ (List.mem_of_getElem? (i := 10) rfl)) (hYbξ _ (List.mem_of_getElem? (i := 3) rfl)) (by decide)))).trans ((((zM_G hMy295ξ (hYbξ _ (List.mem_of_getElem? (i := 10) rfl)) 3).trans (hVy295ξ 10 3 (by decide))).trans (Eq.trans (zc_cp_o (by decide)) (Eq.trans rfl (zc_cp_o (by decide)))))))] at hf297bξ
  clear hf297ξ
  refine zp_putf (pc := 44) hx hb hEξ hwξ heffξ (zd_X10_copyFrom (44, .putfield 20, 3, 0, []) (List.mem_of_getElem? (i := 23) rfl)) (j := 4) rfl rfl rfl (zM_P hMy295ξ (hYbξ _ (List.mem_of_getElem? (i := 3) rfl))) (zp_o0 (by omega) (by omega) (by omega) (by omega)) ?_
  refine zp_vret (pc := 47) hx hb hEξ hQξ hU5ξ rfl (by decide) (zd_X10_copyFrom (47, .return_, 1, 0, []) (List.mem_of_getElem? (i := 24) rfl)) (j := 0) rfl ?_
  rw [hpsξ]
  refine ⟨rfl, ?_⟩
  have hffξ : zf_uf3_10 V = (0, (zp_set (zp_set (zc_cp (zc_cp V 64 0 62 0 16) 65 0 63 0 416) 3 2 (V 10 2)) 3 3 (V 10 3))) := rfl
  show zMVc A Y F (zf_uf3_10 V).2 u.1 (zp_set (zp_set Gy295 (A 3) 2 (V 10 2)) (A 3) 3 (V 10 3))
  rw [hffξ]
  exact ⟨(zp_set (zp_set (zc_cp (zc_cp M 64 0 62 0 16) 65 0 63 0 416) 3 2 (V 10 2)) 3 3 (V 10 3)), (zM_set (zM_set hMy295ξ (hYbξ _ (List.mem_of_getElem? (i := 3) rfl)) (zFx hFxξ (o := 3) (k := 2) (by decide) (by decide))) (hYbξ _ (List.mem_of_getElem? (i := 3) rfl)) (zFx hFxξ (o := 3) (k := 3) (by decide) (by decide))), (zV_set (zV_set hVy295ξ)), trivial⟩
theorem zf_uf3_10_f {V : Nat → Nat → Int} {o k : Nat} (h9ξ : o ∉ ([3, 62, 63] : List Nat)) : (zf_uf3_10 V).2 o k = V o k := by
  unfold zf_uf3_10
  show (zp_set (zp_set (zc_cp (zc_cp V 64 0 62 0 16) 65 0 63 0 416) 3 2 (V 10 2)) 3 3 (V 10 3)) o k = V o k
  exact ((zp_set_ne (Or.inl (zc_nin h9ξ (by decide)))).trans ((zp_set_ne (Or.inl (zc_nin h9ξ (by decide)))).trans ((zc_cp_o (zc_nin h9ξ (by decide))).trans (zc_cp_o (zc_nin h9ξ (by decide))))))
def zf_kpi2 (V : Nat → Nat → Int) (k9ξ : Nat) : Int × (Nat → Nat → Int) := if (V 2 4) = 0 then (0, (zp_set (zp_set (zp_set (zp_set (zc_cp (zc_cp (zc_cp V 50 0 63 (26 * k9ξ) 6) 51 0 63 (26 * k9ξ + 6) 6) 52 0 63 (26 * k9ξ + 12) 10) 63 (2000 + (26 * k9ξ + 22)) (V 2 3)) 63 (2000 + (26 * k9ξ + 23)) 0) 63 (2000 + (26 * k9ξ + 24)) (V 2 5)) 63 (2000 + (26 * k9ξ + 25)) (V 2 6))) else (0, (zp_set (zp_set (zp_set (zp_set (zc_cp (zc_cp (zc_cp V 50 0 63 (26 * k9ξ) 6) 51 0 63 (26 * k9ξ + 6) 6) 52 0 63 (26 * k9ξ + 12) 10) 63 (2000 + (26 * k9ξ + 22)) (V 2 3)) 63 (2000 + (26 * k9ξ + 23)) 1) 63 (2000 + (26 * k9ξ + 24)) (V 2 5)) 63 (2000 + (26 * k9ξ + 25)) (V 2 6)))
def zK_kpi2 : zk_K := (zt_mn 89, prog_4_method_3_code, 4, (Option.none : Option Jvm.ClassFile.FieldType), 1, 2, [(2, 2, 0, 0), (2, 54, 0, 0), (0, 0, (-2147483648), 2147483647)], [(none, [])], zUC, (1, 60, 0, 0))
def zφ_kpi2 (A : Nat → Nat) (Y : List (Nat × Nat)) (F : List (Nat × Nat × Nat)) (V : Nat → Nat → Int) (k9ξ : Nat) : (Nat → Option Nat) → (Nat → Nat → Int) → List Int → Prop := fun P G ps => zMVc A Y F V P G ∧ ps.getD 0 0 = (A 2 : Int) ∧ zMc Y F ∧ (ps.getD 1 0) = (A 63 : Int) ∧ (ps.getD 2 0) = 26 * (k9ξ : Int) ∧ k9ξ < 16
def zψ_kpi2 (A : Nat → Nat) (Y : List (Nat × Nat)) (F : List (Nat × Nat × Nat)) (V : Nat → Nat → Int) (k9ξ : Nat) : (Nat → Option Nat) → (Nat → Nat → Int) → List Int → (Nat → Option Nat) → (Nat → Nat → Int) → Int → Prop := fun P G ps P' G' rn => P' = P ∧ zMVc A Y F (zf_kpi2 V k9ξ).2 P' G'
theorem zX_kpi2 {l : Launch} {w : zk_W} (hWξ : zh_W w) (A : Nat → Nat) (Y : List (Nat × Nat)) (F : List (Nat × Nat × Nat)) (V : Nat → Nat → Int) (k9ξ : Nat) : zk_metX l w zt_dv zt_TB zK_kpi2 (zp_A (zφ_kpi2 A Y F V k9ξ)) (zp_B (zψ_kpi2 A Y F V k9ξ)) ∧ zk_cok w zt_TB zK_kpi2 := by
  refine zp_methX (cn := "WoundTown$Going") zp_lkallG hWξ (pl := 933) rfl (by decide +kernel) (fun p e R s m args below meth c Q u hx hb hEξ hQξ hU5ξ heffξ hnLξ hokξ hφ => ?_)
  have hwξ := hWξ.1
  obtain ⟨p0ξ, p1ξ, p2ξ, hpsξ, tk0, tk1, tk2⟩ := zp_ps3 hokξ
  have hrmξ : zk_Kr (zk_ev (zt_types, zp_lkG, zt_dv, [], [], zp_lcG, zK_kpi2)) = zk_Kr zK_kpi2 := rfl
  rw [hpsξ] at hφ ⊢
  have hφ : zMVc A Y F V u.1 (zp_n u.2.1) ∧ p0ξ = (A 2 : Int) ∧ zMc Y F ∧ p1ξ = (A 63 : Int) ∧ p2ξ = 26 * (k9ξ : Int) ∧ k9ξ < 16 := hφ
  obtain ⟨⟨M, hMξ, hVξ, hSbξ⟩, rfl, hYFξ, rfl, rfl, hk9ξ⟩ := hφ
  have hYF0ξ := hYFξ
  obtain ⟨hYbξ, hFbξ, hFxξ, -⟩ := hYFξ
  have hi2ξ := zp_int tk2
  show zp_J p l e R s m args below meth c Q w u [] 0 [(0, 2, (A 2 : Int)), (1, 2, (A 63 : Int)), (2, 0, (26 * (k9ξ : Int)))] [] u.1 (zp_n u.2.1)
  refine zp_load (pc := 0) hx hb (zd_X2_keepIn (0, .iload_n 2, 1, 0, []) (List.mem_of_getElem? (i := 0) rfl)) rfl (j := 2) rfl ?_
  refine zp_if (pc := 1) (tgt := 13) hx hb (zd_X2_keepIn (1, .ifCond .lt 12, 3, 0, []) (List.mem_of_getElem? (i := 1) rfl)) rfl (fun (hc298ξ : (26 * (k9ξ : Int)) < 0) => ?_) (fun (hc298ξ : ¬ ((26 * (k9ξ : Int)) < 0)) => ?_)
  · exfalso
    omega
  · refine zp_load (pc := 4) hx hb (zd_X2_keepIn (4, .iload_n 2, 1, 0, []) (List.mem_of_getElem? (i := 2) rfl)) rfl (j := 2) rfl ?_
    refine zp_load (pc := 5) hx hb (zd_X2_keepIn (5, .aload_n 1, 1, 0, []) (List.mem_of_getElem? (i := 3) rfl)) rfl (j := 1) rfl ?_
    refine zu_alen (len := 416) (pc := 6) hx hb hwξ (zd_X2_keepIn (6, .arraylength, 1, 0, []) (List.mem_of_getElem? (i := 4) rfl)) (zM_P hMξ (hYbξ _ (List.mem_of_getElem? (i := 41) rfl))) ⟨_, rfl, by decide, rfl, rfl⟩ (by decide) ?_
    refine zp_const (pc := 7) hx hb (zd_X2_keepIn (7, .bipush 26, 2, 0, []) (List.mem_of_getElem? (i := 5) rfl)) rfl rfl ?_
    refine zp_sub (n := 390) (pc := 9) hx hb (zd_X2_keepIn (9, .isub, 1, 0, []) (List.mem_of_getElem? (i := 6) rfl)) (by omega) (zp_r0 (by omega) (by omega)) ?_
    refine zp_icmp (pc := 10) (tgt := 14) hx hb (zd_X2_keepIn (10, .if_icmp .le 4, 3, 0, []) (List.mem_of_getElem? (i := 7) rfl)) rfl (fun (hc299ξ : (26 * (k9ξ : Int)) ≤ 390) => ?_) (fun (hc299ξ : ¬ ((26 * (k9ξ : Int)) ≤ 390)) => ?_)
    · refine zp_load (pc := 14) hx hb (zd_X2_keepIn (14, .aload_n 0, 1, 0, []) (List.mem_of_getElem? (i := 9) rfl)) rfl (j := 0) rfl ?_
      refine zp_getf (n := (A 50 : Int)) (pc := 15) hx hb hEξ hwξ (zd_X2_keepIn (15, .getfield 9, 3, 0, []) (List.mem_of_getElem? (i := 10) rfl)) (j := 1) rfl rfl rfl (zM_P hMξ (hYbξ _ (List.mem_of_getElem? (i := 2) rfl))) ((zM_G hMξ (hYbξ _ (List.mem_of_getElem? (i := 2) rfl)) 0).trans (zM_F hMξ (hFbξ _ (List.mem_of_getElem? (i := 25) rfl)))) ?_
      refine zp_const (pc := 18) hx hb (zd_X2_keepIn (18, .iconst 0, 1, 0, []) (List.mem_of_getElem? (i := 11) rfl)) rfl rfl ?_
      refine zp_load (pc := 19) hx hb (zd_X2_keepIn (19, .aload_n 1, 1, 0, []) (List.mem_of_getElem? (i := 12) rfl)) rfl (j := 1) rfl ?_
      refine zp_load (pc := 20) hx hb (zd_X2_keepIn (20, .iload_n 2, 1, 0, []) (List.mem_of_getElem? (i := 13) rfl)) rfl (j := 2) rfl ?_
      refine zp_const (pc := 21) hx hb (zd_X2_keepIn (21, .bipush 6, 2, 0, []) (List.mem_of_getElem? (i := 14) rfl)) rfl rfl ?_
      refine zp_copyO (n := 6) (i0 := 0) (i1 := 26 * k9ξ) (pc := 23) (idx := 28) (T0 := zt_types.getD 17 (0, 0, 0, [])) (T := zt_types.getD 54 (0, 0, 0, [])) hx hb hEξ hwξ heffξ hrmξ (zd_X2_keepIn (23, .invokestatic 28, 3, 0, []) (List.mem_of_getElem? (i := 15) rfl)) (j := 8) rfl rfl rfl rfl rfl (zM_P hMξ (hYbξ _ (List.mem_of_getElem? (i := 28) rfl))) (zM_P hMξ (hYbξ _ (List.mem_of_getElem? (i := 41) rfl))) rfl (by omega) (by omega) (show 0 + 6 ≤ 6 by omega) (show 26 * k9ξ + 6 ≤ 416 by omega) (by omega) (zl_54i (k := k9ξ) (b := 0) (by decide)) ⟨by decide, by decide⟩ (by decide) (Or.inr ⟨by decide, by decide⟩) rfl ?_
      have hMy300ξ : zM A Y F (zc_cp M 50 0 63 (26 * k9ξ) 6) u.1 (zp_cpo (zp_n u.2.1) (A 50) 0 (A 63) (26 * k9ξ) 6) := zM_cp hMξ (hYbξ _ (List.mem_of_getElem? (i := 28) rfl)) (hYbξ _ (List.mem_of_getElem? (i := 41) rfl))
      have hVy300ξ : ∀ o k, zNc o → (zc_cp M 50 0 63 (26 * k9ξ) 6) o k = (zc_cp V 50 0 63 (26 * k9ξ) 6) o k := zV_cp (o0 := 50) (i0 := 0) (o1 := 63) (i1 := 26 * k9ξ) (n := 6) hVξ (fun j => (by decide))
      obtain ⟨Gy300, hGy300ξ⟩ : ∃ G9ξ, G9ξ = zp_cpo (zp_n u.2.1) (A 50) 0 (A 63) (26 * k9ξ) 6 := ⟨_, rfl⟩
      rw [← hGy300ξ] at hMy300ξ ⊢
      refine zp_load (pc := 26) hx hb (zd_X2_keepIn (26, .aload_n 0, 1, 0, []) (List.mem_of_getElem? (i := 16) rfl)) rfl (j := 0) rfl ?_
      refine zp_getf (n := (A 51 : Int)) (pc := 27) hx hb hEξ hwξ (zd_X2_keepIn (27, .getfield 15, 3, 0, []) (List.mem_of_getElem? (i := 17) rfl)) (j := 2) rfl rfl rfl (zM_P hMy300ξ (hYbξ _ (List.mem_of_getElem? (i := 2) rfl))) ((zM_G hMy300ξ (hYbξ _ (List.mem_of_getElem? (i := 2) rfl)) 1).trans (zM_F hMy300ξ (hFbξ _ (List.mem_of_getElem? (i := 26) rfl)))) ?_
      refine zp_const (pc := 30) hx hb (zd_X2_keepIn (30, .iconst 0, 1, 0, []) (List.mem_of_getElem? (i := 18) rfl)) rfl rfl ?_
      refine zp_load (pc := 31) hx hb (zd_X2_keepIn (31, .aload_n 1, 1, 0, []) (List.mem_of_getElem? (i := 19) rfl)) rfl (j := 1) rfl ?_
      refine zp_load (pc := 32) hx hb (zd_X2_keepIn (32, .iload_n 2, 1, 0, []) (List.mem_of_getElem? (i := 20) rfl)) rfl (j := 2) rfl ?_
      refine zp_const (pc := 33) hx hb (zd_X2_keepIn (33, .bipush 6, 2, 0, []) (List.mem_of_getElem? (i := 21) rfl)) rfl rfl ?_
      refine zp_add (n := (26 * (k9ξ : Int) + 6)) (pc := 35) hx hb (zd_X2_keepIn (35, .iadd, 1, 0, []) (List.mem_of_getElem? (i := 22) rfl)) (by omega) (zp_r0 (by omega) (by omega)) ?_
      refine zp_const (pc := 36) hx hb (zd_X2_keepIn (36, .bipush 6, 2, 0, []) (List.mem_of_getElem? (i := 23) rfl)) rfl rfl ?_
      refine zp_copyO (n := 6) (i0 := 0) (i1 := (26 * k9ξ + 6)) (pc := 38) (idx := 28) (T0 := zt_types.getD 18 (0, 0, 0, [])) (T := zt_types.getD 54 (0, 0, 0, [])) hx hb hEξ hwξ heffξ hrmξ (zd_X2_keepIn (38, .invokestatic 28, 3, 0, []) (List.mem_of_getElem? (i := 24) rfl)) (j := 8) rfl rfl rfl rfl rfl (zM_P hMy300ξ (hYbξ _ (List.mem_of_getElem? (i := 29) rfl))) (zM_P hMy300ξ (hYbξ _ (List.mem_of_getElem? (i := 41) rfl))) rfl (by omega) (by omega) (show 0 + 6 ≤ 6 by omega) (show (26 * k9ξ + 6) + 6 ≤ 416 by omega) (by omega) (zl_54i (k := k9ξ) (b := 6) (by decide)) ⟨by decide, by decide⟩ (by decide) (Or.inr ⟨by decide, by decide⟩) rfl ?_
      have hMy301ξ : zM A Y F (zc_cp (zc_cp M 50 0 63 (26 * k9ξ) 6) 51 0 63 (26 * k9ξ + 6) 6) u.1 (zp_cpo Gy300 (A 51) 0 (A 63) (26 * k9ξ + 6) 6) := zM_cp hMy300ξ (hYbξ _ (List.mem_of_getElem? (i := 29) rfl)) (hYbξ _ (List.mem_of_getElem? (i := 41) rfl))
      have hVy301ξ : ∀ o k, zNc o → (zc_cp (zc_cp M 50 0 63 (26 * k9ξ) 6) 51 0 63 (26 * k9ξ + 6) 6) o k = (zc_cp (zc_cp V 50 0 63 (26 * k9ξ) 6) 51 0 63 (26 * k9ξ + 6) 6) o k := zV_cp (o0 := 51) (i0 := 0) (o1 := 63) (i1 := (26 * k9ξ + 6)) (n := 6) hVy300ξ (fun j => (by decide))
      obtain ⟨Gy301, hGy301ξ⟩ : ∃ G9ξ, G9ξ = zp_cpo Gy300 (A 51) 0 (A 63) (26 * k9ξ + 6) 6 := ⟨_, rfl⟩
      rw [← hGy301ξ] at hMy301ξ ⊢
      refine zp_load (pc := 41) hx hb (zd_X2_keepIn (41, .aload_n 0, 1, 0, []) (List.mem_of_getElem? (i := 25) rfl)) rfl (j := 0) rfl ?_
      refine zp_getf (n := (A 52 : Int)) (pc := 42) hx hb hEξ hwξ (zd_X2_keepIn (42, .getfield 18, 3, 0, []) (List.mem_of_getElem? (i := 26) rfl)) (j := 3) rfl rfl rfl (zM_P hMy301ξ (hYbξ _ (List.mem_of_getElem? (i := 2) rfl))) ((zM_G hMy301ξ (hYbξ _ (List.mem_of_getElem? (i := 2) rfl)) 2).trans (zM_F hMy301ξ (hFbξ _ (List.mem_of_getElem? (i := 27) rfl)))) ?_
      refine zp_const (pc := 45) hx hb (zd_X2_keepIn (45, .iconst 0, 1, 0, []) (List.mem_of_getElem? (i := 27) rfl)) rfl rfl ?_
      refine zp_load (pc := 46) hx hb (zd_X2_keepIn (46, .aload_n 1, 1, 0, []) (List.mem_of_getElem? (i := 28) rfl)) rfl (j := 1) rfl ?_
      refine zp_load (pc := 47) hx hb (zd_X2_keepIn (47, .iload_n 2, 1, 0, []) (List.mem_of_getElem? (i := 29) rfl)) rfl (j := 2) rfl ?_
      refine zp_const (pc := 48) hx hb (zd_X2_keepIn (48, .bipush 12, 2, 0, []) (List.mem_of_getElem? (i := 30) rfl)) rfl rfl ?_
      refine zp_add (n := (26 * (k9ξ : Int) + 12)) (pc := 50) hx hb (zd_X2_keepIn (50, .iadd, 1, 0, []) (List.mem_of_getElem? (i := 31) rfl)) (by omega) (zp_r0 (by omega) (by omega)) ?_
      refine zp_const (pc := 51) hx hb (zd_X2_keepIn (51, .bipush 10, 2, 0, []) (List.mem_of_getElem? (i := 32) rfl)) rfl rfl ?_
      refine zp_copyO (n := 10) (i0 := 0) (i1 := (26 * k9ξ + 12)) (pc := 53) (idx := 28) (T0 := zt_types.getD 19 (0, 0, 0, [])) (T := zt_types.getD 54 (0, 0, 0, [])) hx hb hEξ hwξ heffξ hrmξ (zd_X2_keepIn (53, .invokestatic 28, 3, 0, []) (List.mem_of_getElem? (i := 33) rfl)) (j := 8) rfl rfl rfl rfl rfl (zM_P hMy301ξ (hYbξ _ (List.mem_of_getElem? (i := 30) rfl))) (zM_P hMy301ξ (hYbξ _ (List.mem_of_getElem? (i := 41) rfl))) rfl (by omega) (by omega) (show 0 + 10 ≤ 10 by omega) (show (26 * k9ξ + 12) + 10 ≤ 416 by omega) (by omega) (zl_54i (k := k9ξ) (b := 12) (by decide)) ⟨by decide, by decide⟩ (by decide) (Or.inr ⟨by decide, by decide⟩) rfl ?_
      have hMy302ξ : zM A Y F (zc_cp (zc_cp (zc_cp M 50 0 63 (26 * k9ξ) 6) 51 0 63 (26 * k9ξ + 6) 6) 52 0 63 (26 * k9ξ + 12) 10) u.1 (zp_cpo Gy301 (A 52) 0 (A 63) (26 * k9ξ + 12) 10) := zM_cp hMy301ξ (hYbξ _ (List.mem_of_getElem? (i := 30) rfl)) (hYbξ _ (List.mem_of_getElem? (i := 41) rfl))
      have hVy302ξ : ∀ o k, zNc o → (zc_cp (zc_cp (zc_cp M 50 0 63 (26 * k9ξ) 6) 51 0 63 (26 * k9ξ + 6) 6) 52 0 63 (26 * k9ξ + 12) 10) o k = (zc_cp (zc_cp (zc_cp V 50 0 63 (26 * k9ξ) 6) 51 0 63 (26 * k9ξ + 6) 6) 52 0 63 (26 * k9ξ + 12) 10) o k := zV_cp (o0 := 52) (i0 := 0) (o1 := 63) (i1 := (26 * k9ξ + 12)) (n := 10) hVy301ξ (fun j => (by decide))
      obtain ⟨Gy302, hGy302ξ⟩ : ∃ G9ξ, G9ξ = zp_cpo Gy301 (A 52) 0 (A 63) (26 * k9ξ + 12) 10 := ⟨_, rfl⟩
      rw [← hGy302ξ] at hMy302ξ ⊢
      refine zp_load (pc := 56) hx hb (zd_X2_keepIn (56, .iload_n 2, 1, 0, []) (List.mem_of_getElem? (i := 34) rfl)) rfl (j := 2) rfl ?_
      refine zp_const (pc := 57) hx hb (zd_X2_keepIn (57, .bipush 12, 2, 0, []) (List.mem_of_getElem? (i := 35) rfl)) rfl rfl ?_
      refine zp_add (n := (26 * (k9ξ : Int) + 12)) (pc := 59) hx hb (zd_X2_keepIn (59, .iadd, 1, 0, []) (List.mem_of_getElem? (i := 36) rfl)) (by omega) (zp_r0 (by omega) (by omega)) ?_
      refine zp_const (pc := 60) hx hb (zd_X2_keepIn (60, .bipush 10, 2, 0, []) (List.mem_of_getElem? (i := 37) rfl)) rfl rfl ?_
      refine zp_add (n := (26 * (k9ξ : Int) + 22)) (pc := 62) hx hb (zd_X2_keepIn (62, .iadd, 1, 0, []) (List.mem_of_getElem? (i := 38) rfl)) (by omega) (zp_r0 (by omega) (by omega)) ?_
      refine zp_store (L' := [(3, 0, (26 * (k9ξ : Int) + 22)), (0, 2, (A 2 : Int)), (1, 2, (A 63 : Int)), (2, 0, (26 * (k9ξ : Int)))]) (pc := 63) hx hb hnLξ (zd_X2_keepIn (63, .istore_n 3, 1, 0, []) (List.mem_of_getElem? (i := 39) rfl)) rfl rfl rfl ?_
      refine zp_load (pc := 64) hx hb (zd_X2_keepIn (64, .aload_n 1, 1, 0, []) (List.mem_of_getElem? (i := 40) rfl)) rfl (j := 2) rfl ?_
      refine zp_load (pc := 65) hx hb (zd_X2_keepIn (65, .iload_n 3, 1, 0, []) (List.mem_of_getElem? (i := 41) rfl)) rfl (j := 0) rfl ?_
      refine zp_load (pc := 66) hx hb (zd_X2_keepIn (66, .aload_n 0, 1, 0, []) (List.mem_of_getElem? (i := 42) rfl)) rfl (j := 1) rfl ?_
      refine zp_getf (n := (V 2 3)) (pc := 67) hx hb hEξ hwξ (zd_X2_keepIn (67, .getfield 21, 3, 0, []) (List.mem_of_getElem? (i := 43) rfl)) (j := 4) rfl rfl rfl (zM_P hMy302ξ (hYbξ _ (List.mem_of_getElem? (i := 2) rfl))) (((zM_G hMy302ξ (hYbξ _ (List.mem_of_getElem? (i := 2) rfl)) 3).trans (hVy302ξ 2 3 (by decide))).trans (Eq.trans (zc_cp_o (by decide)) (Eq.trans rfl (Eq.trans (zc_cp_o (by decide)) (Eq.trans rfl (zc_cp_o (by decide))))))) ?_
      refine zp_kn (k := 3) (a := (A 2)) hwξ (show zp_fd 2 3 = some (2, 0, 0, (-2147483648), 2147483647) from rfl) rfl (zM_P hMy302ξ (hYbξ _ (List.mem_of_getElem? (i := 2) rfl))) (fun hf303ξ => ?_)
      have hf303bξ := zp_int hf303ξ
      rw [(((zM_G hMy302ξ (hYbξ _ (List.mem_of_getElem? (i := 2) rfl)) 3).trans (hVy302ξ 2 3 (by decide))).trans (Eq.trans (zc_cp_o (by decide)) (Eq.trans rfl (Eq.trans (zc_cp_o (by decide)) (Eq.trans rfl (zc_cp_o (by decide)))))))] at hf303bξ
      clear hf303ξ
      refine zp_iastT (j := (26 * k9ξ + 22)) (T := zt_types.getD 54 (0, 0, 0, [])) (pc := 70) hx hb hwξ heffξ (zd_X2_keepIn (70, .iastore, 1, 0, []) (List.mem_of_getElem? (i := 44) rfl)) rfl rfl (zl_k0_54 _) (zM_P hMy302ξ (hYbξ _ (List.mem_of_getElem? (i := 41) rfl))) (by omega) (show (26 * k9ξ + 22) < 416 by omega) (by omega) (zl_sto (lo := -2147483648) (hi := 2147483647) (zl_54r (k := k9ξ) (j := 22) (by decide) (by decide)) (by omega) (by omega) (by omega) (by omega)) (Or.inr ⟨by decide, by decide⟩) rfl ?_
      refine zp_load (pc := 71) hx hb (zd_X2_keepIn (71, .aload_n 1, 1, 0, []) (List.mem_of_getElem? (i := 45) rfl)) rfl (j := 2) rfl ?_
      refine zp_load (pc := 72) hx hb (zd_X2_keepIn (72, .iload_n 3, 1, 0, []) (List.mem_of_getElem? (i := 46) rfl)) rfl (j := 0) rfl ?_
      refine zp_const (pc := 73) hx hb (zd_X2_keepIn (73, .iconst 1, 1, 0, []) (List.mem_of_getElem? (i := 47) rfl)) rfl rfl ?_
      refine zp_add (n := (26 * (k9ξ : Int) + 23)) (pc := 74) hx hb (zd_X2_keepIn (74, .iadd, 1, 0, []) (List.mem_of_getElem? (i := 48) rfl)) (by omega) (zp_r0 (by omega) (by omega)) ?_
      refine zp_load (pc := 75) hx hb (zd_X2_keepIn (75, .aload_n 0, 1, 0, []) (List.mem_of_getElem? (i := 49) rfl)) rfl (j := 1) rfl ?_
      refine zp_getf (n := (V 2 4)) (pc := 76) hx hb hEξ hwξ (zd_X2_keepIn (76, .getfield 34, 3, 0, []) (List.mem_of_getElem? (i := 50) rfl)) (j := 5) rfl rfl rfl (zM_P hMy302ξ (hYbξ _ (List.mem_of_getElem? (i := 2) rfl))) ((zp_set_ne (Or.inl (zM_ne hMy302ξ (hYbξ _ (List.mem_of_getElem? (i := 2) rfl)) (hYbξ _ (List.mem_of_getElem? (i := 41) rfl)) (by decide)))).trans ((((zM_G hMy302ξ (hYbξ _ (List.mem_of_getElem? (i := 2) rfl)) 4).trans (hVy302ξ 2 4 (by decide))).trans (Eq.trans (zc_cp_o (by decide)) (Eq.trans rfl (Eq.trans (zc_cp_o (by decide)) (Eq.trans rfl (zc_cp_o (by decide))))))))) ?_
      refine zp_kn (k := 4) (a := (A 2)) hwξ (show zp_fd 2 4 = some (2, 0, 0, 0, 1) from rfl) rfl (zM_P hMy302ξ (hYbξ _ (List.mem_of_getElem? (i := 2) rfl))) (fun hf304ξ => ?_)
      have hf304bξ := zp_int hf304ξ
      rw [((zp_set_ne (Or.inl (zM_ne hMy302ξ (hYbξ _ (List.mem_of_getElem? (i := 2) rfl)) (hYbξ _ (List.mem_of_getElem? (i := 41) rfl)) (by decide)))).trans ((((zM_G hMy302ξ (hYbξ _ (List.mem_of_getElem? (i := 2) rfl)) 4).trans (hVy302ξ 2 4 (by decide))).trans (Eq.trans (zc_cp_o (by decide)) (Eq.trans rfl (Eq.trans (zc_cp_o (by decide)) (Eq.trans rfl (zc_cp_o (by decide)))))))))] at hf304bξ
      clear hf304ξ
      refine zp_if (pc := 79) (tgt := 86) hx hb (zd_X2_keepIn (79, .ifCond .eq 7, 3, 0, []) (List.mem_of_getElem? (i := 51) rfl)) rfl (fun (hc305ξ : (V 2 4) = 0) => ?_) (fun (hc305ξ : ¬ ((V 2 4) = 0)) => ?_)
      · refine zp_const (pc := 86) hx hb (zd_X2_keepIn (86, .iconst 0, 1, 0, []) (List.mem_of_getElem? (i := 54) rfl)) rfl rfl ?_
        refine zp_iastT (j := (26 * k9ξ + 23)) (T := zt_types.getD 54 (0, 0, 0, [])) (pc := 87) hx hb hwξ heffξ (zd_X2_keepIn (87, .iastore, 1, 0, []) (List.mem_of_getElem? (i := 55) rfl)) rfl rfl (zl_k0_54 _) (zM_P hMy302ξ (hYbξ _ (List.mem_of_getElem? (i := 41) rfl))) (by omega) (show (26 * k9ξ + 23) < 416 by omega) (by omega) (zl_sto (lo := -2147483648) (hi := 2147483647) (zl_54r (k := k9ξ) (j := 23) (by decide) (by decide)) (by omega) (by omega) (by omega) (by omega)) (Or.inr ⟨by decide, by decide⟩) rfl ?_
        refine zp_load (pc := 88) hx hb (zd_X2_keepIn (88, .aload_n 1, 1, 0, []) (List.mem_of_getElem? (i := 56) rfl)) rfl (j := 2) rfl ?_
        refine zp_load (pc := 89) hx hb (zd_X2_keepIn (89, .iload_n 3, 1, 0, []) (List.mem_of_getElem? (i := 57) rfl)) rfl (j := 0) rfl ?_
        refine zp_const (pc := 90) hx hb (zd_X2_keepIn (90, .iconst 2, 1, 0, []) (List.mem_of_getElem? (i := 58) rfl)) rfl rfl ?_
        refine zp_add (n := (26 * (k9ξ : Int) + 24)) (pc := 91) hx hb (zd_X2_keepIn (91, .iadd, 1, 0, []) (List.mem_of_getElem? (i := 59) rfl)) (by omega) (zp_r0 (by omega) (by omega)) ?_
        refine zp_load (pc := 92) hx hb (zd_X2_keepIn (92, .aload_n 0, 1, 0, []) (List.mem_of_getElem? (i := 60) rfl)) rfl (j := 1) rfl ?_
        refine zp_getf (n := (V 2 5)) (pc := 93) hx hb hEξ hwξ (zd_X2_keepIn (93, .getfield 25, 3, 0, []) (List.mem_of_getElem? (i := 61) rfl)) (j := 6) rfl rfl rfl (zM_P hMy302ξ (hYbξ _ (List.mem_of_getElem? (i := 2) rfl))) ((zp_set_ne (Or.inl (zM_ne hMy302ξ (hYbξ _ (List.mem_of_getElem? (i := 2) rfl)) (hYbξ _ (List.mem_of_getElem? (i := 41) rfl)) (by decide)))).trans ((zp_set_ne (Or.inl (zM_ne hMy302ξ (hYbξ _ (List.mem_of_getElem? (i := 2) rfl)) (hYbξ _ (List.mem_of_getElem? (i := 41) rfl)) (by decide)))).trans ((((zM_G hMy302ξ (hYbξ _ (List.mem_of_getElem? (i := 2) rfl)) 5).trans (hVy302ξ 2 5 (by decide))).trans (Eq.trans (zc_cp_o (by decide)) (Eq.trans rfl (Eq.trans (zc_cp_o (by decide)) (Eq.trans rfl (zc_cp_o (by decide)))))))))) ?_
        refine zp_kn (k := 5) (a := (A 2)) hwξ (show zp_fd 2 5 = some (2, 0, 0, (-2147483648), 2147483647) from rfl) rfl (zM_P hMy302ξ (hYbξ _ (List.mem_of_getElem? (i := 2) rfl))) (fun hf306ξ => ?_)
        have hf306bξ := zp_int hf306ξ
        rw [((zp_set_ne (Or.inl (zM_ne hMy302ξ (hYbξ _ (List.mem_of_getElem? (i := 2) rfl)) (hYbξ _ (List.mem_of_getElem? (i := 41) rfl)) (by decide)))).trans ((zp_set_ne (Or.inl (zM_ne hMy302ξ (hYbξ _ (List.mem_of_getElem? (i := 2) rfl)) (hYbξ _ (List.mem_of_getElem? (i := 41) rfl)) (by decide)))).trans ((((zM_G hMy302ξ (hYbξ _ (List.mem_of_getElem? (i := 2) rfl)) 5).trans (hVy302ξ 2 5 (by decide))).trans (Eq.trans (zc_cp_o (by decide)) (Eq.trans rfl (Eq.trans (zc_cp_o (by decide)) (Eq.trans rfl (zc_cp_o (by decide))))))))))] at hf306bξ
        clear hf306ξ
        refine zp_iastT (j := (26 * k9ξ + 24)) (T := zt_types.getD 54 (0, 0, 0, [])) (pc := 96) hx hb hwξ heffξ (zd_X2_keepIn (96, .iastore, 1, 0, []) (List.mem_of_getElem? (i := 62) rfl)) rfl rfl (zl_k0_54 _) (zM_P hMy302ξ (hYbξ _ (List.mem_of_getElem? (i := 41) rfl))) (by omega) (show (26 * k9ξ + 24) < 416 by omega) (by omega) (zl_sto (lo := -2147483648) (hi := 2147483647) (zl_54r (k := k9ξ) (j := 24) (by decide) (by decide)) (by omega) (by omega) (by omega) (by omega)) (Or.inr ⟨by decide, by decide⟩) rfl ?_
        refine zp_load (pc := 97) hx hb (zd_X2_keepIn (97, .aload_n 1, 1, 0, []) (List.mem_of_getElem? (i := 63) rfl)) rfl (j := 2) rfl ?_
        refine zp_load (pc := 98) hx hb (zd_X2_keepIn (98, .iload_n 3, 1, 0, []) (List.mem_of_getElem? (i := 64) rfl)) rfl (j := 0) rfl ?_
        refine zp_const (pc := 99) hx hb (zd_X2_keepIn (99, .iconst 3, 1, 0, []) (List.mem_of_getElem? (i := 65) rfl)) rfl rfl ?_
        refine zp_add (n := (26 * (k9ξ : Int) + 25)) (pc := 100) hx hb (zd_X2_keepIn (100, .iadd, 1, 0, []) (List.mem_of_getElem? (i := 66) rfl)) (by omega) (zp_r0 (by omega) (by omega)) ?_
        refine zp_load (pc := 101) hx hb (zd_X2_keepIn (101, .aload_n 0, 1, 0, []) (List.mem_of_getElem? (i := 67) rfl)) rfl (j := 1) rfl ?_
        refine zp_getf (n := (V 2 6)) (pc := 102) hx hb hEξ hwξ (zd_X2_keepIn (102, .getfield 38, 3, 0, []) (List.mem_of_getElem? (i := 68) rfl)) (j := 7) rfl rfl rfl (zM_P hMy302ξ (hYbξ _ (List.mem_of_getElem? (i := 2) rfl))) ((zp_set_ne (Or.inl (zM_ne hMy302ξ (hYbξ _ (List.mem_of_getElem? (i := 2) rfl)) (hYbξ _ (List.mem_of_getElem? (i := 41) rfl)) (by decide)))).trans ((zp_set_ne (Or.inl (zM_ne hMy302ξ (hYbξ _ (List.mem_of_getElem? (i := 2) rfl)) (hYbξ _ (List.mem_of_getElem? (i := 41) rfl)) (by decide)))).trans ((zp_set_ne (Or.inl (zM_ne hMy302ξ (hYbξ _ (List.mem_of_getElem? (i := 2) rfl)) (hYbξ _ (List.mem_of_getElem? (i := 41) rfl)) (by decide)))).trans ((((zM_G hMy302ξ (hYbξ _ (List.mem_of_getElem? (i := 2) rfl)) 6).trans (hVy302ξ 2 6 (by decide))).trans (Eq.trans (zc_cp_o (by decide)) (Eq.trans rfl (Eq.trans (zc_cp_o (by decide)) (Eq.trans rfl (zc_cp_o (by decide))))))))))) ?_
        refine zp_kn (k := 6) (a := (A 2)) hwξ (show zp_fd 2 6 = some (2, 0, 0, (-2147483648), 2147483647) from rfl) rfl (zM_P hMy302ξ (hYbξ _ (List.mem_of_getElem? (i := 2) rfl))) (fun hf307ξ => ?_)
        have hf307bξ := zp_int hf307ξ
        rw [((zp_set_ne (Or.inl (zM_ne hMy302ξ (hYbξ _ (List.mem_of_getElem? (i := 2) rfl)) (hYbξ _ (List.mem_of_getElem? (i := 41) rfl)) (by decide)))).trans ((zp_set_ne (Or.inl (zM_ne hMy302ξ (hYbξ _ (List.mem_of_getElem? (i := 2) rfl)) (hYbξ _ (List.mem_of_getElem? (i := 41) rfl)) (by decide)))).trans ((zp_set_ne (Or.inl (zM_ne hMy302ξ (hYbξ _ (List.mem_of_getElem? (i := 2) rfl)) (hYbξ _ (List.mem_of_getElem? (i := 41) rfl)) (by decide)))).trans ((((zM_G hMy302ξ (hYbξ _ (List.mem_of_getElem? (i := 2) rfl)) 6).trans (hVy302ξ 2 6 (by decide))).trans (Eq.trans (zc_cp_o (by decide)) (Eq.trans rfl (Eq.trans (zc_cp_o (by decide)) (Eq.trans rfl (zc_cp_o (by decide)))))))))))] at hf307bξ
        clear hf307ξ
        refine zp_iastT (j := (26 * k9ξ + 25)) (T := zt_types.getD 54 (0, 0, 0, [])) (pc := 105) hx hb hwξ heffξ (zd_X2_keepIn (105, .iastore, 1, 0, []) (List.mem_of_getElem? (i := 69) rfl)) rfl rfl (zl_k0_54 _) (zM_P hMy302ξ (hYbξ _ (List.mem_of_getElem? (i := 41) rfl))) (by omega) (show (26 * k9ξ + 25) < 416 by omega) (by omega) (zl_sto (lo := -2147483648) (hi := 2147483647) (zl_54r (k := k9ξ) (j := 25) (by decide) (by decide)) (by omega) (by omega) (by omega) (by omega)) (Or.inr ⟨by decide, by decide⟩) rfl ?_
        refine zp_vret (pc := 106) hx hb hEξ hQξ hU5ξ rfl (by decide) (zd_X2_keepIn (106, .return_, 1, 0, []) (List.mem_of_getElem? (i := 70) rfl)) (j := 0) rfl ?_
        rw [hpsξ]
        refine ⟨rfl, ?_⟩
        have hffξ : zf_kpi2 V k9ξ = (0, (zp_set (zp_set (zp_set (zp_set (zc_cp (zc_cp (zc_cp V 50 0 63 (26 * k9ξ) 6) 51 0 63 (26 * k9ξ + 6) 6) 52 0 63 (26 * k9ξ + 12) 10) 63 (2000 + (26 * k9ξ + 22)) (V 2 3)) 63 (2000 + (26 * k9ξ + 23)) 0) 63 (2000 + (26 * k9ξ + 24)) (V 2 5)) 63 (2000 + (26 * k9ξ + 25)) (V 2 6))) := by
          unfold zf_kpi2
          rw [if_pos hc305ξ]
        show zMVc A Y F (zf_kpi2 V k9ξ).2 u.1 (zp_set (zp_set (zp_set (zp_set Gy302 (A 63) (2000 + (26 * k9ξ + 22)) (V 2 3)) (A 63) (2000 + (26 * k9ξ + 23)) 0) (A 63) (2000 + (26 * k9ξ + 24)) (V 2 5)) (A 63) (2000 + (26 * k9ξ + 25)) (V 2 6))
        rw [hffξ]
        exact ⟨(zp_set (zp_set (zp_set (zp_set (zc_cp (zc_cp (zc_cp M 50 0 63 (26 * k9ξ) 6) 51 0 63 (26 * k9ξ + 6) 6) 52 0 63 (26 * k9ξ + 12) 10) 63 (2000 + (26 * k9ξ + 22)) (V 2 3)) 63 (2000 + (26 * k9ξ + 23)) 0) 63 (2000 + (26 * k9ξ + 24)) (V 2 5)) 63 (2000 + (26 * k9ξ + 25)) (V 2 6)), (zM_setE (zM_setE (zM_setE (zM_setE hMy302ξ (hYbξ _ (List.mem_of_getElem? (i := 41) rfl))) (hYbξ _ (List.mem_of_getElem? (i := 41) rfl))) (hYbξ _ (List.mem_of_getElem? (i := 41) rfl))) (hYbξ _ (List.mem_of_getElem? (i := 41) rfl))), (zV_set (zV_set (zV_set (zV_set hVy302ξ)))), trivial⟩
      · refine zp_const (pc := 82) hx hb (zd_X2_keepIn (82, .iconst 1, 1, 0, []) (List.mem_of_getElem? (i := 52) rfl)) rfl rfl ?_
        refine zp_goto (tgt := 87) (pc := 83) hx hb (zd_X2_keepIn (83, .goto 4, 3, 0, []) (List.mem_of_getElem? (i := 53) rfl)) rfl ?_
        refine zp_iastT (j := (26 * k9ξ + 23)) (T := zt_types.getD 54 (0, 0, 0, [])) (pc := 87) hx hb hwξ heffξ (zd_X2_keepIn (87, .iastore, 1, 0, []) (List.mem_of_getElem? (i := 55) rfl)) rfl rfl (zl_k0_54 _) (zM_P hMy302ξ (hYbξ _ (List.mem_of_getElem? (i := 41) rfl))) (by omega) (show (26 * k9ξ + 23) < 416 by omega) (by omega) (zl_sto (lo := -2147483648) (hi := 2147483647) (zl_54r (k := k9ξ) (j := 23) (by decide) (by decide)) (by omega) (by omega) (by omega) (by omega)) (Or.inr ⟨by decide, by decide⟩) rfl ?_
        refine zp_load (pc := 88) hx hb (zd_X2_keepIn (88, .aload_n 1, 1, 0, []) (List.mem_of_getElem? (i := 56) rfl)) rfl (j := 2) rfl ?_
        refine zp_load (pc := 89) hx hb (zd_X2_keepIn (89, .iload_n 3, 1, 0, []) (List.mem_of_getElem? (i := 57) rfl)) rfl (j := 0) rfl ?_
        refine zp_const (pc := 90) hx hb (zd_X2_keepIn (90, .iconst 2, 1, 0, []) (List.mem_of_getElem? (i := 58) rfl)) rfl rfl ?_
        refine zp_add (n := (26 * (k9ξ : Int) + 24)) (pc := 91) hx hb (zd_X2_keepIn (91, .iadd, 1, 0, []) (List.mem_of_getElem? (i := 59) rfl)) (by omega) (zp_r0 (by omega) (by omega)) ?_
        refine zp_load (pc := 92) hx hb (zd_X2_keepIn (92, .aload_n 0, 1, 0, []) (List.mem_of_getElem? (i := 60) rfl)) rfl (j := 1) rfl ?_
        refine zp_getf (n := (V 2 5)) (pc := 93) hx hb hEξ hwξ (zd_X2_keepIn (93, .getfield 25, 3, 0, []) (List.mem_of_getElem? (i := 61) rfl)) (j := 6) rfl rfl rfl (zM_P hMy302ξ (hYbξ _ (List.mem_of_getElem? (i := 2) rfl))) ((zp_set_ne (Or.inl (zM_ne hMy302ξ (hYbξ _ (List.mem_of_getElem? (i := 2) rfl)) (hYbξ _ (List.mem_of_getElem? (i := 41) rfl)) (by decide)))).trans ((zp_set_ne (Or.inl (zM_ne hMy302ξ (hYbξ _ (List.mem_of_getElem? (i := 2) rfl)) (hYbξ _ (List.mem_of_getElem? (i := 41) rfl)) (by decide)))).trans ((((zM_G hMy302ξ (hYbξ _ (List.mem_of_getElem? (i := 2) rfl)) 5).trans (hVy302ξ 2 5 (by decide))).trans (Eq.trans (zc_cp_o (by decide)) (Eq.trans rfl (Eq.trans (zc_cp_o (by decide)) (Eq.trans rfl (zc_cp_o (by decide)))))))))) ?_
        refine zp_kn (k := 5) (a := (A 2)) hwξ (show zp_fd 2 5 = some (2, 0, 0, (-2147483648), 2147483647) from rfl) rfl (zM_P hMy302ξ (hYbξ _ (List.mem_of_getElem? (i := 2) rfl))) (fun hf308ξ => ?_)
        have hf308bξ := zp_int hf308ξ
        rw [((zp_set_ne (Or.inl (zM_ne hMy302ξ (hYbξ _ (List.mem_of_getElem? (i := 2) rfl)) (hYbξ _ (List.mem_of_getElem? (i := 41) rfl)) (by decide)))).trans ((zp_set_ne (Or.inl (zM_ne hMy302ξ (hYbξ _ (List.mem_of_getElem? (i := 2) rfl)) (hYbξ _ (List.mem_of_getElem? (i := 41) rfl)) (by decide)))).trans ((((zM_G hMy302ξ (hYbξ _ (List.mem_of_getElem? (i := 2) rfl)) 5).trans (hVy302ξ 2 5 (by decide))).trans (Eq.trans (zc_cp_o (by decide)) (Eq.trans rfl (Eq.trans (zc_cp_o (by decide)) (Eq.trans rfl (zc_cp_o (by decide))))))))))] at hf308bξ
        clear hf308ξ
        refine zp_iastT (j := (26 * k9ξ + 24)) (T := zt_types.getD 54 (0, 0, 0, [])) (pc := 96) hx hb hwξ heffξ (zd_X2_keepIn (96, .iastore, 1, 0, []) (List.mem_of_getElem? (i := 62) rfl)) rfl rfl (zl_k0_54 _) (zM_P hMy302ξ (hYbξ _ (List.mem_of_getElem? (i := 41) rfl))) (by omega) (show (26 * k9ξ + 24) < 416 by omega) (by omega) (zl_sto (lo := -2147483648) (hi := 2147483647) (zl_54r (k := k9ξ) (j := 24) (by decide) (by decide)) (by omega) (by omega) (by omega) (by omega)) (Or.inr ⟨by decide, by decide⟩) rfl ?_
        refine zp_load (pc := 97) hx hb (zd_X2_keepIn (97, .aload_n 1, 1, 0, []) (List.mem_of_getElem? (i := 63) rfl)) rfl (j := 2) rfl ?_
        refine zp_load (pc := 98) hx hb (zd_X2_keepIn (98, .iload_n 3, 1, 0, []) (List.mem_of_getElem? (i := 64) rfl)) rfl (j := 0) rfl ?_
        refine zp_const (pc := 99) hx hb (zd_X2_keepIn (99, .iconst 3, 1, 0, []) (List.mem_of_getElem? (i := 65) rfl)) rfl rfl ?_
        refine zp_add (n := (26 * (k9ξ : Int) + 25)) (pc := 100) hx hb (zd_X2_keepIn (100, .iadd, 1, 0, []) (List.mem_of_getElem? (i := 66) rfl)) (by omega) (zp_r0 (by omega) (by omega)) ?_
        refine zp_load (pc := 101) hx hb (zd_X2_keepIn (101, .aload_n 0, 1, 0, []) (List.mem_of_getElem? (i := 67) rfl)) rfl (j := 1) rfl ?_
        refine zp_getf (n := (V 2 6)) (pc := 102) hx hb hEξ hwξ (zd_X2_keepIn (102, .getfield 38, 3, 0, []) (List.mem_of_getElem? (i := 68) rfl)) (j := 7) rfl rfl rfl (zM_P hMy302ξ (hYbξ _ (List.mem_of_getElem? (i := 2) rfl))) ((zp_set_ne (Or.inl (zM_ne hMy302ξ (hYbξ _ (List.mem_of_getElem? (i := 2) rfl)) (hYbξ _ (List.mem_of_getElem? (i := 41) rfl)) (by decide)))).trans ((zp_set_ne (Or.inl (zM_ne hMy302ξ (hYbξ _ (List.mem_of_getElem? (i := 2) rfl)) (hYbξ _ (List.mem_of_getElem? (i := 41) rfl)) (by decide)))).trans ((zp_set_ne (Or.inl (zM_ne hMy302ξ (hYbξ _ (List.mem_of_getElem? (i := 2) rfl)) (hYbξ _ (List.mem_of_getElem? (i := 41) rfl)) (by decide)))).trans ((((zM_G hMy302ξ (hYbξ _ (List.mem_of_getElem? (i := 2) rfl)) 6).trans (hVy302ξ 2 6 (by decide))).trans (Eq.trans (zc_cp_o (by decide)) (Eq.trans rfl (Eq.trans (zc_cp_o (by decide)) (Eq.trans rfl (zc_cp_o (by decide))))))))))) ?_
        refine zp_kn (k := 6) (a := (A 2)) hwξ (show zp_fd 2 6 = some (2, 0, 0, (-2147483648), 2147483647) from rfl) rfl (zM_P hMy302ξ (hYbξ _ (List.mem_of_getElem? (i := 2) rfl))) (fun hf309ξ => ?_)
        have hf309bξ := zp_int hf309ξ
        rw [((zp_set_ne (Or.inl (zM_ne hMy302ξ (hYbξ _ (List.mem_of_getElem? (i := 2) rfl)) (hYbξ _ (List.mem_of_getElem? (i := 41) rfl)) (by decide)))).trans ((zp_set_ne (Or.inl (zM_ne hMy302ξ (hYbξ _ (List.mem_of_getElem? (i := 2) rfl)) (hYbξ _ (List.mem_of_getElem? (i := 41) rfl)) (by decide)))).trans ((zp_set_ne (Or.inl (zM_ne hMy302ξ (hYbξ _ (List.mem_of_getElem? (i := 2) rfl)) (hYbξ _ (List.mem_of_getElem? (i := 41) rfl)) (by decide)))).trans ((((zM_G hMy302ξ (hYbξ _ (List.mem_of_getElem? (i := 2) rfl)) 6).trans (hVy302ξ 2 6 (by decide))).trans (Eq.trans (zc_cp_o (by decide)) (Eq.trans rfl (Eq.trans (zc_cp_o (by decide)) (Eq.trans rfl (zc_cp_o (by decide)))))))))))] at hf309bξ
        clear hf309ξ
        refine zp_iastT (j := (26 * k9ξ + 25)) (T := zt_types.getD 54 (0, 0, 0, [])) (pc := 105) hx hb hwξ heffξ (zd_X2_keepIn (105, .iastore, 1, 0, []) (List.mem_of_getElem? (i := 69) rfl)) rfl rfl (zl_k0_54 _) (zM_P hMy302ξ (hYbξ _ (List.mem_of_getElem? (i := 41) rfl))) (by omega) (show (26 * k9ξ + 25) < 416 by omega) (by omega) (zl_sto (lo := -2147483648) (hi := 2147483647) (zl_54r (k := k9ξ) (j := 25) (by decide) (by decide)) (by omega) (by omega) (by omega) (by omega)) (Or.inr ⟨by decide, by decide⟩) rfl ?_
        refine zp_vret (pc := 106) hx hb hEξ hQξ hU5ξ rfl (by decide) (zd_X2_keepIn (106, .return_, 1, 0, []) (List.mem_of_getElem? (i := 70) rfl)) (j := 0) rfl ?_
        rw [hpsξ]
        refine ⟨rfl, ?_⟩
        have hffξ : zf_kpi2 V k9ξ = (0, (zp_set (zp_set (zp_set (zp_set (zc_cp (zc_cp (zc_cp V 50 0 63 (26 * k9ξ) 6) 51 0 63 (26 * k9ξ + 6) 6) 52 0 63 (26 * k9ξ + 12) 10) 63 (2000 + (26 * k9ξ + 22)) (V 2 3)) 63 (2000 + (26 * k9ξ + 23)) 1) 63 (2000 + (26 * k9ξ + 24)) (V 2 5)) 63 (2000 + (26 * k9ξ + 25)) (V 2 6))) := by
          unfold zf_kpi2
          rw [if_neg hc305ξ]
        show zMVc A Y F (zf_kpi2 V k9ξ).2 u.1 (zp_set (zp_set (zp_set (zp_set Gy302 (A 63) (2000 + (26 * k9ξ + 22)) (V 2 3)) (A 63) (2000 + (26 * k9ξ + 23)) 1) (A 63) (2000 + (26 * k9ξ + 24)) (V 2 5)) (A 63) (2000 + (26 * k9ξ + 25)) (V 2 6))
        rw [hffξ]
        exact ⟨(zp_set (zp_set (zp_set (zp_set (zc_cp (zc_cp (zc_cp M 50 0 63 (26 * k9ξ) 6) 51 0 63 (26 * k9ξ + 6) 6) 52 0 63 (26 * k9ξ + 12) 10) 63 (2000 + (26 * k9ξ + 22)) (V 2 3)) 63 (2000 + (26 * k9ξ + 23)) 1) 63 (2000 + (26 * k9ξ + 24)) (V 2 5)) 63 (2000 + (26 * k9ξ + 25)) (V 2 6)), (zM_setE (zM_setE (zM_setE (zM_setE hMy302ξ (hYbξ _ (List.mem_of_getElem? (i := 41) rfl))) (hYbξ _ (List.mem_of_getElem? (i := 41) rfl))) (hYbξ _ (List.mem_of_getElem? (i := 41) rfl))) (hYbξ _ (List.mem_of_getElem? (i := 41) rfl))), (zV_set (zV_set (zV_set (zV_set hVy302ξ)))), trivial⟩
    · exfalso
      omega
theorem zf_kpi2_f {V : Nat → Nat → Int} {k9ξ : Nat} {o k : Nat} (h9ξ : o ∉ ([63] : List Nat)) : (zf_kpi2 V k9ξ).2 o k = V o k := by
  unfold zf_kpi2
  by_cases hd2ξ : (V 2 4) = 0
  · rw [if_pos hd2ξ]
    show (zp_set (zp_set (zp_set (zp_set (zc_cp (zc_cp (zc_cp V 50 0 63 (26 * k9ξ) 6) 51 0 63 (26 * k9ξ + 6) 6) 52 0 63 (26 * k9ξ + 12) 10) 63 (2000 + (26 * k9ξ + 22)) (V 2 3)) 63 (2000 + (26 * k9ξ + 23)) 0) 63 (2000 + (26 * k9ξ + 24)) (V 2 5)) 63 (2000 + (26 * k9ξ + 25)) (V 2 6)) o k = V o k
    exact ((zp_set_ne (Or.inl (zc_nin h9ξ (by decide)))).trans ((zp_set_ne (Or.inl (zc_nin h9ξ (by decide)))).trans ((zp_set_ne (Or.inl (zc_nin h9ξ (by decide)))).trans ((zp_set_ne (Or.inl (zc_nin h9ξ (by decide)))).trans ((zc_cp_o (zc_nin h9ξ (by decide))).trans ((zc_cp_o (zc_nin h9ξ (by decide))).trans (zc_cp_o (zc_nin h9ξ (by decide)))))))))
  · rw [if_neg hd2ξ]
    show (zp_set (zp_set (zp_set (zp_set (zc_cp (zc_cp (zc_cp V 50 0 63 (26 * k9ξ) 6) 51 0 63 (26 * k9ξ + 6) 6) 52 0 63 (26 * k9ξ + 12) 10) 63 (2000 + (26 * k9ξ + 22)) (V 2 3)) 63 (2000 + (26 * k9ξ + 23)) 1) 63 (2000 + (26 * k9ξ + 24)) (V 2 5)) 63 (2000 + (26 * k9ξ + 25)) (V 2 6)) o k = V o k
    exact ((zp_set_ne (Or.inl (zc_nin h9ξ (by decide)))).trans ((zp_set_ne (Or.inl (zc_nin h9ξ (by decide)))).trans ((zp_set_ne (Or.inl (zc_nin h9ξ (by decide)))).trans ((zp_set_ne (Or.inl (zc_nin h9ξ (by decide)))).trans ((zc_cp_o (zc_nin h9ξ (by decide))).trans ((zc_cp_o (zc_nin h9ξ (by decide))).trans (zc_cp_o (zc_nin h9ξ (by decide)))))))))
def zf_tkf2 (V : Nat → Nat → Int) (k9ξ : Nat) : Int × (Nat → Nat → Int) := if ¬ (V 63 (2000 + (26 * k9ξ + 23))) = 1 then (0, (zp_set (zp_set (zp_set (zp_set (zc_cp (zc_cp (zc_cp V 63 (26 * k9ξ) 50 0 6) 63 (26 * k9ξ + 6) 51 0 6) 63 (26 * k9ξ + 12) 52 0 10) 2 3 (V 63 (2000 + (26 * k9ξ + 22)))) 2 4 0) 2 5 (V 63 (2000 + (26 * k9ξ + 24)))) 2 6 (V 63 (2000 + (26 * k9ξ + 25))))) else (0, (zp_set (zp_set (zp_set (zp_set (zc_cp (zc_cp (zc_cp V 63 (26 * k9ξ) 50 0 6) 63 (26 * k9ξ + 6) 51 0 6) 63 (26 * k9ξ + 12) 52 0 10) 2 3 (V 63 (2000 + (26 * k9ξ + 22)))) 2 4 1) 2 5 (V 63 (2000 + (26 * k9ξ + 24)))) 2 6 (V 63 (2000 + (26 * k9ξ + 25)))))
def zK_tkf2 : zk_K := (zt_mn 127, prog_4_method_4_code, 4, (Option.none : Option Jvm.ClassFile.FieldType), 1, 2, [(2, 2, 0, 0), (2, 54, 0, 0), (0, 0, (-2147483648), 2147483647)], [(none, [])], zUC, (1, 60, 0, 0))
def zφ_tkf2 (A : Nat → Nat) (Y : List (Nat × Nat)) (F : List (Nat × Nat × Nat)) (V : Nat → Nat → Int) (k9ξ : Nat) : (Nat → Option Nat) → (Nat → Nat → Int) → List Int → Prop := fun P G ps => zMVc A Y F V P G ∧ ps.getD 0 0 = (A 2 : Int) ∧ zMc Y F ∧ (ps.getD 1 0) = (A 63 : Int) ∧ (ps.getD 2 0) = 26 * (k9ξ : Int) ∧ k9ξ < 16
def zψ_tkf2 (A : Nat → Nat) (Y : List (Nat × Nat)) (F : List (Nat × Nat × Nat)) (V : Nat → Nat → Int) (k9ξ : Nat) : (Nat → Option Nat) → (Nat → Nat → Int) → List Int → (Nat → Option Nat) → (Nat → Nat → Int) → Int → Prop := fun P G ps P' G' rn => P' = P ∧ zMVc A Y F (zf_tkf2 V k9ξ).2 P' G'
theorem zX_tkf2 {l : Launch} {w : zk_W} (hWξ : zh_W w) (A : Nat → Nat) (Y : List (Nat × Nat)) (F : List (Nat × Nat × Nat)) (V : Nat → Nat → Int) (k9ξ : Nat) : zk_metX l w zt_dv zt_TB zK_tkf2 (zp_A (zφ_tkf2 A Y F V k9ξ)) (zp_B (zψ_tkf2 A Y F V k9ξ)) ∧ zk_cok w zt_TB zK_tkf2 := by
  refine zp_methX (cn := "WoundTown$Going") zp_lkallG hWξ (pl := 1090) rfl (by decide +kernel) (fun p e R s m args below meth c Q u hx hb hEξ hQξ hU5ξ heffξ hnLξ hokξ hφ => ?_)
  have hwξ := hWξ.1
  obtain ⟨p0ξ, p1ξ, p2ξ, hpsξ, tk0, tk1, tk2⟩ := zp_ps3 hokξ
  have hrmξ : zk_Kr (zk_ev (zt_types, zp_lkG, zt_dv, [], [], zp_lcG, zK_tkf2)) = zk_Kr zK_tkf2 := rfl
  rw [hpsξ] at hφ ⊢
  have hφ : zMVc A Y F V u.1 (zp_n u.2.1) ∧ p0ξ = (A 2 : Int) ∧ zMc Y F ∧ p1ξ = (A 63 : Int) ∧ p2ξ = 26 * (k9ξ : Int) ∧ k9ξ < 16 := hφ
  obtain ⟨⟨M, hMξ, hVξ, hSbξ⟩, rfl, hYFξ, rfl, rfl, hk9ξ⟩ := hφ
  have hYF0ξ := hYFξ
  obtain ⟨hYbξ, hFbξ, hFxξ, -⟩ := hYFξ
  have hi2ξ := zp_int tk2
  show zp_J p l e R s m args below meth c Q w u [] 0 [(0, 2, (A 2 : Int)), (1, 2, (A 63 : Int)), (2, 0, (26 * (k9ξ : Int)))] [] u.1 (zp_n u.2.1)
  refine zp_load (pc := 0) hx hb (zd_X2_takeFrom (0, .iload_n 2, 1, 0, []) (List.mem_of_getElem? (i := 0) rfl)) rfl (j := 2) rfl ?_
  refine zp_if (pc := 1) (tgt := 13) hx hb (zd_X2_takeFrom (1, .ifCond .lt 12, 3, 0, []) (List.mem_of_getElem? (i := 1) rfl)) rfl (fun (hc310ξ : (26 * (k9ξ : Int)) < 0) => ?_) (fun (hc310ξ : ¬ ((26 * (k9ξ : Int)) < 0)) => ?_)
  · exfalso
    omega
  · refine zp_load (pc := 4) hx hb (zd_X2_takeFrom (4, .iload_n 2, 1, 0, []) (List.mem_of_getElem? (i := 2) rfl)) rfl (j := 2) rfl ?_
    refine zp_load (pc := 5) hx hb (zd_X2_takeFrom (5, .aload_n 1, 1, 0, []) (List.mem_of_getElem? (i := 3) rfl)) rfl (j := 1) rfl ?_
    refine zu_alen (len := 416) (pc := 6) hx hb hwξ (zd_X2_takeFrom (6, .arraylength, 1, 0, []) (List.mem_of_getElem? (i := 4) rfl)) (zM_P hMξ (hYbξ _ (List.mem_of_getElem? (i := 41) rfl))) ⟨_, rfl, by decide, rfl, rfl⟩ (by decide) ?_
    refine zp_const (pc := 7) hx hb (zd_X2_takeFrom (7, .bipush 26, 2, 0, []) (List.mem_of_getElem? (i := 5) rfl)) rfl rfl ?_
    refine zp_sub (n := 390) (pc := 9) hx hb (zd_X2_takeFrom (9, .isub, 1, 0, []) (List.mem_of_getElem? (i := 6) rfl)) (by omega) (zp_r0 (by omega) (by omega)) ?_
    refine zp_icmp (pc := 10) (tgt := 14) hx hb (zd_X2_takeFrom (10, .if_icmp .le 4, 3, 0, []) (List.mem_of_getElem? (i := 7) rfl)) rfl (fun (hc311ξ : (26 * (k9ξ : Int)) ≤ 390) => ?_) (fun (hc311ξ : ¬ ((26 * (k9ξ : Int)) ≤ 390)) => ?_)
    · refine zp_load (pc := 14) hx hb (zd_X2_takeFrom (14, .aload_n 1, 1, 0, []) (List.mem_of_getElem? (i := 9) rfl)) rfl (j := 1) rfl ?_
      refine zp_load (pc := 15) hx hb (zd_X2_takeFrom (15, .iload_n 2, 1, 0, []) (List.mem_of_getElem? (i := 10) rfl)) rfl (j := 2) rfl ?_
      refine zp_load (pc := 16) hx hb (zd_X2_takeFrom (16, .aload_n 0, 1, 0, []) (List.mem_of_getElem? (i := 11) rfl)) rfl (j := 0) rfl ?_
      refine zp_getf (n := (A 50 : Int)) (pc := 17) hx hb hEξ hwξ (zd_X2_takeFrom (17, .getfield 9, 3, 0, []) (List.mem_of_getElem? (i := 12) rfl)) (j := 1) rfl rfl rfl (zM_P hMξ (hYbξ _ (List.mem_of_getElem? (i := 2) rfl))) ((zM_G hMξ (hYbξ _ (List.mem_of_getElem? (i := 2) rfl)) 0).trans (zM_F hMξ (hFbξ _ (List.mem_of_getElem? (i := 25) rfl)))) ?_
      refine zp_const (pc := 20) hx hb (zd_X2_takeFrom (20, .iconst 0, 1, 0, []) (List.mem_of_getElem? (i := 13) rfl)) rfl rfl ?_
      refine zp_const (pc := 21) hx hb (zd_X2_takeFrom (21, .bipush 6, 2, 0, []) (List.mem_of_getElem? (i := 14) rfl)) rfl rfl ?_
      refine zp_copyO (n := 6) (i0 := 26 * k9ξ) (i1 := 0) (pc := 23) (idx := 28) (T0 := zt_types.getD 54 (0, 0, 0, [])) (T := zt_types.getD 17 (0, 0, 0, [])) hx hb hEξ hwξ heffξ hrmξ (zd_X2_takeFrom (23, .invokestatic 28, 3, 0, []) (List.mem_of_getElem? (i := 15) rfl)) (j := 8) rfl rfl rfl rfl rfl (zM_P hMξ (hYbξ _ (List.mem_of_getElem? (i := 41) rfl))) (zM_P hMξ (hYbξ _ (List.mem_of_getElem? (i := 28) rfl))) rfl (by omega) (by omega) (show 26 * k9ξ + 6 ≤ 416 by omega) (show 0 + 6 ≤ 6 by omega) (by omega) (zl_54o (k := k9ξ) (b := 0) (by decide)) ⟨by decide, by decide⟩ (by decide) (Or.inr ⟨by decide, by decide⟩) rfl ?_
      have hMy312ξ : zM A Y F (zc_cp M 63 (26 * k9ξ) 50 0 6) u.1 (zp_cpo (zp_n u.2.1) (A 63) (26 * k9ξ) (A 50) 0 6) := zM_cp hMξ (hYbξ _ (List.mem_of_getElem? (i := 41) rfl)) (hYbξ _ (List.mem_of_getElem? (i := 28) rfl))
      have hVy312ξ : ∀ o k, zNc o → (zc_cp M 63 (26 * k9ξ) 50 0 6) o k = (zc_cp V 63 (26 * k9ξ) 50 0 6) o k := zV_cp (o0 := 63) (i0 := 26 * k9ξ) (o1 := 50) (i1 := 0) (n := 6) hVξ (fun j => (by decide))
      obtain ⟨Gy312, hGy312ξ⟩ : ∃ G9ξ, G9ξ = zp_cpo (zp_n u.2.1) (A 63) (26 * k9ξ) (A 50) 0 6 := ⟨_, rfl⟩
      rw [← hGy312ξ] at hMy312ξ ⊢
      refine zp_load (pc := 26) hx hb (zd_X2_takeFrom (26, .aload_n 1, 1, 0, []) (List.mem_of_getElem? (i := 16) rfl)) rfl (j := 1) rfl ?_
      refine zp_load (pc := 27) hx hb (zd_X2_takeFrom (27, .iload_n 2, 1, 0, []) (List.mem_of_getElem? (i := 17) rfl)) rfl (j := 2) rfl ?_
      refine zp_const (pc := 28) hx hb (zd_X2_takeFrom (28, .bipush 6, 2, 0, []) (List.mem_of_getElem? (i := 18) rfl)) rfl rfl ?_
      refine zp_add (n := (26 * (k9ξ : Int) + 6)) (pc := 30) hx hb (zd_X2_takeFrom (30, .iadd, 1, 0, []) (List.mem_of_getElem? (i := 19) rfl)) (by omega) (zp_r0 (by omega) (by omega)) ?_
      refine zp_load (pc := 31) hx hb (zd_X2_takeFrom (31, .aload_n 0, 1, 0, []) (List.mem_of_getElem? (i := 20) rfl)) rfl (j := 0) rfl ?_
      refine zp_getf (n := (A 51 : Int)) (pc := 32) hx hb hEξ hwξ (zd_X2_takeFrom (32, .getfield 15, 3, 0, []) (List.mem_of_getElem? (i := 21) rfl)) (j := 2) rfl rfl rfl (zM_P hMy312ξ (hYbξ _ (List.mem_of_getElem? (i := 2) rfl))) ((zM_G hMy312ξ (hYbξ _ (List.mem_of_getElem? (i := 2) rfl)) 1).trans (zM_F hMy312ξ (hFbξ _ (List.mem_of_getElem? (i := 26) rfl)))) ?_
      refine zp_const (pc := 35) hx hb (zd_X2_takeFrom (35, .iconst 0, 1, 0, []) (List.mem_of_getElem? (i := 22) rfl)) rfl rfl ?_
      refine zp_const (pc := 36) hx hb (zd_X2_takeFrom (36, .bipush 6, 2, 0, []) (List.mem_of_getElem? (i := 23) rfl)) rfl rfl ?_
      refine zp_copyO (n := 6) (i0 := (26 * k9ξ + 6)) (i1 := 0) (pc := 38) (idx := 28) (T0 := zt_types.getD 54 (0, 0, 0, [])) (T := zt_types.getD 18 (0, 0, 0, [])) hx hb hEξ hwξ heffξ hrmξ (zd_X2_takeFrom (38, .invokestatic 28, 3, 0, []) (List.mem_of_getElem? (i := 24) rfl)) (j := 8) rfl rfl rfl rfl rfl (zM_P hMy312ξ (hYbξ _ (List.mem_of_getElem? (i := 41) rfl))) (zM_P hMy312ξ (hYbξ _ (List.mem_of_getElem? (i := 29) rfl))) rfl (by omega) (by omega) (show (26 * k9ξ + 6) + 6 ≤ 416 by omega) (show 0 + 6 ≤ 6 by omega) (by omega) (zl_54o (k := k9ξ) (b := 6) (by decide)) ⟨by decide, by decide⟩ (by decide) (Or.inr ⟨by decide, by decide⟩) rfl ?_
      have hMy313ξ : zM A Y F (zc_cp (zc_cp M 63 (26 * k9ξ) 50 0 6) 63 (26 * k9ξ + 6) 51 0 6) u.1 (zp_cpo Gy312 (A 63) (26 * k9ξ + 6) (A 51) 0 6) := zM_cp hMy312ξ (hYbξ _ (List.mem_of_getElem? (i := 41) rfl)) (hYbξ _ (List.mem_of_getElem? (i := 29) rfl))
      have hVy313ξ : ∀ o k, zNc o → (zc_cp (zc_cp M 63 (26 * k9ξ) 50 0 6) 63 (26 * k9ξ + 6) 51 0 6) o k = (zc_cp (zc_cp V 63 (26 * k9ξ) 50 0 6) 63 (26 * k9ξ + 6) 51 0 6) o k := zV_cp (o0 := 63) (i0 := (26 * k9ξ + 6)) (o1 := 51) (i1 := 0) (n := 6) hVy312ξ (fun j => (by decide))
      obtain ⟨Gy313, hGy313ξ⟩ : ∃ G9ξ, G9ξ = zp_cpo Gy312 (A 63) (26 * k9ξ + 6) (A 51) 0 6 := ⟨_, rfl⟩
      rw [← hGy313ξ] at hMy313ξ ⊢
      refine zp_load (pc := 41) hx hb (zd_X2_takeFrom (41, .aload_n 1, 1, 0, []) (List.mem_of_getElem? (i := 25) rfl)) rfl (j := 1) rfl ?_
      refine zp_load (pc := 42) hx hb (zd_X2_takeFrom (42, .iload_n 2, 1, 0, []) (List.mem_of_getElem? (i := 26) rfl)) rfl (j := 2) rfl ?_
      refine zp_const (pc := 43) hx hb (zd_X2_takeFrom (43, .bipush 12, 2, 0, []) (List.mem_of_getElem? (i := 27) rfl)) rfl rfl ?_
      refine zp_add (n := (26 * (k9ξ : Int) + 12)) (pc := 45) hx hb (zd_X2_takeFrom (45, .iadd, 1, 0, []) (List.mem_of_getElem? (i := 28) rfl)) (by omega) (zp_r0 (by omega) (by omega)) ?_
      refine zp_load (pc := 46) hx hb (zd_X2_takeFrom (46, .aload_n 0, 1, 0, []) (List.mem_of_getElem? (i := 29) rfl)) rfl (j := 0) rfl ?_
      refine zp_getf (n := (A 52 : Int)) (pc := 47) hx hb hEξ hwξ (zd_X2_takeFrom (47, .getfield 18, 3, 0, []) (List.mem_of_getElem? (i := 30) rfl)) (j := 3) rfl rfl rfl (zM_P hMy313ξ (hYbξ _ (List.mem_of_getElem? (i := 2) rfl))) ((zM_G hMy313ξ (hYbξ _ (List.mem_of_getElem? (i := 2) rfl)) 2).trans (zM_F hMy313ξ (hFbξ _ (List.mem_of_getElem? (i := 27) rfl)))) ?_
      refine zp_const (pc := 50) hx hb (zd_X2_takeFrom (50, .iconst 0, 1, 0, []) (List.mem_of_getElem? (i := 31) rfl)) rfl rfl ?_
      refine zp_const (pc := 51) hx hb (zd_X2_takeFrom (51, .bipush 10, 2, 0, []) (List.mem_of_getElem? (i := 32) rfl)) rfl rfl ?_
      refine zp_copyO (n := 10) (i0 := (26 * k9ξ + 12)) (i1 := 0) (pc := 53) (idx := 28) (T0 := zt_types.getD 54 (0, 0, 0, [])) (T := zt_types.getD 19 (0, 0, 0, [])) hx hb hEξ hwξ heffξ hrmξ (zd_X2_takeFrom (53, .invokestatic 28, 3, 0, []) (List.mem_of_getElem? (i := 33) rfl)) (j := 8) rfl rfl rfl rfl rfl (zM_P hMy313ξ (hYbξ _ (List.mem_of_getElem? (i := 41) rfl))) (zM_P hMy313ξ (hYbξ _ (List.mem_of_getElem? (i := 30) rfl))) rfl (by omega) (by omega) (show (26 * k9ξ + 12) + 10 ≤ 416 by omega) (show 0 + 10 ≤ 10 by omega) (by omega) (zl_54o (k := k9ξ) (b := 12) (by decide)) ⟨by decide, by decide⟩ (by decide) (Or.inr ⟨by decide, by decide⟩) rfl ?_
      have hMy314ξ : zM A Y F (zc_cp (zc_cp (zc_cp M 63 (26 * k9ξ) 50 0 6) 63 (26 * k9ξ + 6) 51 0 6) 63 (26 * k9ξ + 12) 52 0 10) u.1 (zp_cpo Gy313 (A 63) (26 * k9ξ + 12) (A 52) 0 10) := zM_cp hMy313ξ (hYbξ _ (List.mem_of_getElem? (i := 41) rfl)) (hYbξ _ (List.mem_of_getElem? (i := 30) rfl))
      have hVy314ξ : ∀ o k, zNc o → (zc_cp (zc_cp (zc_cp M 63 (26 * k9ξ) 50 0 6) 63 (26 * k9ξ + 6) 51 0 6) 63 (26 * k9ξ + 12) 52 0 10) o k = (zc_cp (zc_cp (zc_cp V 63 (26 * k9ξ) 50 0 6) 63 (26 * k9ξ + 6) 51 0 6) 63 (26 * k9ξ + 12) 52 0 10) o k := zV_cp (o0 := 63) (i0 := (26 * k9ξ + 12)) (o1 := 52) (i1 := 0) (n := 10) hVy313ξ (fun j => (by decide))
      obtain ⟨Gy314, hGy314ξ⟩ : ∃ G9ξ, G9ξ = zp_cpo Gy313 (A 63) (26 * k9ξ + 12) (A 52) 0 10 := ⟨_, rfl⟩
      rw [← hGy314ξ] at hMy314ξ ⊢
      refine zp_load (pc := 56) hx hb (zd_X2_takeFrom (56, .iload_n 2, 1, 0, []) (List.mem_of_getElem? (i := 34) rfl)) rfl (j := 2) rfl ?_
      refine zp_const (pc := 57) hx hb (zd_X2_takeFrom (57, .bipush 12, 2, 0, []) (List.mem_of_getElem? (i := 35) rfl)) rfl rfl ?_
      refine zp_add (n := (26 * (k9ξ : Int) + 12)) (pc := 59) hx hb (zd_X2_takeFrom (59, .iadd, 1, 0, []) (List.mem_of_getElem? (i := 36) rfl)) (by omega) (zp_r0 (by omega) (by omega)) ?_
      refine zp_const (pc := 60) hx hb (zd_X2_takeFrom (60, .bipush 10, 2, 0, []) (List.mem_of_getElem? (i := 37) rfl)) rfl rfl ?_
      refine zp_add (n := (26 * (k9ξ : Int) + 22)) (pc := 62) hx hb (zd_X2_takeFrom (62, .iadd, 1, 0, []) (List.mem_of_getElem? (i := 38) rfl)) (by omega) (zp_r0 (by omega) (by omega)) ?_
      refine zp_store (L' := [(3, 0, (26 * (k9ξ : Int) + 22)), (0, 2, (A 2 : Int)), (1, 2, (A 63 : Int)), (2, 0, (26 * (k9ξ : Int)))]) (pc := 63) hx hb hnLξ (zd_X2_takeFrom (63, .istore_n 3, 1, 0, []) (List.mem_of_getElem? (i := 39) rfl)) rfl rfl rfl ?_
      refine zp_load (pc := 64) hx hb (zd_X2_takeFrom (64, .aload_n 0, 1, 0, []) (List.mem_of_getElem? (i := 40) rfl)) rfl (j := 1) rfl ?_
      refine zp_load (pc := 65) hx hb (zd_X2_takeFrom (65, .aload_n 1, 1, 0, []) (List.mem_of_getElem? (i := 41) rfl)) rfl (j := 2) rfl ?_
      refine zp_load (pc := 66) hx hb (zd_X2_takeFrom (66, .iload_n 3, 1, 0, []) (List.mem_of_getElem? (i := 42) rfl)) rfl (j := 0) rfl ?_
      refine zp_ialdT (j := (26 * k9ξ + 22)) (v := (V 63 (2000 + (26 * k9ξ + 22)))) (T := zt_types.getD 54 (0, 0, 0, [])) (pc := 67) hx hb hwξ (zd_X2_takeFrom (67, .iaload, 1, 0, []) (List.mem_of_getElem? (i := 43) rfl)) rfl rfl (zl_k0_54 _) (zM_P hMy314ξ (hYbξ _ (List.mem_of_getElem? (i := 41) rfl))) (by omega) (show (26 * k9ξ + 22) < 416 by omega) (((zM_G hMy314ξ (hYbξ _ (List.mem_of_getElem? (i := 41) rfl)) (2000 + (26 * k9ξ + 22))).trans (hVy314ξ 63 (2000 + (26 * k9ξ + 22)) (by decide))).trans (Eq.trans (zc_cp_o (by decide)) (Eq.trans rfl (Eq.trans (zc_cp_o (by decide)) (Eq.trans rfl (zc_cp_o (by decide))))))) (fun hk315ξ => ?_)
      have hb316ξ := zp_int (zl_lod (zl_54r (k := k9ξ) (j := 22) (by decide) (by decide)) hk315ξ)
      refine zp_putf (pc := 68) hx hb hEξ hwξ heffξ (zd_X2_takeFrom (68, .putfield 21, 3, 0, []) (List.mem_of_getElem? (i := 44) rfl)) (j := 4) rfl rfl rfl (zM_P hMy314ξ (hYbξ _ (List.mem_of_getElem? (i := 2) rfl))) (zp_o0 (by omega) (by omega) (by omega) (by omega)) ?_
      refine zp_load (pc := 71) hx hb (zd_X2_takeFrom (71, .aload_n 0, 1, 0, []) (List.mem_of_getElem? (i := 45) rfl)) rfl (j := 1) rfl ?_
      refine zp_load (pc := 72) hx hb (zd_X2_takeFrom (72, .aload_n 1, 1, 0, []) (List.mem_of_getElem? (i := 46) rfl)) rfl (j := 2) rfl ?_
      refine zp_load (pc := 73) hx hb (zd_X2_takeFrom (73, .iload_n 3, 1, 0, []) (List.mem_of_getElem? (i := 47) rfl)) rfl (j := 0) rfl ?_
      refine zp_const (pc := 74) hx hb (zd_X2_takeFrom (74, .iconst 1, 1, 0, []) (List.mem_of_getElem? (i := 48) rfl)) rfl rfl ?_
      refine zp_add (n := (26 * (k9ξ : Int) + 23)) (pc := 75) hx hb (zd_X2_takeFrom (75, .iadd, 1, 0, []) (List.mem_of_getElem? (i := 49) rfl)) (by omega) (zp_r0 (by omega) (by omega)) ?_
      refine zp_ialdT (j := (26 * k9ξ + 23)) (v := (V 63 (2000 + (26 * k9ξ + 23)))) (T := zt_types.getD 54 (0, 0, 0, [])) (pc := 76) hx hb hwξ (zd_X2_takeFrom (76, .iaload, 1, 0, []) (List.mem_of_getElem? (i := 50) rfl)) rfl rfl (zl_k0_54 _) (zM_P hMy314ξ (hYbξ _ (List.mem_of_getElem? (i := 41) rfl))) (by omega) (show (26 * k9ξ + 23) < 416 by omega) ((zp_set_ne (Or.inl (zM_ne hMy314ξ (hYbξ _ (List.mem_of_getElem? (i := 41) rfl)) (hYbξ _ (List.mem_of_getElem? (i := 2) rfl)) (by decide)))).trans ((((zM_G hMy314ξ (hYbξ _ (List.mem_of_getElem? (i := 41) rfl)) (2000 + (26 * k9ξ + 23))).trans (hVy314ξ 63 (2000 + (26 * k9ξ + 23)) (by decide))).trans (Eq.trans (zc_cp_o (by decide)) (Eq.trans rfl (Eq.trans (zc_cp_o (by decide)) (Eq.trans rfl (zc_cp_o (by decide))))))))) (fun hk317ξ => ?_)
      have hb318ξ := zp_int (zl_lod (zl_54r (k := k9ξ) (j := 23) (by decide) (by decide)) hk317ξ)
      refine zp_const (pc := 77) hx hb (zd_X2_takeFrom (77, .iconst 1, 1, 0, []) (List.mem_of_getElem? (i := 51) rfl)) rfl rfl ?_
      refine zp_icmp (pc := 78) (tgt := 85) hx hb (zd_X2_takeFrom (78, .if_icmp .ne 7, 3, 0, []) (List.mem_of_getElem? (i := 52) rfl)) rfl (fun (hc319ξ : ¬ (V 63 (2000 + (26 * k9ξ + 23))) = 1) => ?_) (fun (hc319ξ : ¬ (¬ (V 63 (2000 + (26 * k9ξ + 23))) = 1)) => ?_)
      · refine zp_const (pc := 85) hx hb (zd_X2_takeFrom (85, .iconst 0, 1, 0, []) (List.mem_of_getElem? (i := 55) rfl)) rfl rfl ?_
        refine zp_putf (pc := 86) hx hb hEξ hwξ heffξ (zd_X2_takeFrom (86, .putfield 34, 3, 0, []) (List.mem_of_getElem? (i := 56) rfl)) (j := 5) rfl rfl rfl (zM_P hMy314ξ (hYbξ _ (List.mem_of_getElem? (i := 2) rfl))) (zp_o0 (by decide) (by decide) (by decide) (by decide)) ?_
        refine zp_load (pc := 89) hx hb (zd_X2_takeFrom (89, .aload_n 0, 1, 0, []) (List.mem_of_getElem? (i := 57) rfl)) rfl (j := 1) rfl ?_
        refine zp_load (pc := 90) hx hb (zd_X2_takeFrom (90, .aload_n 1, 1, 0, []) (List.mem_of_getElem? (i := 58) rfl)) rfl (j := 2) rfl ?_
        refine zp_load (pc := 91) hx hb (zd_X2_takeFrom (91, .iload_n 3, 1, 0, []) (List.mem_of_getElem? (i := 59) rfl)) rfl (j := 0) rfl ?_
        refine zp_const (pc := 92) hx hb (zd_X2_takeFrom (92, .iconst 2, 1, 0, []) (List.mem_of_getElem? (i := 60) rfl)) rfl rfl ?_
        refine zp_add (n := (26 * (k9ξ : Int) + 24)) (pc := 93) hx hb (zd_X2_takeFrom (93, .iadd, 1, 0, []) (List.mem_of_getElem? (i := 61) rfl)) (by omega) (zp_r0 (by omega) (by omega)) ?_
        refine zp_ialdT (j := (26 * k9ξ + 24)) (v := (V 63 (2000 + (26 * k9ξ + 24)))) (T := zt_types.getD 54 (0, 0, 0, [])) (pc := 94) hx hb hwξ (zd_X2_takeFrom (94, .iaload, 1, 0, []) (List.mem_of_getElem? (i := 62) rfl)) rfl rfl (zl_k0_54 _) (zM_P hMy314ξ (hYbξ _ (List.mem_of_getElem? (i := 41) rfl))) (by omega) (show (26 * k9ξ + 24) < 416 by omega) ((zp_set_ne (Or.inl (zM_ne hMy314ξ (hYbξ _ (List.mem_of_getElem? (i := 41) rfl)) (hYbξ _ (List.mem_of_getElem? (i := 2) rfl)) (by decide)))).trans ((zp_set_ne (Or.inl (zM_ne hMy314ξ (hYbξ _ (List.mem_of_getElem? (i := 41) rfl)) (hYbξ _ (List.mem_of_getElem? (i := 2) rfl)) (by decide)))).trans ((((zM_G hMy314ξ (hYbξ _ (List.mem_of_getElem? (i := 41) rfl)) (2000 + (26 * k9ξ + 24))).trans (hVy314ξ 63 (2000 + (26 * k9ξ + 24)) (by decide))).trans (Eq.trans (zc_cp_o (by decide)) (Eq.trans rfl (Eq.trans (zc_cp_o (by decide)) (Eq.trans rfl (zc_cp_o (by decide)))))))))) (fun hk320ξ => ?_)
        have hb321ξ := zp_int (zl_lod (zl_54r (k := k9ξ) (j := 24) (by decide) (by decide)) hk320ξ)
        refine zp_putf (pc := 95) hx hb hEξ hwξ heffξ (zd_X2_takeFrom (95, .putfield 25, 3, 0, []) (List.mem_of_getElem? (i := 63) rfl)) (j := 6) rfl rfl rfl (zM_P hMy314ξ (hYbξ _ (List.mem_of_getElem? (i := 2) rfl))) (zp_o0 (by omega) (by omega) (by omega) (by omega)) ?_
        refine zp_load (pc := 98) hx hb (zd_X2_takeFrom (98, .aload_n 0, 1, 0, []) (List.mem_of_getElem? (i := 64) rfl)) rfl (j := 1) rfl ?_
        refine zp_load (pc := 99) hx hb (zd_X2_takeFrom (99, .aload_n 1, 1, 0, []) (List.mem_of_getElem? (i := 65) rfl)) rfl (j := 2) rfl ?_
        refine zp_load (pc := 100) hx hb (zd_X2_takeFrom (100, .iload_n 3, 1, 0, []) (List.mem_of_getElem? (i := 66) rfl)) rfl (j := 0) rfl ?_
        refine zp_const (pc := 101) hx hb (zd_X2_takeFrom (101, .iconst 3, 1, 0, []) (List.mem_of_getElem? (i := 67) rfl)) rfl rfl ?_
        refine zp_add (n := (26 * (k9ξ : Int) + 25)) (pc := 102) hx hb (zd_X2_takeFrom (102, .iadd, 1, 0, []) (List.mem_of_getElem? (i := 68) rfl)) (by omega) (zp_r0 (by omega) (by omega)) ?_
        refine zp_ialdT (j := (26 * k9ξ + 25)) (v := (V 63 (2000 + (26 * k9ξ + 25)))) (T := zt_types.getD 54 (0, 0, 0, [])) (pc := 103) hx hb hwξ (zd_X2_takeFrom (103, .iaload, 1, 0, []) (List.mem_of_getElem? (i := 69) rfl)) rfl rfl (zl_k0_54 _) (zM_P hMy314ξ (hYbξ _ (List.mem_of_getElem? (i := 41) rfl))) (by omega) (show (26 * k9ξ + 25) < 416 by omega) ((zp_set_ne (Or.inl (zM_ne hMy314ξ (hYbξ _ (List.mem_of_getElem? (i := 41) rfl)) (hYbξ _ (List.mem_of_getElem? (i := 2) rfl)) (by decide)))).trans ((zp_set_ne (Or.inl (zM_ne hMy314ξ (hYbξ _ (List.mem_of_getElem? (i := 41) rfl)) (hYbξ _ (List.mem_of_getElem? (i := 2) rfl)) (by decide)))).trans ((zp_set_ne (Or.inl (zM_ne hMy314ξ (hYbξ _ (List.mem_of_getElem? (i := 41) rfl)) (hYbξ _ (List.mem_of_getElem? (i := 2) rfl)) (by decide)))).trans ((((zM_G hMy314ξ (hYbξ _ (List.mem_of_getElem? (i := 41) rfl)) (2000 + (26 * k9ξ + 25))).trans (hVy314ξ 63 (2000 + (26 * k9ξ + 25)) (by decide))).trans (Eq.trans (zc_cp_o (by decide)) (Eq.trans rfl (Eq.trans (zc_cp_o (by decide)) (Eq.trans rfl (zc_cp_o (by decide))))))))))) (fun hk322ξ => ?_)
        have hb323ξ := zp_int (zl_lod (zl_54r (k := k9ξ) (j := 25) (by decide) (by decide)) hk322ξ)
        refine zp_putf (pc := 104) hx hb hEξ hwξ heffξ (zd_X2_takeFrom (104, .putfield 38, 3, 0, []) (List.mem_of_getElem? (i := 70) rfl)) (j := 7) rfl rfl rfl (zM_P hMy314ξ (hYbξ _ (List.mem_of_getElem? (i := 2) rfl))) (zp_o0 (by omega) (by omega) (by omega) (by omega)) ?_
        refine zp_vret (pc := 107) hx hb hEξ hQξ hU5ξ rfl (by decide) (zd_X2_takeFrom (107, .return_, 1, 0, []) (List.mem_of_getElem? (i := 71) rfl)) (j := 0) rfl ?_
        rw [hpsξ]
        refine ⟨rfl, ?_⟩
        have hffξ : zf_tkf2 V k9ξ = (0, (zp_set (zp_set (zp_set (zp_set (zc_cp (zc_cp (zc_cp V 63 (26 * k9ξ) 50 0 6) 63 (26 * k9ξ + 6) 51 0 6) 63 (26 * k9ξ + 12) 52 0 10) 2 3 (V 63 (2000 + (26 * k9ξ + 22)))) 2 4 0) 2 5 (V 63 (2000 + (26 * k9ξ + 24)))) 2 6 (V 63 (2000 + (26 * k9ξ + 25))))) := by
          unfold zf_tkf2
          rw [if_pos hc319ξ]
        show zMVc A Y F (zf_tkf2 V k9ξ).2 u.1 (zp_set (zp_set (zp_set (zp_set Gy314 (A 2) 3 (V 63 (2000 + (26 * k9ξ + 22)))) (A 2) 4 0) (A 2) 5 (V 63 (2000 + (26 * k9ξ + 24)))) (A 2) 6 (V 63 (2000 + (26 * k9ξ + 25))))
        rw [hffξ]
        exact ⟨(zp_set (zp_set (zp_set (zp_set (zc_cp (zc_cp (zc_cp M 63 (26 * k9ξ) 50 0 6) 63 (26 * k9ξ + 6) 51 0 6) 63 (26 * k9ξ + 12) 52 0 10) 2 3 (V 63 (2000 + (26 * k9ξ + 22)))) 2 4 0) 2 5 (V 63 (2000 + (26 * k9ξ + 24)))) 2 6 (V 63 (2000 + (26 * k9ξ + 25)))), (zM_set (zM_set (zM_set (zM_set hMy314ξ (hYbξ _ (List.mem_of_getElem? (i := 2) rfl)) (zFx hFxξ (o := 2) (k := 3) (by decide) (by decide))) (hYbξ _ (List.mem_of_getElem? (i := 2) rfl)) (zFx hFxξ (o := 2) (k := 4) (by decide) (by decide))) (hYbξ _ (List.mem_of_getElem? (i := 2) rfl)) (zFx hFxξ (o := 2) (k := 5) (by decide) (by decide))) (hYbξ _ (List.mem_of_getElem? (i := 2) rfl)) (zFx hFxξ (o := 2) (k := 6) (by decide) (by decide))), (zV_set (zV_set (zV_set (zV_set hVy314ξ)))), trivial⟩
      · refine zp_const (pc := 81) hx hb (zd_X2_takeFrom (81, .iconst 1, 1, 0, []) (List.mem_of_getElem? (i := 53) rfl)) rfl rfl ?_
        refine zp_goto (tgt := 86) (pc := 82) hx hb (zd_X2_takeFrom (82, .goto 4, 3, 0, []) (List.mem_of_getElem? (i := 54) rfl)) rfl ?_
        refine zp_putf (pc := 86) hx hb hEξ hwξ heffξ (zd_X2_takeFrom (86, .putfield 34, 3, 0, []) (List.mem_of_getElem? (i := 56) rfl)) (j := 5) rfl rfl rfl (zM_P hMy314ξ (hYbξ _ (List.mem_of_getElem? (i := 2) rfl))) (zp_o0 (by decide) (by decide) (by decide) (by decide)) ?_
        refine zp_load (pc := 89) hx hb (zd_X2_takeFrom (89, .aload_n 0, 1, 0, []) (List.mem_of_getElem? (i := 57) rfl)) rfl (j := 1) rfl ?_
        refine zp_load (pc := 90) hx hb (zd_X2_takeFrom (90, .aload_n 1, 1, 0, []) (List.mem_of_getElem? (i := 58) rfl)) rfl (j := 2) rfl ?_
        refine zp_load (pc := 91) hx hb (zd_X2_takeFrom (91, .iload_n 3, 1, 0, []) (List.mem_of_getElem? (i := 59) rfl)) rfl (j := 0) rfl ?_
        refine zp_const (pc := 92) hx hb (zd_X2_takeFrom (92, .iconst 2, 1, 0, []) (List.mem_of_getElem? (i := 60) rfl)) rfl rfl ?_
        refine zp_add (n := (26 * (k9ξ : Int) + 24)) (pc := 93) hx hb (zd_X2_takeFrom (93, .iadd, 1, 0, []) (List.mem_of_getElem? (i := 61) rfl)) (by omega) (zp_r0 (by omega) (by omega)) ?_
        refine zp_ialdT (j := (26 * k9ξ + 24)) (v := (V 63 (2000 + (26 * k9ξ + 24)))) (T := zt_types.getD 54 (0, 0, 0, [])) (pc := 94) hx hb hwξ (zd_X2_takeFrom (94, .iaload, 1, 0, []) (List.mem_of_getElem? (i := 62) rfl)) rfl rfl (zl_k0_54 _) (zM_P hMy314ξ (hYbξ _ (List.mem_of_getElem? (i := 41) rfl))) (by omega) (show (26 * k9ξ + 24) < 416 by omega) ((zp_set_ne (Or.inl (zM_ne hMy314ξ (hYbξ _ (List.mem_of_getElem? (i := 41) rfl)) (hYbξ _ (List.mem_of_getElem? (i := 2) rfl)) (by decide)))).trans ((zp_set_ne (Or.inl (zM_ne hMy314ξ (hYbξ _ (List.mem_of_getElem? (i := 41) rfl)) (hYbξ _ (List.mem_of_getElem? (i := 2) rfl)) (by decide)))).trans ((((zM_G hMy314ξ (hYbξ _ (List.mem_of_getElem? (i := 41) rfl)) (2000 + (26 * k9ξ + 24))).trans (hVy314ξ 63 (2000 + (26 * k9ξ + 24)) (by decide))).trans (Eq.trans (zc_cp_o (by decide)) (Eq.trans rfl (Eq.trans (zc_cp_o (by decide)) (Eq.trans rfl (zc_cp_o (by decide)))))))))) (fun hk324ξ => ?_)
        have hb325ξ := zp_int (zl_lod (zl_54r (k := k9ξ) (j := 24) (by decide) (by decide)) hk324ξ)
        refine zp_putf (pc := 95) hx hb hEξ hwξ heffξ (zd_X2_takeFrom (95, .putfield 25, 3, 0, []) (List.mem_of_getElem? (i := 63) rfl)) (j := 6) rfl rfl rfl (zM_P hMy314ξ (hYbξ _ (List.mem_of_getElem? (i := 2) rfl))) (zp_o0 (by omega) (by omega) (by omega) (by omega)) ?_
        refine zp_load (pc := 98) hx hb (zd_X2_takeFrom (98, .aload_n 0, 1, 0, []) (List.mem_of_getElem? (i := 64) rfl)) rfl (j := 1) rfl ?_
        refine zp_load (pc := 99) hx hb (zd_X2_takeFrom (99, .aload_n 1, 1, 0, []) (List.mem_of_getElem? (i := 65) rfl)) rfl (j := 2) rfl ?_
        refine zp_load (pc := 100) hx hb (zd_X2_takeFrom (100, .iload_n 3, 1, 0, []) (List.mem_of_getElem? (i := 66) rfl)) rfl (j := 0) rfl ?_
        refine zp_const (pc := 101) hx hb (zd_X2_takeFrom (101, .iconst 3, 1, 0, []) (List.mem_of_getElem? (i := 67) rfl)) rfl rfl ?_
        refine zp_add (n := (26 * (k9ξ : Int) + 25)) (pc := 102) hx hb (zd_X2_takeFrom (102, .iadd, 1, 0, []) (List.mem_of_getElem? (i := 68) rfl)) (by omega) (zp_r0 (by omega) (by omega)) ?_
        refine zp_ialdT (j := (26 * k9ξ + 25)) (v := (V 63 (2000 + (26 * k9ξ + 25)))) (T := zt_types.getD 54 (0, 0, 0, [])) (pc := 103) hx hb hwξ (zd_X2_takeFrom (103, .iaload, 1, 0, []) (List.mem_of_getElem? (i := 69) rfl)) rfl rfl (zl_k0_54 _) (zM_P hMy314ξ (hYbξ _ (List.mem_of_getElem? (i := 41) rfl))) (by omega) (show (26 * k9ξ + 25) < 416 by omega) ((zp_set_ne (Or.inl (zM_ne hMy314ξ (hYbξ _ (List.mem_of_getElem? (i := 41) rfl)) (hYbξ _ (List.mem_of_getElem? (i := 2) rfl)) (by decide)))).trans ((zp_set_ne (Or.inl (zM_ne hMy314ξ (hYbξ _ (List.mem_of_getElem? (i := 41) rfl)) (hYbξ _ (List.mem_of_getElem? (i := 2) rfl)) (by decide)))).trans ((zp_set_ne (Or.inl (zM_ne hMy314ξ (hYbξ _ (List.mem_of_getElem? (i := 41) rfl)) (hYbξ _ (List.mem_of_getElem? (i := 2) rfl)) (by decide)))).trans ((((zM_G hMy314ξ (hYbξ _ (List.mem_of_getElem? (i := 41) rfl)) (2000 + (26 * k9ξ + 25))).trans (hVy314ξ 63 (2000 + (26 * k9ξ + 25)) (by decide))).trans (Eq.trans (zc_cp_o (by decide)) (Eq.trans rfl (Eq.trans (zc_cp_o (by decide)) (Eq.trans rfl (zc_cp_o (by decide))))))))))) (fun hk326ξ => ?_)
        have hb327ξ := zp_int (zl_lod (zl_54r (k := k9ξ) (j := 25) (by decide) (by decide)) hk326ξ)
        refine zp_putf (pc := 104) hx hb hEξ hwξ heffξ (zd_X2_takeFrom (104, .putfield 38, 3, 0, []) (List.mem_of_getElem? (i := 70) rfl)) (j := 7) rfl rfl rfl (zM_P hMy314ξ (hYbξ _ (List.mem_of_getElem? (i := 2) rfl))) (zp_o0 (by omega) (by omega) (by omega) (by omega)) ?_
        refine zp_vret (pc := 107) hx hb hEξ hQξ hU5ξ rfl (by decide) (zd_X2_takeFrom (107, .return_, 1, 0, []) (List.mem_of_getElem? (i := 71) rfl)) (j := 0) rfl ?_
        rw [hpsξ]
        refine ⟨rfl, ?_⟩
        have hffξ : zf_tkf2 V k9ξ = (0, (zp_set (zp_set (zp_set (zp_set (zc_cp (zc_cp (zc_cp V 63 (26 * k9ξ) 50 0 6) 63 (26 * k9ξ + 6) 51 0 6) 63 (26 * k9ξ + 12) 52 0 10) 2 3 (V 63 (2000 + (26 * k9ξ + 22)))) 2 4 1) 2 5 (V 63 (2000 + (26 * k9ξ + 24)))) 2 6 (V 63 (2000 + (26 * k9ξ + 25))))) := by
          unfold zf_tkf2
          rw [if_neg hc319ξ]
        show zMVc A Y F (zf_tkf2 V k9ξ).2 u.1 (zp_set (zp_set (zp_set (zp_set Gy314 (A 2) 3 (V 63 (2000 + (26 * k9ξ + 22)))) (A 2) 4 1) (A 2) 5 (V 63 (2000 + (26 * k9ξ + 24)))) (A 2) 6 (V 63 (2000 + (26 * k9ξ + 25))))
        rw [hffξ]
        exact ⟨(zp_set (zp_set (zp_set (zp_set (zc_cp (zc_cp (zc_cp M 63 (26 * k9ξ) 50 0 6) 63 (26 * k9ξ + 6) 51 0 6) 63 (26 * k9ξ + 12) 52 0 10) 2 3 (V 63 (2000 + (26 * k9ξ + 22)))) 2 4 1) 2 5 (V 63 (2000 + (26 * k9ξ + 24)))) 2 6 (V 63 (2000 + (26 * k9ξ + 25)))), (zM_set (zM_set (zM_set (zM_set hMy314ξ (hYbξ _ (List.mem_of_getElem? (i := 2) rfl)) (zFx hFxξ (o := 2) (k := 3) (by decide) (by decide))) (hYbξ _ (List.mem_of_getElem? (i := 2) rfl)) (zFx hFxξ (o := 2) (k := 4) (by decide) (by decide))) (hYbξ _ (List.mem_of_getElem? (i := 2) rfl)) (zFx hFxξ (o := 2) (k := 5) (by decide) (by decide))) (hYbξ _ (List.mem_of_getElem? (i := 2) rfl)) (zFx hFxξ (o := 2) (k := 6) (by decide) (by decide))), (zV_set (zV_set (zV_set (zV_set hVy314ξ)))), trivial⟩
    · exfalso
      omega
theorem zf_tkf2_f {V : Nat → Nat → Int} {k9ξ : Nat} {o k : Nat} (h9ξ : o ∉ ([2, 50, 51, 52] : List Nat)) : (zf_tkf2 V k9ξ).2 o k = V o k := by
  unfold zf_tkf2
  by_cases hd2ξ : ¬ (V 63 (2000 + (26 * k9ξ + 23))) = 1
  · rw [if_pos hd2ξ]
    show (zp_set (zp_set (zp_set (zp_set (zc_cp (zc_cp (zc_cp V 63 (26 * k9ξ) 50 0 6) 63 (26 * k9ξ + 6) 51 0 6) 63 (26 * k9ξ + 12) 52 0 10) 2 3 (V 63 (2000 + (26 * k9ξ + 22)))) 2 4 0) 2 5 (V 63 (2000 + (26 * k9ξ + 24)))) 2 6 (V 63 (2000 + (26 * k9ξ + 25)))) o k = V o k
    exact ((zp_set_ne (Or.inl (zc_nin h9ξ (by decide)))).trans ((zp_set_ne (Or.inl (zc_nin h9ξ (by decide)))).trans ((zp_set_ne (Or.inl (zc_nin h9ξ (by decide)))).trans ((zp_set_ne (Or.inl (zc_nin h9ξ (by decide)))).trans ((zc_cp_o (zc_nin h9ξ (by decide))).trans ((zc_cp_o (zc_nin h9ξ (by decide))).trans (zc_cp_o (zc_nin h9ξ (by decide)))))))))
  · rw [if_neg hd2ξ]
    show (zp_set (zp_set (zp_set (zp_set (zc_cp (zc_cp (zc_cp V 63 (26 * k9ξ) 50 0 6) 63 (26 * k9ξ + 6) 51 0 6) 63 (26 * k9ξ + 12) 52 0 10) 2 3 (V 63 (2000 + (26 * k9ξ + 22)))) 2 4 1) 2 5 (V 63 (2000 + (26 * k9ξ + 24)))) 2 6 (V 63 (2000 + (26 * k9ξ + 25)))) o k = V o k
    exact ((zp_set_ne (Or.inl (zc_nin h9ξ (by decide)))).trans ((zp_set_ne (Or.inl (zc_nin h9ξ (by decide)))).trans ((zp_set_ne (Or.inl (zc_nin h9ξ (by decide)))).trans ((zp_set_ne (Or.inl (zc_nin h9ξ (by decide)))).trans ((zc_cp_o (zc_nin h9ξ (by decide))).trans ((zc_cp_o (zc_nin h9ξ (by decide))).trans (zc_cp_o (zc_nin h9ξ (by decide)))))))))
def zf_wea2 (V : Nat → Nat → Int) (p1ξ : Int) : Int × (Nat → Nat → Int) := (0, (zp_set V 2 3 (max 0 ((V 2 3) - p1ξ))))
def zK_wea2 : zk_K := (zt_mn 100, prog_4_method_5_code, 2, (Option.none : Option Jvm.ClassFile.FieldType), 1, 2, [(2, 2, 0, 0), (0, 0, (-2147483648), 2147483647)], [(none, [])], zUC, (1, 60, 0, 0))
def zφ_wea2 (A : Nat → Nat) (Y : List (Nat × Nat)) (F : List (Nat × Nat × Nat)) (V : Nat → Nat → Int) : (Nat → Option Nat) → (Nat → Nat → Int) → List Int → Prop := fun P G ps => zMVc A Y F V P G ∧ ps.getD 0 0 = (A 2 : Int) ∧ zMc Y F ∧ 0 ≤ V 2 3 ∧ V 2 3 ≤ 9999 ∧ 0 ≤ (ps.getD 1 0) ∧ (ps.getD 1 0) ≤ 999
def zψ_wea2 (A : Nat → Nat) (Y : List (Nat × Nat)) (F : List (Nat × Nat × Nat)) (V : Nat → Nat → Int) : (Nat → Option Nat) → (Nat → Nat → Int) → List Int → (Nat → Option Nat) → (Nat → Nat → Int) → Int → Prop := fun P G ps P' G' rn => P' = P ∧ zMVc A Y F (zf_wea2 V (ps.getD 1 0)).2 P' G'
theorem zX_wea2 {l : Launch} {w : zk_W} (hWξ : zh_W w) (A : Nat → Nat) (Y : List (Nat × Nat)) (F : List (Nat × Nat × Nat)) (V : Nat → Nat → Int) : zk_metX l w zt_dv zt_TB zK_wea2 (zp_A (zφ_wea2 A Y F V)) (zp_B (zψ_wea2 A Y F V)) ∧ zk_cok w zt_TB zK_wea2 := by
  refine zp_methX (cn := "WoundTown$Going") zp_lkallG hWξ (pl := 975) rfl (by decide +kernel) (fun p e R s m args below meth c Q u hx hb hEξ hQξ hU5ξ heffξ hnLξ hokξ hφ => ?_)
  have hwξ := hWξ.1
  obtain ⟨p0ξ, p1ξ, hpsξ, tk0, tk1⟩ := zp_ps2 hokξ
  have hrmξ : zk_Kr (zk_ev (zt_types, zp_lkG, zt_dv, [], [], zp_lcG, zK_wea2)) = zk_Kr zK_wea2 := rfl
  rw [hpsξ] at hφ ⊢
  have hφ : zMVc A Y F V u.1 (zp_n u.2.1) ∧ p0ξ = (A 2 : Int) ∧ zMc Y F ∧ 0 ≤ V 2 3 ∧ V 2 3 ≤ 9999 ∧ 0 ≤ p1ξ ∧ p1ξ ≤ 999 := hφ
  obtain ⟨⟨M, hMξ, hVξ, hSbξ⟩, rfl, hYFξ, hlf0ξ, hlf1ξ, hwn0ξ, hwn1ξ⟩ := hφ
  have hYF0ξ := hYFξ
  obtain ⟨hYbξ, hFbξ, hFxξ, -⟩ := hYFξ
  have hi1ξ := zp_int tk1
  show zp_J p l e R s m args below meth c Q w u [] 0 [(0, 2, (A 2 : Int)), (1, 0, p1ξ)] [] u.1 (zp_n u.2.1)
  refine zp_load (pc := 0) hx hb (zd_X2_wear (0, .aload_n 0, 1, 0, []) (List.mem_of_getElem? (i := 0) rfl)) rfl (j := 0) rfl ?_
  refine zp_const (pc := 1) hx hb (zd_X2_wear (1, .iconst 0, 1, 0, []) (List.mem_of_getElem? (i := 1) rfl)) rfl rfl ?_
  refine zp_load (pc := 2) hx hb (zd_X2_wear (2, .aload_n 0, 1, 0, []) (List.mem_of_getElem? (i := 2) rfl)) rfl (j := 0) rfl ?_
  refine zp_getf (n := (V 2 3)) (pc := 3) hx hb hEξ hwξ (zd_X2_wear (3, .getfield 21, 3, 0, []) (List.mem_of_getElem? (i := 3) rfl)) (j := 4) rfl rfl rfl (zM_P hMξ (hYbξ _ (List.mem_of_getElem? (i := 2) rfl))) ((zM_G hMξ (hYbξ _ (List.mem_of_getElem? (i := 2) rfl)) 3).trans (hVξ 2 3 (by decide))) ?_
  refine zp_kn (k := 3) (a := (A 2)) hwξ (show zp_fd 2 3 = some (2, 0, 0, (-2147483648), 2147483647) from rfl) rfl (zM_P hMξ (hYbξ _ (List.mem_of_getElem? (i := 2) rfl))) (fun hf328ξ => ?_)
  have hf328bξ := zp_int hf328ξ
  rw [((zM_G hMξ (hYbξ _ (List.mem_of_getElem? (i := 2) rfl)) 3).trans (hVξ 2 3 (by decide)))] at hf328bξ
  clear hf328ξ
  refine zp_load (pc := 6) hx hb (zd_X2_wear (6, .iload_n 1, 1, 0, []) (List.mem_of_getElem? (i := 4) rfl)) rfl (j := 1) rfl ?_
  refine zp_sub (n := ((V 2 3) - p1ξ)) (pc := 7) hx hb (zd_X2_wear (7, .isub, 1, 0, []) (List.mem_of_getElem? (i := 5) rfl)) (by omega) (zp_r0 (by omega) (by omega)) ?_
  refine zp_mm (n := (max 0 ((V 2 3) - p1ξ))) (S := [(2, (A 2 : Int))]) (pc := 8) hx hb hEξ hrmξ (zd_X2_wear (8, .invokestatic 41, 3, 0, []) (List.mem_of_getElem? (i := 6) rfl)) (j := 9) rfl (Or.inl ⟨rfl, by omega⟩) ⟨by decide, Nat.le_of_ble_eq_true rfl⟩ ?_
  refine zp_putf (pc := 11) hx hb hEξ hwξ heffξ (zd_X2_wear (11, .putfield 21, 3, 0, []) (List.mem_of_getElem? (i := 7) rfl)) (j := 4) rfl rfl rfl (zM_P hMξ (hYbξ _ (List.mem_of_getElem? (i := 2) rfl))) (zp_o0 (by omega) (by omega) (by omega) (by omega)) ?_
  refine zp_vret (pc := 14) hx hb hEξ hQξ hU5ξ rfl (by decide) (zd_X2_wear (14, .return_, 1, 0, []) (List.mem_of_getElem? (i := 8) rfl)) (j := 0) rfl ?_
  rw [hpsξ]
  refine ⟨rfl, ?_⟩
  have hffξ : zf_wea2 V p1ξ = (0, (zp_set V 2 3 (max 0 ((V 2 3) - p1ξ)))) := rfl
  show zMVc A Y F (zf_wea2 V p1ξ).2 u.1 (zp_set (zp_n u.2.1) (A 2) 3 (max 0 ((V 2 3) - p1ξ)))
  rw [hffξ]
  exact ⟨(zp_set M 2 3 (max 0 ((V 2 3) - p1ξ))), (zM_set hMξ (hYbξ _ (List.mem_of_getElem? (i := 2) rfl)) (zFx hFxξ (o := 2) (k := 3) (by decide) (by decide))), (zV_set hVξ), trivial⟩
theorem zf_wea2_f {V : Nat → Nat → Int} {p1ξ : Int} {o k : Nat} (h9ξ : o ∉ ([2] : List Nat)) : (zf_wea2 V p1ξ).2 o k = V o k := by
  unfold zf_wea2
  show (zp_set V 2 3 (max 0 ((V 2 3) - p1ξ))) o k = V o k
  exact (zp_set_ne (Or.inl (zc_nin h9ξ (by decide))))
def zf_wea7 (V : Nat → Nat → Int) (p1ξ : Int) : Int × (Nat → Nat → Int) := (0, (zp_set V 7 3 (max 0 ((V 7 3) - p1ξ))))
def zK_wea7 : zk_K := (zt_mn 100, prog_4_method_5_code, 2, (Option.none : Option Jvm.ClassFile.FieldType), 1, 2, [(2, 2, 0, 0), (0, 0, (-2147483648), 2147483647)], [(none, [])], zUC, (1, 60, 0, 0))
def zφ_wea7 (A : Nat → Nat) (Y : List (Nat × Nat)) (F : List (Nat × Nat × Nat)) (V : Nat → Nat → Int) : (Nat → Option Nat) → (Nat → Nat → Int) → List Int → Prop := fun P G ps => zMVc A Y F V P G ∧ ps.getD 0 0 = (A 7 : Int) ∧ zMc Y F ∧ 0 ≤ V 7 3 ∧ V 7 3 ≤ 9999 ∧ 0 ≤ (ps.getD 1 0) ∧ (ps.getD 1 0) ≤ 999
def zψ_wea7 (A : Nat → Nat) (Y : List (Nat × Nat)) (F : List (Nat × Nat × Nat)) (V : Nat → Nat → Int) : (Nat → Option Nat) → (Nat → Nat → Int) → List Int → (Nat → Option Nat) → (Nat → Nat → Int) → Int → Prop := fun P G ps P' G' rn => P' = P ∧ zMVc A Y F (zf_wea7 V (ps.getD 1 0)).2 P' G'
theorem zX_wea7 {l : Launch} {w : zk_W} (hWξ : zh_W w) (A : Nat → Nat) (Y : List (Nat × Nat)) (F : List (Nat × Nat × Nat)) (V : Nat → Nat → Int) : zk_metX l w zt_dv zt_TB zK_wea7 (zp_A (zφ_wea7 A Y F V)) (zp_B (zψ_wea7 A Y F V)) ∧ zk_cok w zt_TB zK_wea7 := by
  refine zp_methX (cn := "WoundTown$Going") zp_lkallG hWξ (pl := 975) rfl (by decide +kernel) (fun p e R s m args below meth c Q u hx hb hEξ hQξ hU5ξ heffξ hnLξ hokξ hφ => ?_)
  have hwξ := hWξ.1
  obtain ⟨p0ξ, p1ξ, hpsξ, tk0, tk1⟩ := zp_ps2 hokξ
  have hrmξ : zk_Kr (zk_ev (zt_types, zp_lkG, zt_dv, [], [], zp_lcG, zK_wea7)) = zk_Kr zK_wea7 := rfl
  rw [hpsξ] at hφ ⊢
  have hφ : zMVc A Y F V u.1 (zp_n u.2.1) ∧ p0ξ = (A 7 : Int) ∧ zMc Y F ∧ 0 ≤ V 7 3 ∧ V 7 3 ≤ 9999 ∧ 0 ≤ p1ξ ∧ p1ξ ≤ 999 := hφ
  obtain ⟨⟨M, hMξ, hVξ, hSbξ⟩, rfl, hYFξ, hlf0ξ, hlf1ξ, hwn0ξ, hwn1ξ⟩ := hφ
  have hYF0ξ := hYFξ
  obtain ⟨hYbξ, hFbξ, hFxξ, -⟩ := hYFξ
  have hi1ξ := zp_int tk1
  show zp_J p l e R s m args below meth c Q w u [] 0 [(0, 2, (A 7 : Int)), (1, 0, p1ξ)] [] u.1 (zp_n u.2.1)
  refine zp_load (pc := 0) hx hb (zd_X2_wear (0, .aload_n 0, 1, 0, []) (List.mem_of_getElem? (i := 0) rfl)) rfl (j := 0) rfl ?_
  refine zp_const (pc := 1) hx hb (zd_X2_wear (1, .iconst 0, 1, 0, []) (List.mem_of_getElem? (i := 1) rfl)) rfl rfl ?_
  refine zp_load (pc := 2) hx hb (zd_X2_wear (2, .aload_n 0, 1, 0, []) (List.mem_of_getElem? (i := 2) rfl)) rfl (j := 0) rfl ?_
  refine zp_getf (n := (V 7 3)) (pc := 3) hx hb hEξ hwξ (zd_X2_wear (3, .getfield 21, 3, 0, []) (List.mem_of_getElem? (i := 3) rfl)) (j := 4) rfl rfl rfl (zM_P hMξ (hYbξ _ (List.mem_of_getElem? (i := 7) rfl))) ((zM_G hMξ (hYbξ _ (List.mem_of_getElem? (i := 7) rfl)) 3).trans (hVξ 7 3 (by decide))) ?_
  refine zp_kn (k := 3) (a := (A 7)) hwξ (show zp_fd 2 3 = some (2, 0, 0, (-2147483648), 2147483647) from rfl) rfl (zM_P hMξ (hYbξ _ (List.mem_of_getElem? (i := 7) rfl))) (fun hf329ξ => ?_)
  have hf329bξ := zp_int hf329ξ
  rw [((zM_G hMξ (hYbξ _ (List.mem_of_getElem? (i := 7) rfl)) 3).trans (hVξ 7 3 (by decide)))] at hf329bξ
  clear hf329ξ
  refine zp_load (pc := 6) hx hb (zd_X2_wear (6, .iload_n 1, 1, 0, []) (List.mem_of_getElem? (i := 4) rfl)) rfl (j := 1) rfl ?_
  refine zp_sub (n := ((V 7 3) - p1ξ)) (pc := 7) hx hb (zd_X2_wear (7, .isub, 1, 0, []) (List.mem_of_getElem? (i := 5) rfl)) (by omega) (zp_r0 (by omega) (by omega)) ?_
  refine zp_mm (n := (max 0 ((V 7 3) - p1ξ))) (S := [(2, (A 7 : Int))]) (pc := 8) hx hb hEξ hrmξ (zd_X2_wear (8, .invokestatic 41, 3, 0, []) (List.mem_of_getElem? (i := 6) rfl)) (j := 9) rfl (Or.inl ⟨rfl, by omega⟩) ⟨by decide, Nat.le_of_ble_eq_true rfl⟩ ?_
  refine zp_putf (pc := 11) hx hb hEξ hwξ heffξ (zd_X2_wear (11, .putfield 21, 3, 0, []) (List.mem_of_getElem? (i := 7) rfl)) (j := 4) rfl rfl rfl (zM_P hMξ (hYbξ _ (List.mem_of_getElem? (i := 7) rfl))) (zp_o0 (by omega) (by omega) (by omega) (by omega)) ?_
  refine zp_vret (pc := 14) hx hb hEξ hQξ hU5ξ rfl (by decide) (zd_X2_wear (14, .return_, 1, 0, []) (List.mem_of_getElem? (i := 8) rfl)) (j := 0) rfl ?_
  rw [hpsξ]
  refine ⟨rfl, ?_⟩
  have hffξ : zf_wea7 V p1ξ = (0, (zp_set V 7 3 (max 0 ((V 7 3) - p1ξ)))) := rfl
  show zMVc A Y F (zf_wea7 V p1ξ).2 u.1 (zp_set (zp_n u.2.1) (A 7) 3 (max 0 ((V 7 3) - p1ξ)))
  rw [hffξ]
  exact ⟨(zp_set M 7 3 (max 0 ((V 7 3) - p1ξ))), (zM_set hMξ (hYbξ _ (List.mem_of_getElem? (i := 7) rfl)) (zFx hFxξ (o := 7) (k := 3) (by decide) (by decide))), (zV_set hVξ), trivial⟩
theorem zf_wea7_f {V : Nat → Nat → Int} {p1ξ : Int} {o k : Nat} (h9ξ : o ∉ ([7] : List Nat)) : (zf_wea7 V p1ξ).2 o k = V o k := by
  unfold zf_wea7
  show (zp_set V 7 3 (max 0 ((V 7 3) - p1ξ))) o k = V o k
  exact (zp_set_ne (Or.inl (zc_nin h9ξ (by decide))))
def zf_wea8 (V : Nat → Nat → Int) (p1ξ : Int) : Int × (Nat → Nat → Int) := (0, (zp_set V 8 3 (max 0 ((V 8 3) - p1ξ))))
def zK_wea8 : zk_K := (zt_mn 100, prog_4_method_5_code, 2, (Option.none : Option Jvm.ClassFile.FieldType), 1, 2, [(2, 2, 0, 0), (0, 0, (-2147483648), 2147483647)], [(none, [])], zUC, (1, 60, 0, 0))
def zφ_wea8 (A : Nat → Nat) (Y : List (Nat × Nat)) (F : List (Nat × Nat × Nat)) (V : Nat → Nat → Int) : (Nat → Option Nat) → (Nat → Nat → Int) → List Int → Prop := fun P G ps => zMVc A Y F V P G ∧ ps.getD 0 0 = (A 8 : Int) ∧ zMc Y F ∧ 0 ≤ V 8 3 ∧ V 8 3 ≤ 9999 ∧ 0 ≤ (ps.getD 1 0) ∧ (ps.getD 1 0) ≤ 999
def zψ_wea8 (A : Nat → Nat) (Y : List (Nat × Nat)) (F : List (Nat × Nat × Nat)) (V : Nat → Nat → Int) : (Nat → Option Nat) → (Nat → Nat → Int) → List Int → (Nat → Option Nat) → (Nat → Nat → Int) → Int → Prop := fun P G ps P' G' rn => P' = P ∧ zMVc A Y F (zf_wea8 V (ps.getD 1 0)).2 P' G'
theorem zX_wea8 {l : Launch} {w : zk_W} (hWξ : zh_W w) (A : Nat → Nat) (Y : List (Nat × Nat)) (F : List (Nat × Nat × Nat)) (V : Nat → Nat → Int) : zk_metX l w zt_dv zt_TB zK_wea8 (zp_A (zφ_wea8 A Y F V)) (zp_B (zψ_wea8 A Y F V)) ∧ zk_cok w zt_TB zK_wea8 := by
  refine zp_methX (cn := "WoundTown$Going") zp_lkallG hWξ (pl := 975) rfl (by decide +kernel) (fun p e R s m args below meth c Q u hx hb hEξ hQξ hU5ξ heffξ hnLξ hokξ hφ => ?_)
  have hwξ := hWξ.1
  obtain ⟨p0ξ, p1ξ, hpsξ, tk0, tk1⟩ := zp_ps2 hokξ
  have hrmξ : zk_Kr (zk_ev (zt_types, zp_lkG, zt_dv, [], [], zp_lcG, zK_wea8)) = zk_Kr zK_wea8 := rfl
  rw [hpsξ] at hφ ⊢
  have hφ : zMVc A Y F V u.1 (zp_n u.2.1) ∧ p0ξ = (A 8 : Int) ∧ zMc Y F ∧ 0 ≤ V 8 3 ∧ V 8 3 ≤ 9999 ∧ 0 ≤ p1ξ ∧ p1ξ ≤ 999 := hφ
  obtain ⟨⟨M, hMξ, hVξ, hSbξ⟩, rfl, hYFξ, hlf0ξ, hlf1ξ, hwn0ξ, hwn1ξ⟩ := hφ
  have hYF0ξ := hYFξ
  obtain ⟨hYbξ, hFbξ, hFxξ, -⟩ := hYFξ
  have hi1ξ := zp_int tk1
  show zp_J p l e R s m args below meth c Q w u [] 0 [(0, 2, (A 8 : Int)), (1, 0, p1ξ)] [] u.1 (zp_n u.2.1)
  refine zp_load (pc := 0) hx hb (zd_X2_wear (0, .aload_n 0, 1, 0, []) (List.mem_of_getElem? (i := 0) rfl)) rfl (j := 0) rfl ?_
  refine zp_const (pc := 1) hx hb (zd_X2_wear (1, .iconst 0, 1, 0, []) (List.mem_of_getElem? (i := 1) rfl)) rfl rfl ?_
  refine zp_load (pc := 2) hx hb (zd_X2_wear (2, .aload_n 0, 1, 0, []) (List.mem_of_getElem? (i := 2) rfl)) rfl (j := 0) rfl ?_
  refine zp_getf (n := (V 8 3)) (pc := 3) hx hb hEξ hwξ (zd_X2_wear (3, .getfield 21, 3, 0, []) (List.mem_of_getElem? (i := 3) rfl)) (j := 4) rfl rfl rfl (zM_P hMξ (hYbξ _ (List.mem_of_getElem? (i := 8) rfl))) ((zM_G hMξ (hYbξ _ (List.mem_of_getElem? (i := 8) rfl)) 3).trans (hVξ 8 3 (by decide))) ?_
  refine zp_kn (k := 3) (a := (A 8)) hwξ (show zp_fd 2 3 = some (2, 0, 0, (-2147483648), 2147483647) from rfl) rfl (zM_P hMξ (hYbξ _ (List.mem_of_getElem? (i := 8) rfl))) (fun hf330ξ => ?_)
  have hf330bξ := zp_int hf330ξ
  rw [((zM_G hMξ (hYbξ _ (List.mem_of_getElem? (i := 8) rfl)) 3).trans (hVξ 8 3 (by decide)))] at hf330bξ
  clear hf330ξ
  refine zp_load (pc := 6) hx hb (zd_X2_wear (6, .iload_n 1, 1, 0, []) (List.mem_of_getElem? (i := 4) rfl)) rfl (j := 1) rfl ?_
  refine zp_sub (n := ((V 8 3) - p1ξ)) (pc := 7) hx hb (zd_X2_wear (7, .isub, 1, 0, []) (List.mem_of_getElem? (i := 5) rfl)) (by omega) (zp_r0 (by omega) (by omega)) ?_
  refine zp_mm (n := (max 0 ((V 8 3) - p1ξ))) (S := [(2, (A 8 : Int))]) (pc := 8) hx hb hEξ hrmξ (zd_X2_wear (8, .invokestatic 41, 3, 0, []) (List.mem_of_getElem? (i := 6) rfl)) (j := 9) rfl (Or.inl ⟨rfl, by omega⟩) ⟨by decide, Nat.le_of_ble_eq_true rfl⟩ ?_
  refine zp_putf (pc := 11) hx hb hEξ hwξ heffξ (zd_X2_wear (11, .putfield 21, 3, 0, []) (List.mem_of_getElem? (i := 7) rfl)) (j := 4) rfl rfl rfl (zM_P hMξ (hYbξ _ (List.mem_of_getElem? (i := 8) rfl))) (zp_o0 (by omega) (by omega) (by omega) (by omega)) ?_
  refine zp_vret (pc := 14) hx hb hEξ hQξ hU5ξ rfl (by decide) (zd_X2_wear (14, .return_, 1, 0, []) (List.mem_of_getElem? (i := 8) rfl)) (j := 0) rfl ?_
  rw [hpsξ]
  refine ⟨rfl, ?_⟩
  have hffξ : zf_wea8 V p1ξ = (0, (zp_set V 8 3 (max 0 ((V 8 3) - p1ξ)))) := rfl
  show zMVc A Y F (zf_wea8 V p1ξ).2 u.1 (zp_set (zp_n u.2.1) (A 8) 3 (max 0 ((V 8 3) - p1ξ)))
  rw [hffξ]
  exact ⟨(zp_set M 8 3 (max 0 ((V 8 3) - p1ξ))), (zM_set hMξ (hYbξ _ (List.mem_of_getElem? (i := 8) rfl)) (zFx hFxξ (o := 8) (k := 3) (by decide) (by decide))), (zV_set hVξ), trivial⟩
theorem zf_wea8_f {V : Nat → Nat → Int} {p1ξ : Int} {o k : Nat} (h9ξ : o ∉ ([8] : List Nat)) : (zf_wea8 V p1ξ).2 o k = V o k := by
  unfold zf_wea8
  show (zp_set V 8 3 (max 0 ((V 8 3) - p1ξ))) o k = V o k
  exact (zp_set_ne (Or.inl (zc_nin h9ξ (by decide))))
def zf_wby2 (V : Nat → Nat → Int) (p1ξ : Int) (p2ξ : Int) : Int × (Nat → Nat → Int) := if ¬ ((zf_wea2 V p2ξ).2 2 3) = 0 then (0, (zp_set (zp_set (zf_wea2 V p2ξ).2 2 4 0) 2 5 p1ξ)) else (0, (zp_set (zp_set (zf_wea2 V p2ξ).2 2 4 1) 2 5 (-1)))
def zK_wby2 : zk_K := (zt_mn 99, prog_4_method_6_code, 3, (Option.none : Option Jvm.ClassFile.FieldType), 1, 2, [(2, 2, 0, 0), (0, 0, (-2147483648), 2147483647), (0, 0, (-2147483648), 2147483647)], [(none, [])], zUC, (2, 120, 0, 0))
def zφ_wby2 (A : Nat → Nat) (Y : List (Nat × Nat)) (F : List (Nat × Nat × Nat)) (V : Nat → Nat → Int) : (Nat → Option Nat) → (Nat → Nat → Int) → List Int → Prop := fun P G ps => zMVc A Y F V P G ∧ ps.getD 0 0 = (A 2 : Int) ∧ zMc Y F ∧ 0 ≤ V 2 3 ∧ V 2 3 ≤ 9999 ∧ 0 ≤ (ps.getD 2 0) ∧ (ps.getD 2 0) ≤ 999
def zψ_wby2 (A : Nat → Nat) (Y : List (Nat × Nat)) (F : List (Nat × Nat × Nat)) (V : Nat → Nat → Int) : (Nat → Option Nat) → (Nat → Nat → Int) → List Int → (Nat → Option Nat) → (Nat → Nat → Int) → Int → Prop := fun P G ps P' G' rn => P' = P ∧ zMVc A Y F (zf_wby2 V (ps.getD 1 0) (ps.getD 2 0)).2 P' G'
theorem zX_wby2 {l : Launch} {w : zk_W} (hWξ : zh_W w) (A : Nat → Nat) (Y : List (Nat × Nat)) (F : List (Nat × Nat × Nat)) (V : Nat → Nat → Int) : zk_metX l w zt_dv zt_TB zK_wby2 (zp_A (zφ_wby2 A Y F V)) (zp_B (zψ_wby2 A Y F V)) ∧ zk_cok w zt_TB zK_wby2 := by
  refine zp_methX (cn := "WoundTown$Going") zp_lkallG hWξ (pl := 971) rfl (by decide +kernel) (fun p e R s m args below meth c Q u hx hb hEξ hQξ hU5ξ heffξ hnLξ hokξ hφ => ?_)
  have hwξ := hWξ.1
  obtain ⟨p0ξ, p1ξ, p2ξ, hpsξ, tk0, tk1, tk2⟩ := zp_ps3 hokξ
  have hrmξ : zk_Kr (zk_ev (zt_types, zp_lkG, zt_dv, [], [], zp_lcG, zK_wby2)) = zk_Kr zK_wby2 := rfl
  rw [hpsξ] at hφ ⊢
  have hφ : zMVc A Y F V u.1 (zp_n u.2.1) ∧ p0ξ = (A 2 : Int) ∧ zMc Y F ∧ 0 ≤ V 2 3 ∧ V 2 3 ≤ 9999 ∧ 0 ≤ p2ξ ∧ p2ξ ≤ 999 := hφ
  obtain ⟨⟨M, hMξ, hVξ, hSbξ⟩, rfl, hYFξ, hlf0ξ, hlf1ξ, hwn0ξ, hwn1ξ⟩ := hφ
  have hYF0ξ := hYFξ
  obtain ⟨hYbξ, hFbξ, hFxξ, -⟩ := hYFξ
  have hi1ξ := zp_int tk1
  have hi2ξ := zp_int tk2
  show zp_J p l e R s m args below meth c Q w u [] 0 [(0, 2, (A 2 : Int)), (1, 0, p1ξ), (2, 0, p2ξ)] [] u.1 (zp_n u.2.1)
  refine zp_load (pc := 0) hx hb (zd_X2_windBy (0, .aload_n 0, 1, 0, []) (List.mem_of_getElem? (i := 0) rfl)) rfl (j := 0) rfl ?_
  refine zp_load (pc := 1) hx hb (zd_X2_windBy (1, .iload_n 2, 1, 0, []) (List.mem_of_getElem? (i := 1) rfl)) rfl (j := 2) rfl ?_
  refine zp_call (pc := 2) (how := 0) (idx := 47) (mi := 100) (S := []) hx hb hEξ hwξ heffξ hrmξ (zX_wea2 hWξ A Y F V) rfl (j := 0) rfl rfl (by decide +kernel) (zd_X2_windBy (2, .invokevirtual 47, 3, 0, []) (List.mem_of_getElem? (i := 2) rfl)) [(A 2 : Int), p2ξ] rfl ⟨zp_o2 (zM_P hMξ (hYbξ _ (List.mem_of_getElem? (i := 2) rfl))), zp_o0 (by omega) (by omega) (by omega) (by omega), trivial⟩ (Nat.le_of_ble_eq_true rfl) ⟨⟨M, hMξ, hVξ, trivial⟩, rfl, hYF0ξ, ((show 0 ≤ V 2 3 ∧ V 2 3 ≤ 9999 by omega)).1, ((show 0 ≤ V 2 3 ∧ V 2 3 ≤ 9999 by omega)).2, (show 0 ≤ p2ξ by omega), (show p2ξ ≤ 999 by omega)⟩ (fun al halξ rna331ξ Pa331 Ga331 hexta331ξ hfra331ξ hoka331ξ hcsa331ξ hpsia331ξ => ?_)
  obtain rfl := List.mem_singleton.mp halξ
  obtain ⟨hPea331ξ, Ma331, hMa331ξ, hVa331ξ, hSba331ξ⟩ := hpsia331ξ
  subst hPea331ξ
  clear hexta331ξ hfra331ξ hcsa331ξ hoka331ξ
  have hVa331ξ : ∀ o k, zNc o → Ma331 o k = (zf_wea2 V p2ξ).2 o k := hVa331ξ
  refine zp_load (pc := 5) hx hb (zd_X2_windBy (5, .aload_n 0, 1, 0, []) (List.mem_of_getElem? (i := 3) rfl)) rfl (j := 0) rfl ?_
  refine zp_load (pc := 6) hx hb (zd_X2_windBy (6, .aload_n 0, 1, 0, []) (List.mem_of_getElem? (i := 4) rfl)) rfl (j := 0) rfl ?_
  refine zp_getf (n := ((zf_wea2 V p2ξ).2 2 3)) (pc := 7) hx hb hEξ hwξ (zd_X2_windBy (7, .getfield 21, 3, 0, []) (List.mem_of_getElem? (i := 5) rfl)) (j := 4) rfl rfl rfl (zM_P hMa331ξ (hYbξ _ (List.mem_of_getElem? (i := 2) rfl))) ((zM_G hMa331ξ (hYbξ _ (List.mem_of_getElem? (i := 2) rfl)) 3).trans (hVa331ξ 2 3 (by decide))) ?_
  refine zp_kn (k := 3) (a := (A 2)) hwξ (show zp_fd 2 3 = some (2, 0, 0, (-2147483648), 2147483647) from rfl) rfl (zM_P hMa331ξ (hYbξ _ (List.mem_of_getElem? (i := 2) rfl))) (fun hf332ξ => ?_)
  have hf332bξ := zp_int hf332ξ
  rw [((zM_G hMa331ξ (hYbξ _ (List.mem_of_getElem? (i := 2) rfl)) 3).trans (hVa331ξ 2 3 (by decide)))] at hf332bξ
  clear hf332ξ
  refine zp_if (pc := 10) (tgt := 17) hx hb (zd_X2_windBy (10, .ifCond .ne 7, 3, 0, []) (List.mem_of_getElem? (i := 6) rfl)) rfl (fun (hc333ξ : ¬ ((zf_wea2 V p2ξ).2 2 3) = 0) => ?_) (fun (hc333ξ : ¬ (¬ ((zf_wea2 V p2ξ).2 2 3) = 0)) => ?_)
  · refine zp_const (pc := 17) hx hb (zd_X2_windBy (17, .iconst 0, 1, 0, []) (List.mem_of_getElem? (i := 9) rfl)) rfl rfl ?_
    refine zp_putf (pc := 18) hx hb hEξ hwξ heffξ (zd_X2_windBy (18, .putfield 34, 3, 0, []) (List.mem_of_getElem? (i := 10) rfl)) (j := 5) rfl rfl rfl (zM_P hMa331ξ (hYbξ _ (List.mem_of_getElem? (i := 2) rfl))) (zp_o0 (by decide) (by decide) (by decide) (by decide)) ?_
    refine zp_load (pc := 21) hx hb (zd_X2_windBy (21, .aload_n 0, 1, 0, []) (List.mem_of_getElem? (i := 11) rfl)) rfl (j := 0) rfl ?_
    refine zp_load (pc := 22) hx hb (zd_X2_windBy (22, .aload_n 0, 1, 0, []) (List.mem_of_getElem? (i := 12) rfl)) rfl (j := 0) rfl ?_
    refine zp_getf (n := 0) (pc := 23) hx hb hEξ hwξ (zd_X2_windBy (23, .getfield 34, 3, 0, []) (List.mem_of_getElem? (i := 13) rfl)) (j := 5) rfl rfl rfl (zM_P hMa331ξ (hYbξ _ (List.mem_of_getElem? (i := 2) rfl))) zp_set_self ?_
    refine zp_if (pc := 26) (tgt := 33) hx hb (zd_X2_windBy (26, .ifCond .eq 7, 3, 0, []) (List.mem_of_getElem? (i := 14) rfl)) rfl (fun (hc334ξ : (0 : Int) = 0) => ?_) (fun (hc334ξ : ¬ ((0 : Int) = 0)) => ?_)
    · refine zp_load (pc := 33) hx hb (zd_X2_windBy (33, .iload_n 1, 1, 0, []) (List.mem_of_getElem? (i := 17) rfl)) rfl (j := 1) rfl ?_
      refine zp_putf (pc := 34) hx hb hEξ hwξ heffξ (zd_X2_windBy (34, .putfield 25, 3, 0, []) (List.mem_of_getElem? (i := 18) rfl)) (j := 6) rfl rfl rfl (zM_P hMa331ξ (hYbξ _ (List.mem_of_getElem? (i := 2) rfl))) (zp_o0 (by omega) (by omega) (by omega) (by omega)) ?_
      refine zp_vret (pc := 37) hx hb hEξ hQξ hU5ξ rfl (by decide) (zd_X2_windBy (37, .return_, 1, 0, []) (List.mem_of_getElem? (i := 19) rfl)) (j := 0) rfl ?_
      rw [hpsξ]
      refine ⟨rfl, ?_⟩
      have hffξ : zf_wby2 V p1ξ p2ξ = (0, (zp_set (zp_set (zf_wea2 V p2ξ).2 2 4 0) 2 5 p1ξ)) := by
        unfold zf_wby2
        rw [if_pos hc333ξ]
      show zMVc A Y F (zf_wby2 V p1ξ p2ξ).2 u.1 (zp_set (zp_set Ga331 (A 2) 4 0) (A 2) 5 p1ξ)
      rw [hffξ]
      exact ⟨(zp_set (zp_set Ma331 2 4 0) 2 5 p1ξ), (zM_set (zM_set hMa331ξ (hYbξ _ (List.mem_of_getElem? (i := 2) rfl)) (zFx hFxξ (o := 2) (k := 4) (by decide) (by decide))) (hYbξ _ (List.mem_of_getElem? (i := 2) rfl)) (zFx hFxξ (o := 2) (k := 5) (by decide) (by decide))), (zV_set (zV_set hVa331ξ)), trivial⟩
    · exfalso
      omega
  · refine zp_const (pc := 13) hx hb (zd_X2_windBy (13, .iconst 1, 1, 0, []) (List.mem_of_getElem? (i := 7) rfl)) rfl rfl ?_
    refine zp_goto (tgt := 18) (pc := 14) hx hb (zd_X2_windBy (14, .goto 4, 3, 0, []) (List.mem_of_getElem? (i := 8) rfl)) rfl ?_
    refine zp_putf (pc := 18) hx hb hEξ hwξ heffξ (zd_X2_windBy (18, .putfield 34, 3, 0, []) (List.mem_of_getElem? (i := 10) rfl)) (j := 5) rfl rfl rfl (zM_P hMa331ξ (hYbξ _ (List.mem_of_getElem? (i := 2) rfl))) (zp_o0 (by decide) (by decide) (by decide) (by decide)) ?_
    refine zp_load (pc := 21) hx hb (zd_X2_windBy (21, .aload_n 0, 1, 0, []) (List.mem_of_getElem? (i := 11) rfl)) rfl (j := 0) rfl ?_
    refine zp_load (pc := 22) hx hb (zd_X2_windBy (22, .aload_n 0, 1, 0, []) (List.mem_of_getElem? (i := 12) rfl)) rfl (j := 0) rfl ?_
    refine zp_getf (n := 1) (pc := 23) hx hb hEξ hwξ (zd_X2_windBy (23, .getfield 34, 3, 0, []) (List.mem_of_getElem? (i := 13) rfl)) (j := 5) rfl rfl rfl (zM_P hMa331ξ (hYbξ _ (List.mem_of_getElem? (i := 2) rfl))) zp_set_self ?_
    refine zp_if (pc := 26) (tgt := 33) hx hb (zd_X2_windBy (26, .ifCond .eq 7, 3, 0, []) (List.mem_of_getElem? (i := 14) rfl)) rfl (fun (hc335ξ : (1 : Int) = 0) => ?_) (fun (hc335ξ : ¬ ((1 : Int) = 0)) => ?_)
    · exfalso
      omega
    · refine zp_const (pc := 29) hx hb (zd_X2_windBy (29, .iconst (-1), 1, 0, []) (List.mem_of_getElem? (i := 15) rfl)) rfl rfl ?_
      refine zp_goto (tgt := 34) (pc := 30) hx hb (zd_X2_windBy (30, .goto 4, 3, 0, []) (List.mem_of_getElem? (i := 16) rfl)) rfl ?_
      refine zp_putf (pc := 34) hx hb hEξ hwξ heffξ (zd_X2_windBy (34, .putfield 25, 3, 0, []) (List.mem_of_getElem? (i := 18) rfl)) (j := 6) rfl rfl rfl (zM_P hMa331ξ (hYbξ _ (List.mem_of_getElem? (i := 2) rfl))) (zp_o0 (by decide) (by decide) (by decide) (by decide)) ?_
      refine zp_vret (pc := 37) hx hb hEξ hQξ hU5ξ rfl (by decide) (zd_X2_windBy (37, .return_, 1, 0, []) (List.mem_of_getElem? (i := 19) rfl)) (j := 0) rfl ?_
      rw [hpsξ]
      refine ⟨rfl, ?_⟩
      have hffξ : zf_wby2 V p1ξ p2ξ = (0, (zp_set (zp_set (zf_wea2 V p2ξ).2 2 4 1) 2 5 (-1))) := by
        unfold zf_wby2
        rw [if_neg hc333ξ]
      show zMVc A Y F (zf_wby2 V p1ξ p2ξ).2 u.1 (zp_set (zp_set Ga331 (A 2) 4 1) (A 2) 5 (-1))
      rw [hffξ]
      exact ⟨(zp_set (zp_set Ma331 2 4 1) 2 5 (-1)), (zM_set (zM_set hMa331ξ (hYbξ _ (List.mem_of_getElem? (i := 2) rfl)) (zFx hFxξ (o := 2) (k := 4) (by decide) (by decide))) (hYbξ _ (List.mem_of_getElem? (i := 2) rfl)) (zFx hFxξ (o := 2) (k := 5) (by decide) (by decide))), (zV_set (zV_set hVa331ξ)), trivial⟩
theorem zf_wby2_f {V : Nat → Nat → Int} {p1ξ : Int} {p2ξ : Int} {o k : Nat} (h9ξ : o ∉ ([2] : List Nat)) : (zf_wby2 V p1ξ p2ξ).2 o k = V o k := by
  unfold zf_wby2
  by_cases hd2ξ : ¬ ((zf_wea2 V p2ξ).2 2 3) = 0
  · rw [if_pos hd2ξ]
    show (zp_set (zp_set (zf_wea2 V p2ξ).2 2 4 0) 2 5 p1ξ) o k = V o k
    exact ((zp_set_ne (Or.inl (zc_nin h9ξ (by decide)))).trans ((zp_set_ne (Or.inl (zc_nin h9ξ (by decide)))).trans (zf_wea2_f (zc_sub h9ξ (by decide)))))
  · rw [if_neg hd2ξ]
    show (zp_set (zp_set (zf_wea2 V p2ξ).2 2 4 1) 2 5 (-1)) o k = V o k
    exact ((zp_set_ne (Or.inl (zc_nin h9ξ (by decide)))).trans ((zp_set_ne (Or.inl (zc_nin h9ξ (by decide)))).trans (zf_wea2_f (zc_sub h9ξ (by decide)))))
def zf_wby7 (V : Nat → Nat → Int) (p1ξ : Int) (p2ξ : Int) : Int × (Nat → Nat → Int) := if ¬ ((zf_wea7 V p2ξ).2 7 3) = 0 then (0, (zp_set (zp_set (zf_wea7 V p2ξ).2 7 4 0) 7 5 p1ξ)) else (0, (zp_set (zp_set (zf_wea7 V p2ξ).2 7 4 1) 7 5 (-1)))
def zK_wby7 : zk_K := (zt_mn 99, prog_4_method_6_code, 3, (Option.none : Option Jvm.ClassFile.FieldType), 1, 2, [(2, 2, 0, 0), (0, 0, (-2147483648), 2147483647), (0, 0, (-2147483648), 2147483647)], [(none, [])], zUC, (2, 120, 0, 0))
def zφ_wby7 (A : Nat → Nat) (Y : List (Nat × Nat)) (F : List (Nat × Nat × Nat)) (V : Nat → Nat → Int) : (Nat → Option Nat) → (Nat → Nat → Int) → List Int → Prop := fun P G ps => zMVc A Y F V P G ∧ ps.getD 0 0 = (A 7 : Int) ∧ zMc Y F ∧ 0 ≤ V 7 3 ∧ V 7 3 ≤ 9999 ∧ 0 ≤ (ps.getD 2 0) ∧ (ps.getD 2 0) ≤ 999
def zψ_wby7 (A : Nat → Nat) (Y : List (Nat × Nat)) (F : List (Nat × Nat × Nat)) (V : Nat → Nat → Int) : (Nat → Option Nat) → (Nat → Nat → Int) → List Int → (Nat → Option Nat) → (Nat → Nat → Int) → Int → Prop := fun P G ps P' G' rn => P' = P ∧ zMVc A Y F (zf_wby7 V (ps.getD 1 0) (ps.getD 2 0)).2 P' G'
theorem zX_wby7 {l : Launch} {w : zk_W} (hWξ : zh_W w) (A : Nat → Nat) (Y : List (Nat × Nat)) (F : List (Nat × Nat × Nat)) (V : Nat → Nat → Int) : zk_metX l w zt_dv zt_TB zK_wby7 (zp_A (zφ_wby7 A Y F V)) (zp_B (zψ_wby7 A Y F V)) ∧ zk_cok w zt_TB zK_wby7 := by
  refine zp_methX (cn := "WoundTown$Going") zp_lkallG hWξ (pl := 971) rfl (by decide +kernel) (fun p e R s m args below meth c Q u hx hb hEξ hQξ hU5ξ heffξ hnLξ hokξ hφ => ?_)
  have hwξ := hWξ.1
  obtain ⟨p0ξ, p1ξ, p2ξ, hpsξ, tk0, tk1, tk2⟩ := zp_ps3 hokξ
  have hrmξ : zk_Kr (zk_ev (zt_types, zp_lkG, zt_dv, [], [], zp_lcG, zK_wby7)) = zk_Kr zK_wby7 := rfl
  rw [hpsξ] at hφ ⊢
  have hφ : zMVc A Y F V u.1 (zp_n u.2.1) ∧ p0ξ = (A 7 : Int) ∧ zMc Y F ∧ 0 ≤ V 7 3 ∧ V 7 3 ≤ 9999 ∧ 0 ≤ p2ξ ∧ p2ξ ≤ 999 := hφ
  obtain ⟨⟨M, hMξ, hVξ, hSbξ⟩, rfl, hYFξ, hlf0ξ, hlf1ξ, hwn0ξ, hwn1ξ⟩ := hφ
  have hYF0ξ := hYFξ
  obtain ⟨hYbξ, hFbξ, hFxξ, -⟩ := hYFξ
  have hi1ξ := zp_int tk1
  have hi2ξ := zp_int tk2
  show zp_J p l e R s m args below meth c Q w u [] 0 [(0, 2, (A 7 : Int)), (1, 0, p1ξ), (2, 0, p2ξ)] [] u.1 (zp_n u.2.1)
  refine zp_load (pc := 0) hx hb (zd_X2_windBy (0, .aload_n 0, 1, 0, []) (List.mem_of_getElem? (i := 0) rfl)) rfl (j := 0) rfl ?_
  refine zp_load (pc := 1) hx hb (zd_X2_windBy (1, .iload_n 2, 1, 0, []) (List.mem_of_getElem? (i := 1) rfl)) rfl (j := 2) rfl ?_
  refine zp_call (pc := 2) (how := 0) (idx := 47) (mi := 100) (S := []) hx hb hEξ hwξ heffξ hrmξ (zX_wea7 hWξ A Y F V) rfl (j := 0) rfl rfl (by decide +kernel) (zd_X2_windBy (2, .invokevirtual 47, 3, 0, []) (List.mem_of_getElem? (i := 2) rfl)) [(A 7 : Int), p2ξ] rfl ⟨zp_o2 (zM_P hMξ (hYbξ _ (List.mem_of_getElem? (i := 7) rfl))), zp_o0 (by omega) (by omega) (by omega) (by omega), trivial⟩ (Nat.le_of_ble_eq_true rfl) ⟨⟨M, hMξ, hVξ, trivial⟩, rfl, hYF0ξ, ((show 0 ≤ V 7 3 ∧ V 7 3 ≤ 9999 by omega)).1, ((show 0 ≤ V 7 3 ∧ V 7 3 ≤ 9999 by omega)).2, (show 0 ≤ p2ξ by omega), (show p2ξ ≤ 999 by omega)⟩ (fun al halξ rna336ξ Pa336 Ga336 hexta336ξ hfra336ξ hoka336ξ hcsa336ξ hpsia336ξ => ?_)
  obtain rfl := List.mem_singleton.mp halξ
  obtain ⟨hPea336ξ, Ma336, hMa336ξ, hVa336ξ, hSba336ξ⟩ := hpsia336ξ
  subst hPea336ξ
  clear hexta336ξ hfra336ξ hcsa336ξ hoka336ξ
  have hVa336ξ : ∀ o k, zNc o → Ma336 o k = (zf_wea7 V p2ξ).2 o k := hVa336ξ
  refine zp_load (pc := 5) hx hb (zd_X2_windBy (5, .aload_n 0, 1, 0, []) (List.mem_of_getElem? (i := 3) rfl)) rfl (j := 0) rfl ?_
  refine zp_load (pc := 6) hx hb (zd_X2_windBy (6, .aload_n 0, 1, 0, []) (List.mem_of_getElem? (i := 4) rfl)) rfl (j := 0) rfl ?_
  refine zp_getf (n := ((zf_wea7 V p2ξ).2 7 3)) (pc := 7) hx hb hEξ hwξ (zd_X2_windBy (7, .getfield 21, 3, 0, []) (List.mem_of_getElem? (i := 5) rfl)) (j := 4) rfl rfl rfl (zM_P hMa336ξ (hYbξ _ (List.mem_of_getElem? (i := 7) rfl))) ((zM_G hMa336ξ (hYbξ _ (List.mem_of_getElem? (i := 7) rfl)) 3).trans (hVa336ξ 7 3 (by decide))) ?_
  refine zp_kn (k := 3) (a := (A 7)) hwξ (show zp_fd 2 3 = some (2, 0, 0, (-2147483648), 2147483647) from rfl) rfl (zM_P hMa336ξ (hYbξ _ (List.mem_of_getElem? (i := 7) rfl))) (fun hf337ξ => ?_)
  have hf337bξ := zp_int hf337ξ
  rw [((zM_G hMa336ξ (hYbξ _ (List.mem_of_getElem? (i := 7) rfl)) 3).trans (hVa336ξ 7 3 (by decide)))] at hf337bξ
  clear hf337ξ
  refine zp_if (pc := 10) (tgt := 17) hx hb (zd_X2_windBy (10, .ifCond .ne 7, 3, 0, []) (List.mem_of_getElem? (i := 6) rfl)) rfl (fun (hc338ξ : ¬ ((zf_wea7 V p2ξ).2 7 3) = 0) => ?_) (fun (hc338ξ : ¬ (¬ ((zf_wea7 V p2ξ).2 7 3) = 0)) => ?_)
  · refine zp_const (pc := 17) hx hb (zd_X2_windBy (17, .iconst 0, 1, 0, []) (List.mem_of_getElem? (i := 9) rfl)) rfl rfl ?_
    refine zp_putf (pc := 18) hx hb hEξ hwξ heffξ (zd_X2_windBy (18, .putfield 34, 3, 0, []) (List.mem_of_getElem? (i := 10) rfl)) (j := 5) rfl rfl rfl (zM_P hMa336ξ (hYbξ _ (List.mem_of_getElem? (i := 7) rfl))) (zp_o0 (by decide) (by decide) (by decide) (by decide)) ?_
    refine zp_load (pc := 21) hx hb (zd_X2_windBy (21, .aload_n 0, 1, 0, []) (List.mem_of_getElem? (i := 11) rfl)) rfl (j := 0) rfl ?_
    refine zp_load (pc := 22) hx hb (zd_X2_windBy (22, .aload_n 0, 1, 0, []) (List.mem_of_getElem? (i := 12) rfl)) rfl (j := 0) rfl ?_
    refine zp_getf (n := 0) (pc := 23) hx hb hEξ hwξ (zd_X2_windBy (23, .getfield 34, 3, 0, []) (List.mem_of_getElem? (i := 13) rfl)) (j := 5) rfl rfl rfl (zM_P hMa336ξ (hYbξ _ (List.mem_of_getElem? (i := 7) rfl))) zp_set_self ?_
    refine zp_if (pc := 26) (tgt := 33) hx hb (zd_X2_windBy (26, .ifCond .eq 7, 3, 0, []) (List.mem_of_getElem? (i := 14) rfl)) rfl (fun (hc339ξ : (0 : Int) = 0) => ?_) (fun (hc339ξ : ¬ ((0 : Int) = 0)) => ?_)
    · refine zp_load (pc := 33) hx hb (zd_X2_windBy (33, .iload_n 1, 1, 0, []) (List.mem_of_getElem? (i := 17) rfl)) rfl (j := 1) rfl ?_
      refine zp_putf (pc := 34) hx hb hEξ hwξ heffξ (zd_X2_windBy (34, .putfield 25, 3, 0, []) (List.mem_of_getElem? (i := 18) rfl)) (j := 6) rfl rfl rfl (zM_P hMa336ξ (hYbξ _ (List.mem_of_getElem? (i := 7) rfl))) (zp_o0 (by omega) (by omega) (by omega) (by omega)) ?_
      refine zp_vret (pc := 37) hx hb hEξ hQξ hU5ξ rfl (by decide) (zd_X2_windBy (37, .return_, 1, 0, []) (List.mem_of_getElem? (i := 19) rfl)) (j := 0) rfl ?_
      rw [hpsξ]
      refine ⟨rfl, ?_⟩
      have hffξ : zf_wby7 V p1ξ p2ξ = (0, (zp_set (zp_set (zf_wea7 V p2ξ).2 7 4 0) 7 5 p1ξ)) := by
        unfold zf_wby7
        rw [if_pos hc338ξ]
      show zMVc A Y F (zf_wby7 V p1ξ p2ξ).2 u.1 (zp_set (zp_set Ga336 (A 7) 4 0) (A 7) 5 p1ξ)
      rw [hffξ]
      exact ⟨(zp_set (zp_set Ma336 7 4 0) 7 5 p1ξ), (zM_set (zM_set hMa336ξ (hYbξ _ (List.mem_of_getElem? (i := 7) rfl)) (zFx hFxξ (o := 7) (k := 4) (by decide) (by decide))) (hYbξ _ (List.mem_of_getElem? (i := 7) rfl)) (zFx hFxξ (o := 7) (k := 5) (by decide) (by decide))), (zV_set (zV_set hVa336ξ)), trivial⟩
    · exfalso
      omega
  · refine zp_const (pc := 13) hx hb (zd_X2_windBy (13, .iconst 1, 1, 0, []) (List.mem_of_getElem? (i := 7) rfl)) rfl rfl ?_
    refine zp_goto (tgt := 18) (pc := 14) hx hb (zd_X2_windBy (14, .goto 4, 3, 0, []) (List.mem_of_getElem? (i := 8) rfl)) rfl ?_
    refine zp_putf (pc := 18) hx hb hEξ hwξ heffξ (zd_X2_windBy (18, .putfield 34, 3, 0, []) (List.mem_of_getElem? (i := 10) rfl)) (j := 5) rfl rfl rfl (zM_P hMa336ξ (hYbξ _ (List.mem_of_getElem? (i := 7) rfl))) (zp_o0 (by decide) (by decide) (by decide) (by decide)) ?_
    refine zp_load (pc := 21) hx hb (zd_X2_windBy (21, .aload_n 0, 1, 0, []) (List.mem_of_getElem? (i := 11) rfl)) rfl (j := 0) rfl ?_
    refine zp_load (pc := 22) hx hb (zd_X2_windBy (22, .aload_n 0, 1, 0, []) (List.mem_of_getElem? (i := 12) rfl)) rfl (j := 0) rfl ?_
    refine zp_getf (n := 1) (pc := 23) hx hb hEξ hwξ (zd_X2_windBy (23, .getfield 34, 3, 0, []) (List.mem_of_getElem? (i := 13) rfl)) (j := 5) rfl rfl rfl (zM_P hMa336ξ (hYbξ _ (List.mem_of_getElem? (i := 7) rfl))) zp_set_self ?_
    refine zp_if (pc := 26) (tgt := 33) hx hb (zd_X2_windBy (26, .ifCond .eq 7, 3, 0, []) (List.mem_of_getElem? (i := 14) rfl)) rfl (fun (hc340ξ : (1 : Int) = 0) => ?_) (fun (hc340ξ : ¬ ((1 : Int) = 0)) => ?_)
    · exfalso
      omega
    · refine zp_const (pc := 29) hx hb (zd_X2_windBy (29, .iconst (-1), 1, 0, []) (List.mem_of_getElem? (i := 15) rfl)) rfl rfl ?_
      refine zp_goto (tgt := 34) (pc := 30) hx hb (zd_X2_windBy (30, .goto 4, 3, 0, []) (List.mem_of_getElem? (i := 16) rfl)) rfl ?_
      refine zp_putf (pc := 34) hx hb hEξ hwξ heffξ (zd_X2_windBy (34, .putfield 25, 3, 0, []) (List.mem_of_getElem? (i := 18) rfl)) (j := 6) rfl rfl rfl (zM_P hMa336ξ (hYbξ _ (List.mem_of_getElem? (i := 7) rfl))) (zp_o0 (by decide) (by decide) (by decide) (by decide)) ?_
      refine zp_vret (pc := 37) hx hb hEξ hQξ hU5ξ rfl (by decide) (zd_X2_windBy (37, .return_, 1, 0, []) (List.mem_of_getElem? (i := 19) rfl)) (j := 0) rfl ?_
      rw [hpsξ]
      refine ⟨rfl, ?_⟩
      have hffξ : zf_wby7 V p1ξ p2ξ = (0, (zp_set (zp_set (zf_wea7 V p2ξ).2 7 4 1) 7 5 (-1))) := by
        unfold zf_wby7
        rw [if_neg hc338ξ]
      show zMVc A Y F (zf_wby7 V p1ξ p2ξ).2 u.1 (zp_set (zp_set Ga336 (A 7) 4 1) (A 7) 5 (-1))
      rw [hffξ]
      exact ⟨(zp_set (zp_set Ma336 7 4 1) 7 5 (-1)), (zM_set (zM_set hMa336ξ (hYbξ _ (List.mem_of_getElem? (i := 7) rfl)) (zFx hFxξ (o := 7) (k := 4) (by decide) (by decide))) (hYbξ _ (List.mem_of_getElem? (i := 7) rfl)) (zFx hFxξ (o := 7) (k := 5) (by decide) (by decide))), (zV_set (zV_set hVa336ξ)), trivial⟩
theorem zf_wby7_f {V : Nat → Nat → Int} {p1ξ : Int} {p2ξ : Int} {o k : Nat} (h9ξ : o ∉ ([7] : List Nat)) : (zf_wby7 V p1ξ p2ξ).2 o k = V o k := by
  unfold zf_wby7
  by_cases hd2ξ : ¬ ((zf_wea7 V p2ξ).2 7 3) = 0
  · rw [if_pos hd2ξ]
    show (zp_set (zp_set (zf_wea7 V p2ξ).2 7 4 0) 7 5 p1ξ) o k = V o k
    exact ((zp_set_ne (Or.inl (zc_nin h9ξ (by decide)))).trans ((zp_set_ne (Or.inl (zc_nin h9ξ (by decide)))).trans (zf_wea7_f (zc_sub h9ξ (by decide)))))
  · rw [if_neg hd2ξ]
    show (zp_set (zp_set (zf_wea7 V p2ξ).2 7 4 1) 7 5 (-1)) o k = V o k
    exact ((zp_set_ne (Or.inl (zc_nin h9ξ (by decide)))).trans ((zp_set_ne (Or.inl (zc_nin h9ξ (by decide)))).trans (zf_wea7_f (zc_sub h9ξ (by decide)))))
def zf_slp2 (V : Nat → Nat → Int) : Int × (Nat → Nat → Int) := (0, (zp_set (zp_set (zp_set (zp_set (zp_set (zp_set (zp_set (zp_set (zp_set (zp_set (zp_set (zp_set (zp_set (zp_set V 2 6 ((V 2 6) + 1)) 2 5 (-1)) 50 (2000 + 0) (max 0 ((V 50 (2000 + 0)) - 1))) 51 (2000 + 0) (max 0 ((V 51 (2000 + 0)) - 1))) 50 (2000 + 1) (max 0 ((V 50 (2000 + 1)) - 1))) 51 (2000 + 1) (max 0 ((V 51 (2000 + 1)) - 1))) 50 (2000 + 2) (max 0 ((V 50 (2000 + 2)) - 1))) 51 (2000 + 2) (max 0 ((V 51 (2000 + 2)) - 1))) 50 (2000 + 3) (max 0 ((V 50 (2000 + 3)) - 1))) 51 (2000 + 3) (max 0 ((V 51 (2000 + 3)) - 1))) 50 (2000 + 4) (max 0 ((V 50 (2000 + 4)) - 1))) 51 (2000 + 4) (max 0 ((V 51 (2000 + 4)) - 1))) 50 (2000 + 5) (max 0 ((V 50 (2000 + 5)) - 1))) 51 (2000 + 5) (max 0 ((V 51 (2000 + 5)) - 1))))
def zK_slp2 : zk_K := (zt_mn 112, prog_4_method_7_code, 2, (Option.none : Option Jvm.ClassFile.FieldType), 1, 2, [(2, 2, 0, 0)], [(none, [])], [(2, 5, 0), (2, 6, 0), (17, 1001, 0), (18, 1001, 0)], (1, 60, 0, 0))
def zφ_slp2 (A : Nat → Nat) (Y : List (Nat × Nat)) (F : List (Nat × Nat × Nat)) (V : Nat → Nat → Int) : (Nat → Option Nat) → (Nat → Nat → Int) → List Int → Prop := fun P G ps => zMVc A Y F V P G ∧ ps.getD 0 0 = (A 2 : Int) ∧ zMc Y F ∧ 0 ≤ V 2 6 ∧ V 2 6 ≤ 9999 ∧ ∀ j, j < 6 → 0 ≤ V 50 (2000 + j) ∧ V 50 (2000 + j) ≤ 9
def zψ_slp2 (A : Nat → Nat) (Y : List (Nat × Nat)) (F : List (Nat × Nat × Nat)) (V : Nat → Nat → Int) : (Nat → Option Nat) → (Nat → Nat → Int) → List Int → (Nat → Option Nat) → (Nat → Nat → Int) → Int → Prop := fun P G ps P' G' rn => P' = P ∧ zMVc A Y F (zf_slp2 V).2 P' G'
theorem zX_slp2 {l : Launch} {w : zk_W} (hWξ : zh_W w) (A : Nat → Nat) (Y : List (Nat × Nat)) (F : List (Nat × Nat × Nat)) (V : Nat → Nat → Int) : zk_metX l w zt_dv zt_TB zK_slp2 (zp_A (zφ_slp2 A Y F V)) (zp_B (zψ_slp2 A Y F V)) ∧ zk_cok w zt_TB zK_slp2 := by
  refine zp_methX (cn := "WoundTown$Going") zp_lkallG hWξ (pl := 1029) rfl (by decide +kernel) (fun p e R s m args below meth c Q u hx hb hEξ hQξ hU5ξ heffξ hnLξ hokξ hφ => ?_)
  have hwξ := hWξ.1
  obtain ⟨p0ξ, hpsξ, tk0⟩ := zp_ps1 hokξ
  have hrmξ : zk_Kr (zk_ev (zt_types, zp_lkG, zt_dv, [], [], zp_lcG, zK_slp2)) = zk_Kr zK_slp2 := rfl
  rw [hpsξ] at hφ ⊢
  have hφ : zMVc A Y F V u.1 (zp_n u.2.1) ∧ p0ξ = (A 2 : Int) ∧ zMc Y F ∧ 0 ≤ V 2 6 ∧ V 2 6 ≤ 9999 ∧ ∀ j, j < 6 → 0 ≤ V 50 (2000 + j) ∧ V 50 (2000 + j) ≤ 9 := hφ
  obtain ⟨⟨M, hMξ, hVξ, hSbξ⟩, rfl, hYFξ, hdy0ξ, hdy1ξ, hoiξ⟩ := hφ
  have hYF0ξ := hYFξ
  obtain ⟨hYbξ, hFbξ, hFxξ, -⟩ := hYFξ
  show zp_J p l e R s m args below meth c Q w u [] 0 [(0, 2, (A 2 : Int))] [] u.1 (zp_n u.2.1)
  refine zp_load (pc := 0) hx hb (zd_X2_sleep (0, .aload_n 0, 1, 0, []) (List.mem_of_getElem? (i := 0) rfl)) rfl (j := 0) rfl ?_
  refine zp_dup (pc := 1) hx hb (zd_X2_sleep (1, .dup, 1, 0, []) (List.mem_of_getElem? (i := 1) rfl)) (show (2 : Nat) ≠ 1 by decide) ?_
  refine zp_getf (n := (V 2 6)) (pc := 2) hx hb hEξ hwξ (zd_X2_sleep (2, .getfield 38, 3, 0, []) (List.mem_of_getElem? (i := 2) rfl)) (j := 7) rfl rfl rfl (zM_P hMξ (hYbξ _ (List.mem_of_getElem? (i := 2) rfl))) ((zM_G hMξ (hYbξ _ (List.mem_of_getElem? (i := 2) rfl)) 6).trans (hVξ 2 6 (by decide))) ?_
  refine zp_kn (k := 6) (a := (A 2)) hwξ (show zp_fd 2 6 = some (2, 0, 0, (-2147483648), 2147483647) from rfl) rfl (zM_P hMξ (hYbξ _ (List.mem_of_getElem? (i := 2) rfl))) (fun hf341ξ => ?_)
  have hf341bξ := zp_int hf341ξ
  rw [((zM_G hMξ (hYbξ _ (List.mem_of_getElem? (i := 2) rfl)) 6).trans (hVξ 2 6 (by decide)))] at hf341bξ
  clear hf341ξ
  refine zp_const (pc := 5) hx hb (zd_X2_sleep (5, .iconst 1, 1, 0, []) (List.mem_of_getElem? (i := 3) rfl)) rfl rfl ?_
  refine zp_add (n := ((V 2 6) + 1)) (pc := 6) hx hb (zd_X2_sleep (6, .iadd, 1, 0, []) (List.mem_of_getElem? (i := 4) rfl)) (by omega) (zp_r0 (by omega) (by omega)) ?_
  refine zp_putf (pc := 7) hx hb hEξ hwξ heffξ (zd_X2_sleep (7, .putfield 38, 3, 0, []) (List.mem_of_getElem? (i := 5) rfl)) (j := 7) rfl rfl rfl (zM_P hMξ (hYbξ _ (List.mem_of_getElem? (i := 2) rfl))) (zp_o0 (by omega) (by omega) (by omega) (by omega)) ?_
  refine zp_load (pc := 10) hx hb (zd_X2_sleep (10, .aload_n 0, 1, 0, []) (List.mem_of_getElem? (i := 6) rfl)) rfl (j := 0) rfl ?_
  refine zp_const (pc := 11) hx hb (zd_X2_sleep (11, .iconst (-1), 1, 0, []) (List.mem_of_getElem? (i := 7) rfl)) rfl rfl ?_
  refine zp_putf (pc := 12) hx hb hEξ hwξ heffξ (zd_X2_sleep (12, .putfield 25, 3, 0, []) (List.mem_of_getElem? (i := 8) rfl)) (j := 6) rfl rfl rfl (zM_P hMξ (hYbξ _ (List.mem_of_getElem? (i := 2) rfl))) (zp_o0 (by decide) (by decide) (by decide) (by decide)) ?_
  refine zp_const (pc := 15) hx hb (zd_X2_sleep (15, .iconst 0, 1, 0, []) (List.mem_of_getElem? (i := 9) rfl)) rfl rfl ?_
  refine zp_store (L' := [(1, 0, 0), (0, 2, (A 2 : Int))]) (pc := 16) hx hb hnLξ (zd_X2_sleep (16, .istore_n 1, 1, 0, []) (List.mem_of_getElem? (i := 10) rfl)) rfl rfl rfl ?_
  refine zp_load (pc := 17) hx hb (zd_X2_sleep (17, .iload_n 1, 1, 0, []) (List.mem_of_getElem? (i := 11) rfl)) rfl (j := 0) rfl ?_
  refine zp_const (pc := 18) hx hb (zd_X2_sleep (18, .bipush 6, 2, 0, []) (List.mem_of_getElem? (i := 12) rfl)) rfl rfl ?_
  refine zp_icmp (pc := 20) (tgt := 65) hx hb (zd_X2_sleep (20, .if_icmp .ge 45, 3, 0, []) (List.mem_of_getElem? (i := 13) rfl)) rfl (fun (hc342ξ : 6 ≤ (0 : Int)) => ?_) (fun (hc342ξ : ¬ (6 ≤ (0 : Int))) => ?_)
  · exfalso
    omega
  · refine zp_load (pc := 23) hx hb (zd_X2_sleep (23, .aload_n 0, 1, 0, []) (List.mem_of_getElem? (i := 14) rfl)) rfl (j := 1) rfl ?_
    refine zp_getf (n := (A 50 : Int)) (pc := 24) hx hb hEξ hwξ (zd_X2_sleep (24, .getfield 9, 3, 0, []) (List.mem_of_getElem? (i := 15) rfl)) (j := 1) rfl rfl rfl (zM_P hMξ (hYbξ _ (List.mem_of_getElem? (i := 2) rfl))) ((zp_set_ne (Or.inr (by decide))).trans ((zp_set_ne (Or.inr (by decide))).trans (((zM_G hMξ (hYbξ _ (List.mem_of_getElem? (i := 2) rfl)) 0).trans (zM_F hMξ (hFbξ _ (List.mem_of_getElem? (i := 25) rfl))))))) ?_
    refine zp_load (pc := 27) hx hb (zd_X2_sleep (27, .iload_n 1, 1, 0, []) (List.mem_of_getElem? (i := 16) rfl)) rfl (j := 0) rfl ?_
    refine zp_const (pc := 28) hx hb (zd_X2_sleep (28, .iconst 0, 1, 0, []) (List.mem_of_getElem? (i := 17) rfl)) rfl rfl ?_
    refine zp_load (pc := 29) hx hb (zd_X2_sleep (29, .aload_n 0, 1, 0, []) (List.mem_of_getElem? (i := 18) rfl)) rfl (j := 1) rfl ?_
    refine zp_getf (n := (A 50 : Int)) (pc := 30) hx hb hEξ hwξ (zd_X2_sleep (30, .getfield 9, 3, 0, []) (List.mem_of_getElem? (i := 19) rfl)) (j := 1) rfl rfl rfl (zM_P hMξ (hYbξ _ (List.mem_of_getElem? (i := 2) rfl))) ((zp_set_ne (Or.inr (by decide))).trans ((zp_set_ne (Or.inr (by decide))).trans (((zM_G hMξ (hYbξ _ (List.mem_of_getElem? (i := 2) rfl)) 0).trans (zM_F hMξ (hFbξ _ (List.mem_of_getElem? (i := 25) rfl))))))) ?_
    refine zp_load (pc := 33) hx hb (zd_X2_sleep (33, .iload_n 1, 1, 0, []) (List.mem_of_getElem? (i := 20) rfl)) rfl (j := 0) rfl ?_
    refine zp_iald (j := 0) (v := (V 50 (2000 + 0))) (pc := 34) hx hb hwξ (zd_X2_sleep (34, .iaload, 1, 0, []) (List.mem_of_getElem? (i := 21) rfl)) (show zp_ia 1 17 = some (6, 0, 0, (-2147483648), 2147483647) from rfl) (zM_P hMξ (hYbξ _ (List.mem_of_getElem? (i := 28) rfl))) (by omega) (by omega) ((zp_set_ne (Or.inl (zM_ne hMξ (hYbξ _ (List.mem_of_getElem? (i := 28) rfl)) (hYbξ _ (List.mem_of_getElem? (i := 2) rfl)) (by decide)))).trans ((zp_set_ne (Or.inl (zM_ne hMξ (hYbξ _ (List.mem_of_getElem? (i := 28) rfl)) (hYbξ _ (List.mem_of_getElem? (i := 2) rfl)) (by decide)))).trans (((zM_G hMξ (hYbξ _ (List.mem_of_getElem? (i := 28) rfl)) (2000 + 0)).trans (hVξ 50 (2000 + 0) (by decide)))))) (fun hk343ξ => ?_)
    have hk343bξ := zp_int hk343ξ
    clear hk343ξ
    have hb344ξ := hoiξ 0 (by omega)
    refine zp_const (pc := 35) hx hb (zd_X2_sleep (35, .iconst 1, 1, 0, []) (List.mem_of_getElem? (i := 22) rfl)) rfl rfl ?_
    refine zp_sub (n := ((V 50 (2000 + 0)) - 1)) (pc := 36) hx hb (zd_X2_sleep (36, .isub, 1, 0, []) (List.mem_of_getElem? (i := 23) rfl)) (by omega) (zp_r0 (by omega) (by omega)) ?_
    refine zp_mm (n := (max 0 ((V 50 (2000 + 0)) - 1))) (S := [(0, 0), (2, (A 50 : Int))]) (pc := 37) hx hb hEξ hrmξ (zd_X2_sleep (37, .invokestatic 41, 3, 0, []) (List.mem_of_getElem? (i := 24) rfl)) (j := 9) rfl (Or.inl ⟨rfl, by omega⟩) ⟨by decide, Nat.le_of_ble_eq_true rfl⟩ ?_
    refine zp_iast (j := 0) (pc := 40) hx hb hwξ heffξ (zd_X2_sleep (40, .iastore, 1, 0, []) (List.mem_of_getElem? (i := 25) rfl)) (show zp_ia 1 17 = some (6, 0, 0, (-2147483648), 2147483647) from rfl) (zM_P hMξ (hYbξ _ (List.mem_of_getElem? (i := 28) rfl))) (by omega) (by omega) (zp_o0 (by omega) (by omega) (by omega) (by omega)) rfl ?_
    refine zp_load (pc := 41) hx hb (zd_X2_sleep (41, .aload_n 0, 1, 0, []) (List.mem_of_getElem? (i := 26) rfl)) rfl (j := 1) rfl ?_
    refine zp_getf (n := (A 51 : Int)) (pc := 42) hx hb hEξ hwξ (zd_X2_sleep (42, .getfield 15, 3, 0, []) (List.mem_of_getElem? (i := 27) rfl)) (j := 2) rfl rfl rfl (zM_P hMξ (hYbξ _ (List.mem_of_getElem? (i := 2) rfl))) ((zp_set_ne (Or.inl (zM_ne hMξ (hYbξ _ (List.mem_of_getElem? (i := 2) rfl)) (hYbξ _ (List.mem_of_getElem? (i := 28) rfl)) (by decide)))).trans ((zp_set_ne (Or.inr (by decide))).trans ((zp_set_ne (Or.inr (by decide))).trans (((zM_G hMξ (hYbξ _ (List.mem_of_getElem? (i := 2) rfl)) 1).trans (zM_F hMξ (hFbξ _ (List.mem_of_getElem? (i := 26) rfl)))))))) ?_
    refine zp_load (pc := 45) hx hb (zd_X2_sleep (45, .iload_n 1, 1, 0, []) (List.mem_of_getElem? (i := 28) rfl)) rfl (j := 0) rfl ?_
    refine zp_const (pc := 46) hx hb (zd_X2_sleep (46, .iconst 0, 1, 0, []) (List.mem_of_getElem? (i := 29) rfl)) rfl rfl ?_
    refine zp_load (pc := 47) hx hb (zd_X2_sleep (47, .aload_n 0, 1, 0, []) (List.mem_of_getElem? (i := 30) rfl)) rfl (j := 1) rfl ?_
    refine zp_getf (n := (A 51 : Int)) (pc := 48) hx hb hEξ hwξ (zd_X2_sleep (48, .getfield 15, 3, 0, []) (List.mem_of_getElem? (i := 31) rfl)) (j := 2) rfl rfl rfl (zM_P hMξ (hYbξ _ (List.mem_of_getElem? (i := 2) rfl))) ((zp_set_ne (Or.inl (zM_ne hMξ (hYbξ _ (List.mem_of_getElem? (i := 2) rfl)) (hYbξ _ (List.mem_of_getElem? (i := 28) rfl)) (by decide)))).trans ((zp_set_ne (Or.inr (by decide))).trans ((zp_set_ne (Or.inr (by decide))).trans (((zM_G hMξ (hYbξ _ (List.mem_of_getElem? (i := 2) rfl)) 1).trans (zM_F hMξ (hFbξ _ (List.mem_of_getElem? (i := 26) rfl)))))))) ?_
    refine zp_load (pc := 51) hx hb (zd_X2_sleep (51, .iload_n 1, 1, 0, []) (List.mem_of_getElem? (i := 32) rfl)) rfl (j := 0) rfl ?_
    refine zp_iald (j := 0) (v := (V 51 (2000 + 0))) (pc := 52) hx hb hwξ (zd_X2_sleep (52, .iaload, 1, 0, []) (List.mem_of_getElem? (i := 33) rfl)) (show zp_ia 1 18 = some (6, 0, 0, 0, 45) from rfl) (zM_P hMξ (hYbξ _ (List.mem_of_getElem? (i := 29) rfl))) (by omega) (by omega) ((zp_set_ne (Or.inl (zM_ne hMξ (hYbξ _ (List.mem_of_getElem? (i := 29) rfl)) (hYbξ _ (List.mem_of_getElem? (i := 28) rfl)) (by decide)))).trans ((zp_set_ne (Or.inl (zM_ne hMξ (hYbξ _ (List.mem_of_getElem? (i := 29) rfl)) (hYbξ _ (List.mem_of_getElem? (i := 2) rfl)) (by decide)))).trans ((zp_set_ne (Or.inl (zM_ne hMξ (hYbξ _ (List.mem_of_getElem? (i := 29) rfl)) (hYbξ _ (List.mem_of_getElem? (i := 2) rfl)) (by decide)))).trans (((zM_G hMξ (hYbξ _ (List.mem_of_getElem? (i := 29) rfl)) (2000 + 0)).trans (hVξ 51 (2000 + 0) (by decide))))))) (fun hk345ξ => ?_)
    have hk345bξ := zp_int hk345ξ
    clear hk345ξ
    refine zp_const (pc := 53) hx hb (zd_X2_sleep (53, .iconst 1, 1, 0, []) (List.mem_of_getElem? (i := 34) rfl)) rfl rfl ?_
    refine zp_sub (n := ((V 51 (2000 + 0)) - 1)) (pc := 54) hx hb (zd_X2_sleep (54, .isub, 1, 0, []) (List.mem_of_getElem? (i := 35) rfl)) (by omega) (zp_r0 (by omega) (by omega)) ?_
    refine zp_mm (n := (max 0 ((V 51 (2000 + 0)) - 1))) (S := [(0, 0), (2, (A 51 : Int))]) (pc := 55) hx hb hEξ hrmξ (zd_X2_sleep (55, .invokestatic 41, 3, 0, []) (List.mem_of_getElem? (i := 36) rfl)) (j := 9) rfl (Or.inl ⟨rfl, by omega⟩) ⟨by decide, Nat.le_of_ble_eq_true rfl⟩ ?_
    refine zp_iast (j := 0) (pc := 58) hx hb hwξ heffξ (zd_X2_sleep (58, .iastore, 1, 0, []) (List.mem_of_getElem? (i := 37) rfl)) (show zp_ia 1 18 = some (6, 0, 0, 0, 45) from rfl) (zM_P hMξ (hYbξ _ (List.mem_of_getElem? (i := 29) rfl))) (by omega) (by omega) (zp_o0 (by omega) (by omega) (by omega) (by omega)) rfl ?_
    refine zp_iinc (L' := [(1, 0, 1), (0, 2, (A 2 : Int))]) (n := 1) (pc := 59) hx hb hnLξ (zd_X2_sleep (59, .iinc 1 1, 3, 0, []) (List.mem_of_getElem? (i := 38) rfl)) (j := 0) rfl (by omega) (zp_r0 (by omega) (by omega)) rfl rfl ?_
    refine zp_goto (tgt := 17) (pc := 62) hx hb (zd_X2_sleep (62, .goto (-45), 3, 0, []) (List.mem_of_getElem? (i := 39) rfl)) rfl ?_
    refine zp_load (pc := 17) hx hb (zd_X2_sleep (17, .iload_n 1, 1, 0, []) (List.mem_of_getElem? (i := 11) rfl)) rfl (j := 0) rfl ?_
    refine zp_const (pc := 18) hx hb (zd_X2_sleep (18, .bipush 6, 2, 0, []) (List.mem_of_getElem? (i := 12) rfl)) rfl rfl ?_
    refine zp_icmp (pc := 20) (tgt := 65) hx hb (zd_X2_sleep (20, .if_icmp .ge 45, 3, 0, []) (List.mem_of_getElem? (i := 13) rfl)) rfl (fun (hc346ξ : 6 ≤ (1 : Int)) => ?_) (fun (hc346ξ : ¬ (6 ≤ (1 : Int))) => ?_)
    · exfalso
      omega
    · refine zp_load (pc := 23) hx hb (zd_X2_sleep (23, .aload_n 0, 1, 0, []) (List.mem_of_getElem? (i := 14) rfl)) rfl (j := 1) rfl ?_
      refine zp_getf (n := (A 50 : Int)) (pc := 24) hx hb hEξ hwξ (zd_X2_sleep (24, .getfield 9, 3, 0, []) (List.mem_of_getElem? (i := 15) rfl)) (j := 1) rfl rfl rfl (zM_P hMξ (hYbξ _ (List.mem_of_getElem? (i := 2) rfl))) ((zp_set_ne (Or.inl (zM_ne hMξ (hYbξ _ (List.mem_of_getElem? (i := 2) rfl)) (hYbξ _ (List.mem_of_getElem? (i := 29) rfl)) (by decide)))).trans ((zp_set_ne (Or.inl (zM_ne hMξ (hYbξ _ (List.mem_of_getElem? (i := 2) rfl)) (hYbξ _ (List.mem_of_getElem? (i := 28) rfl)) (by decide)))).trans ((zp_set_ne (Or.inr (by decide))).trans ((zp_set_ne (Or.inr (by decide))).trans (((zM_G hMξ (hYbξ _ (List.mem_of_getElem? (i := 2) rfl)) 0).trans (zM_F hMξ (hFbξ _ (List.mem_of_getElem? (i := 25) rfl))))))))) ?_
      refine zp_load (pc := 27) hx hb (zd_X2_sleep (27, .iload_n 1, 1, 0, []) (List.mem_of_getElem? (i := 16) rfl)) rfl (j := 0) rfl ?_
      refine zp_const (pc := 28) hx hb (zd_X2_sleep (28, .iconst 0, 1, 0, []) (List.mem_of_getElem? (i := 17) rfl)) rfl rfl ?_
      refine zp_load (pc := 29) hx hb (zd_X2_sleep (29, .aload_n 0, 1, 0, []) (List.mem_of_getElem? (i := 18) rfl)) rfl (j := 1) rfl ?_
      refine zp_getf (n := (A 50 : Int)) (pc := 30) hx hb hEξ hwξ (zd_X2_sleep (30, .getfield 9, 3, 0, []) (List.mem_of_getElem? (i := 19) rfl)) (j := 1) rfl rfl rfl (zM_P hMξ (hYbξ _ (List.mem_of_getElem? (i := 2) rfl))) ((zp_set_ne (Or.inl (zM_ne hMξ (hYbξ _ (List.mem_of_getElem? (i := 2) rfl)) (hYbξ _ (List.mem_of_getElem? (i := 29) rfl)) (by decide)))).trans ((zp_set_ne (Or.inl (zM_ne hMξ (hYbξ _ (List.mem_of_getElem? (i := 2) rfl)) (hYbξ _ (List.mem_of_getElem? (i := 28) rfl)) (by decide)))).trans ((zp_set_ne (Or.inr (by decide))).trans ((zp_set_ne (Or.inr (by decide))).trans (((zM_G hMξ (hYbξ _ (List.mem_of_getElem? (i := 2) rfl)) 0).trans (zM_F hMξ (hFbξ _ (List.mem_of_getElem? (i := 25) rfl))))))))) ?_
      refine zp_load (pc := 33) hx hb (zd_X2_sleep (33, .iload_n 1, 1, 0, []) (List.mem_of_getElem? (i := 20) rfl)) rfl (j := 0) rfl ?_
      refine zp_iald (j := 1) (v := (V 50 (2000 + 1))) (pc := 34) hx hb hwξ (zd_X2_sleep (34, .iaload, 1, 0, []) (List.mem_of_getElem? (i := 21) rfl)) (show zp_ia 1 17 = some (6, 0, 0, (-2147483648), 2147483647) from rfl) (zM_P hMξ (hYbξ _ (List.mem_of_getElem? (i := 28) rfl))) (by omega) (by omega) ((zp_set_ne (Or.inl (zM_ne hMξ (hYbξ _ (List.mem_of_getElem? (i := 28) rfl)) (hYbξ _ (List.mem_of_getElem? (i := 29) rfl)) (by decide)))).trans ((zp_set_ne (Or.inr (by omega))).trans ((zp_set_ne (Or.inl (zM_ne hMξ (hYbξ _ (List.mem_of_getElem? (i := 28) rfl)) (hYbξ _ (List.mem_of_getElem? (i := 2) rfl)) (by decide)))).trans ((zp_set_ne (Or.inl (zM_ne hMξ (hYbξ _ (List.mem_of_getElem? (i := 28) rfl)) (hYbξ _ (List.mem_of_getElem? (i := 2) rfl)) (by decide)))).trans (((zM_G hMξ (hYbξ _ (List.mem_of_getElem? (i := 28) rfl)) (2000 + 1)).trans (hVξ 50 (2000 + 1) (by decide)))))))) (fun hk347ξ => ?_)
      have hk347bξ := zp_int hk347ξ
      clear hk347ξ
      have hb348ξ := hoiξ 1 (by omega)
      refine zp_const (pc := 35) hx hb (zd_X2_sleep (35, .iconst 1, 1, 0, []) (List.mem_of_getElem? (i := 22) rfl)) rfl rfl ?_
      refine zp_sub (n := ((V 50 (2000 + 1)) - 1)) (pc := 36) hx hb (zd_X2_sleep (36, .isub, 1, 0, []) (List.mem_of_getElem? (i := 23) rfl)) (by omega) (zp_r0 (by omega) (by omega)) ?_
      refine zp_mm (n := (max 0 ((V 50 (2000 + 1)) - 1))) (S := [(0, 1), (2, (A 50 : Int))]) (pc := 37) hx hb hEξ hrmξ (zd_X2_sleep (37, .invokestatic 41, 3, 0, []) (List.mem_of_getElem? (i := 24) rfl)) (j := 9) rfl (Or.inl ⟨rfl, by omega⟩) ⟨by decide, Nat.le_of_ble_eq_true rfl⟩ ?_
      refine zp_iast (j := 1) (pc := 40) hx hb hwξ heffξ (zd_X2_sleep (40, .iastore, 1, 0, []) (List.mem_of_getElem? (i := 25) rfl)) (show zp_ia 1 17 = some (6, 0, 0, (-2147483648), 2147483647) from rfl) (zM_P hMξ (hYbξ _ (List.mem_of_getElem? (i := 28) rfl))) (by omega) (by omega) (zp_o0 (by omega) (by omega) (by omega) (by omega)) rfl ?_
      refine zp_load (pc := 41) hx hb (zd_X2_sleep (41, .aload_n 0, 1, 0, []) (List.mem_of_getElem? (i := 26) rfl)) rfl (j := 1) rfl ?_
      refine zp_getf (n := (A 51 : Int)) (pc := 42) hx hb hEξ hwξ (zd_X2_sleep (42, .getfield 15, 3, 0, []) (List.mem_of_getElem? (i := 27) rfl)) (j := 2) rfl rfl rfl (zM_P hMξ (hYbξ _ (List.mem_of_getElem? (i := 2) rfl))) ((zp_set_ne (Or.inl (zM_ne hMξ (hYbξ _ (List.mem_of_getElem? (i := 2) rfl)) (hYbξ _ (List.mem_of_getElem? (i := 28) rfl)) (by decide)))).trans ((zp_set_ne (Or.inl (zM_ne hMξ (hYbξ _ (List.mem_of_getElem? (i := 2) rfl)) (hYbξ _ (List.mem_of_getElem? (i := 29) rfl)) (by decide)))).trans ((zp_set_ne (Or.inl (zM_ne hMξ (hYbξ _ (List.mem_of_getElem? (i := 2) rfl)) (hYbξ _ (List.mem_of_getElem? (i := 28) rfl)) (by decide)))).trans ((zp_set_ne (Or.inr (by decide))).trans ((zp_set_ne (Or.inr (by decide))).trans (((zM_G hMξ (hYbξ _ (List.mem_of_getElem? (i := 2) rfl)) 1).trans (zM_F hMξ (hFbξ _ (List.mem_of_getElem? (i := 26) rfl)))))))))) ?_
      refine zp_load (pc := 45) hx hb (zd_X2_sleep (45, .iload_n 1, 1, 0, []) (List.mem_of_getElem? (i := 28) rfl)) rfl (j := 0) rfl ?_
      refine zp_const (pc := 46) hx hb (zd_X2_sleep (46, .iconst 0, 1, 0, []) (List.mem_of_getElem? (i := 29) rfl)) rfl rfl ?_
      refine zp_load (pc := 47) hx hb (zd_X2_sleep (47, .aload_n 0, 1, 0, []) (List.mem_of_getElem? (i := 30) rfl)) rfl (j := 1) rfl ?_
      refine zp_getf (n := (A 51 : Int)) (pc := 48) hx hb hEξ hwξ (zd_X2_sleep (48, .getfield 15, 3, 0, []) (List.mem_of_getElem? (i := 31) rfl)) (j := 2) rfl rfl rfl (zM_P hMξ (hYbξ _ (List.mem_of_getElem? (i := 2) rfl))) ((zp_set_ne (Or.inl (zM_ne hMξ (hYbξ _ (List.mem_of_getElem? (i := 2) rfl)) (hYbξ _ (List.mem_of_getElem? (i := 28) rfl)) (by decide)))).trans ((zp_set_ne (Or.inl (zM_ne hMξ (hYbξ _ (List.mem_of_getElem? (i := 2) rfl)) (hYbξ _ (List.mem_of_getElem? (i := 29) rfl)) (by decide)))).trans ((zp_set_ne (Or.inl (zM_ne hMξ (hYbξ _ (List.mem_of_getElem? (i := 2) rfl)) (hYbξ _ (List.mem_of_getElem? (i := 28) rfl)) (by decide)))).trans ((zp_set_ne (Or.inr (by decide))).trans ((zp_set_ne (Or.inr (by decide))).trans (((zM_G hMξ (hYbξ _ (List.mem_of_getElem? (i := 2) rfl)) 1).trans (zM_F hMξ (hFbξ _ (List.mem_of_getElem? (i := 26) rfl)))))))))) ?_
      refine zp_load (pc := 51) hx hb (zd_X2_sleep (51, .iload_n 1, 1, 0, []) (List.mem_of_getElem? (i := 32) rfl)) rfl (j := 0) rfl ?_
      refine zp_iald (j := 1) (v := (V 51 (2000 + 1))) (pc := 52) hx hb hwξ (zd_X2_sleep (52, .iaload, 1, 0, []) (List.mem_of_getElem? (i := 33) rfl)) (show zp_ia 1 18 = some (6, 0, 0, 0, 45) from rfl) (zM_P hMξ (hYbξ _ (List.mem_of_getElem? (i := 29) rfl))) (by omega) (by omega) ((zp_set_ne (Or.inl (zM_ne hMξ (hYbξ _ (List.mem_of_getElem? (i := 29) rfl)) (hYbξ _ (List.mem_of_getElem? (i := 28) rfl)) (by decide)))).trans ((zp_set_ne (Or.inr (by omega))).trans ((zp_set_ne (Or.inl (zM_ne hMξ (hYbξ _ (List.mem_of_getElem? (i := 29) rfl)) (hYbξ _ (List.mem_of_getElem? (i := 28) rfl)) (by decide)))).trans ((zp_set_ne (Or.inl (zM_ne hMξ (hYbξ _ (List.mem_of_getElem? (i := 29) rfl)) (hYbξ _ (List.mem_of_getElem? (i := 2) rfl)) (by decide)))).trans ((zp_set_ne (Or.inl (zM_ne hMξ (hYbξ _ (List.mem_of_getElem? (i := 29) rfl)) (hYbξ _ (List.mem_of_getElem? (i := 2) rfl)) (by decide)))).trans (((zM_G hMξ (hYbξ _ (List.mem_of_getElem? (i := 29) rfl)) (2000 + 1)).trans (hVξ 51 (2000 + 1) (by decide))))))))) (fun hk349ξ => ?_)
      have hk349bξ := zp_int hk349ξ
      clear hk349ξ
      refine zp_const (pc := 53) hx hb (zd_X2_sleep (53, .iconst 1, 1, 0, []) (List.mem_of_getElem? (i := 34) rfl)) rfl rfl ?_
      refine zp_sub (n := ((V 51 (2000 + 1)) - 1)) (pc := 54) hx hb (zd_X2_sleep (54, .isub, 1, 0, []) (List.mem_of_getElem? (i := 35) rfl)) (by omega) (zp_r0 (by omega) (by omega)) ?_
      refine zp_mm (n := (max 0 ((V 51 (2000 + 1)) - 1))) (S := [(0, 1), (2, (A 51 : Int))]) (pc := 55) hx hb hEξ hrmξ (zd_X2_sleep (55, .invokestatic 41, 3, 0, []) (List.mem_of_getElem? (i := 36) rfl)) (j := 9) rfl (Or.inl ⟨rfl, by omega⟩) ⟨by decide, Nat.le_of_ble_eq_true rfl⟩ ?_
      refine zp_iast (j := 1) (pc := 58) hx hb hwξ heffξ (zd_X2_sleep (58, .iastore, 1, 0, []) (List.mem_of_getElem? (i := 37) rfl)) (show zp_ia 1 18 = some (6, 0, 0, 0, 45) from rfl) (zM_P hMξ (hYbξ _ (List.mem_of_getElem? (i := 29) rfl))) (by omega) (by omega) (zp_o0 (by omega) (by omega) (by omega) (by omega)) rfl ?_
      refine zp_iinc (L' := [(1, 0, 2), (0, 2, (A 2 : Int))]) (n := 2) (pc := 59) hx hb hnLξ (zd_X2_sleep (59, .iinc 1 1, 3, 0, []) (List.mem_of_getElem? (i := 38) rfl)) (j := 0) rfl (by omega) (zp_r0 (by omega) (by omega)) rfl rfl ?_
      refine zp_goto (tgt := 17) (pc := 62) hx hb (zd_X2_sleep (62, .goto (-45), 3, 0, []) (List.mem_of_getElem? (i := 39) rfl)) rfl ?_
      refine zp_load (pc := 17) hx hb (zd_X2_sleep (17, .iload_n 1, 1, 0, []) (List.mem_of_getElem? (i := 11) rfl)) rfl (j := 0) rfl ?_
      refine zp_const (pc := 18) hx hb (zd_X2_sleep (18, .bipush 6, 2, 0, []) (List.mem_of_getElem? (i := 12) rfl)) rfl rfl ?_
      refine zp_icmp (pc := 20) (tgt := 65) hx hb (zd_X2_sleep (20, .if_icmp .ge 45, 3, 0, []) (List.mem_of_getElem? (i := 13) rfl)) rfl (fun (hc350ξ : 6 ≤ (2 : Int)) => ?_) (fun (hc350ξ : ¬ (6 ≤ (2 : Int))) => ?_)
      · exfalso
        omega
      · refine zp_load (pc := 23) hx hb (zd_X2_sleep (23, .aload_n 0, 1, 0, []) (List.mem_of_getElem? (i := 14) rfl)) rfl (j := 1) rfl ?_
        refine zp_getf (n := (A 50 : Int)) (pc := 24) hx hb hEξ hwξ (zd_X2_sleep (24, .getfield 9, 3, 0, []) (List.mem_of_getElem? (i := 15) rfl)) (j := 1) rfl rfl rfl (zM_P hMξ (hYbξ _ (List.mem_of_getElem? (i := 2) rfl))) ((zp_set_ne (Or.inl (zM_ne hMξ (hYbξ _ (List.mem_of_getElem? (i := 2) rfl)) (hYbξ _ (List.mem_of_getElem? (i := 29) rfl)) (by decide)))).trans ((zp_set_ne (Or.inl (zM_ne hMξ (hYbξ _ (List.mem_of_getElem? (i := 2) rfl)) (hYbξ _ (List.mem_of_getElem? (i := 28) rfl)) (by decide)))).trans ((zp_set_ne (Or.inl (zM_ne hMξ (hYbξ _ (List.mem_of_getElem? (i := 2) rfl)) (hYbξ _ (List.mem_of_getElem? (i := 29) rfl)) (by decide)))).trans ((zp_set_ne (Or.inl (zM_ne hMξ (hYbξ _ (List.mem_of_getElem? (i := 2) rfl)) (hYbξ _ (List.mem_of_getElem? (i := 28) rfl)) (by decide)))).trans ((zp_set_ne (Or.inr (by decide))).trans ((zp_set_ne (Or.inr (by decide))).trans (((zM_G hMξ (hYbξ _ (List.mem_of_getElem? (i := 2) rfl)) 0).trans (zM_F hMξ (hFbξ _ (List.mem_of_getElem? (i := 25) rfl))))))))))) ?_
        refine zp_load (pc := 27) hx hb (zd_X2_sleep (27, .iload_n 1, 1, 0, []) (List.mem_of_getElem? (i := 16) rfl)) rfl (j := 0) rfl ?_
        refine zp_const (pc := 28) hx hb (zd_X2_sleep (28, .iconst 0, 1, 0, []) (List.mem_of_getElem? (i := 17) rfl)) rfl rfl ?_
        refine zp_load (pc := 29) hx hb (zd_X2_sleep (29, .aload_n 0, 1, 0, []) (List.mem_of_getElem? (i := 18) rfl)) rfl (j := 1) rfl ?_
        refine zp_getf (n := (A 50 : Int)) (pc := 30) hx hb hEξ hwξ (zd_X2_sleep (30, .getfield 9, 3, 0, []) (List.mem_of_getElem? (i := 19) rfl)) (j := 1) rfl rfl rfl (zM_P hMξ (hYbξ _ (List.mem_of_getElem? (i := 2) rfl))) ((zp_set_ne (Or.inl (zM_ne hMξ (hYbξ _ (List.mem_of_getElem? (i := 2) rfl)) (hYbξ _ (List.mem_of_getElem? (i := 29) rfl)) (by decide)))).trans ((zp_set_ne (Or.inl (zM_ne hMξ (hYbξ _ (List.mem_of_getElem? (i := 2) rfl)) (hYbξ _ (List.mem_of_getElem? (i := 28) rfl)) (by decide)))).trans ((zp_set_ne (Or.inl (zM_ne hMξ (hYbξ _ (List.mem_of_getElem? (i := 2) rfl)) (hYbξ _ (List.mem_of_getElem? (i := 29) rfl)) (by decide)))).trans ((zp_set_ne (Or.inl (zM_ne hMξ (hYbξ _ (List.mem_of_getElem? (i := 2) rfl)) (hYbξ _ (List.mem_of_getElem? (i := 28) rfl)) (by decide)))).trans ((zp_set_ne (Or.inr (by decide))).trans ((zp_set_ne (Or.inr (by decide))).trans (((zM_G hMξ (hYbξ _ (List.mem_of_getElem? (i := 2) rfl)) 0).trans (zM_F hMξ (hFbξ _ (List.mem_of_getElem? (i := 25) rfl))))))))))) ?_
        refine zp_load (pc := 33) hx hb (zd_X2_sleep (33, .iload_n 1, 1, 0, []) (List.mem_of_getElem? (i := 20) rfl)) rfl (j := 0) rfl ?_
        refine zp_iald (j := 2) (v := (V 50 (2000 + 2))) (pc := 34) hx hb hwξ (zd_X2_sleep (34, .iaload, 1, 0, []) (List.mem_of_getElem? (i := 21) rfl)) (show zp_ia 1 17 = some (6, 0, 0, (-2147483648), 2147483647) from rfl) (zM_P hMξ (hYbξ _ (List.mem_of_getElem? (i := 28) rfl))) (by omega) (by omega) ((zp_set_ne (Or.inl (zM_ne hMξ (hYbξ _ (List.mem_of_getElem? (i := 28) rfl)) (hYbξ _ (List.mem_of_getElem? (i := 29) rfl)) (by decide)))).trans ((zp_set_ne (Or.inr (by omega))).trans ((zp_set_ne (Or.inl (zM_ne hMξ (hYbξ _ (List.mem_of_getElem? (i := 28) rfl)) (hYbξ _ (List.mem_of_getElem? (i := 29) rfl)) (by decide)))).trans ((zp_set_ne (Or.inr (by omega))).trans ((zp_set_ne (Or.inl (zM_ne hMξ (hYbξ _ (List.mem_of_getElem? (i := 28) rfl)) (hYbξ _ (List.mem_of_getElem? (i := 2) rfl)) (by decide)))).trans ((zp_set_ne (Or.inl (zM_ne hMξ (hYbξ _ (List.mem_of_getElem? (i := 28) rfl)) (hYbξ _ (List.mem_of_getElem? (i := 2) rfl)) (by decide)))).trans (((zM_G hMξ (hYbξ _ (List.mem_of_getElem? (i := 28) rfl)) (2000 + 2)).trans (hVξ 50 (2000 + 2) (by decide)))))))))) (fun hk351ξ => ?_)
        have hk351bξ := zp_int hk351ξ
        clear hk351ξ
        have hb352ξ := hoiξ 2 (by omega)
        refine zp_const (pc := 35) hx hb (zd_X2_sleep (35, .iconst 1, 1, 0, []) (List.mem_of_getElem? (i := 22) rfl)) rfl rfl ?_
        refine zp_sub (n := ((V 50 (2000 + 2)) - 1)) (pc := 36) hx hb (zd_X2_sleep (36, .isub, 1, 0, []) (List.mem_of_getElem? (i := 23) rfl)) (by omega) (zp_r0 (by omega) (by omega)) ?_
        refine zp_mm (n := (max 0 ((V 50 (2000 + 2)) - 1))) (S := [(0, 2), (2, (A 50 : Int))]) (pc := 37) hx hb hEξ hrmξ (zd_X2_sleep (37, .invokestatic 41, 3, 0, []) (List.mem_of_getElem? (i := 24) rfl)) (j := 9) rfl (Or.inl ⟨rfl, by omega⟩) ⟨by decide, Nat.le_of_ble_eq_true rfl⟩ ?_
        refine zp_iast (j := 2) (pc := 40) hx hb hwξ heffξ (zd_X2_sleep (40, .iastore, 1, 0, []) (List.mem_of_getElem? (i := 25) rfl)) (show zp_ia 1 17 = some (6, 0, 0, (-2147483648), 2147483647) from rfl) (zM_P hMξ (hYbξ _ (List.mem_of_getElem? (i := 28) rfl))) (by omega) (by omega) (zp_o0 (by omega) (by omega) (by omega) (by omega)) rfl ?_
        refine zp_load (pc := 41) hx hb (zd_X2_sleep (41, .aload_n 0, 1, 0, []) (List.mem_of_getElem? (i := 26) rfl)) rfl (j := 1) rfl ?_
        refine zp_getf (n := (A 51 : Int)) (pc := 42) hx hb hEξ hwξ (zd_X2_sleep (42, .getfield 15, 3, 0, []) (List.mem_of_getElem? (i := 27) rfl)) (j := 2) rfl rfl rfl (zM_P hMξ (hYbξ _ (List.mem_of_getElem? (i := 2) rfl))) ((zp_set_ne (Or.inl (zM_ne hMξ (hYbξ _ (List.mem_of_getElem? (i := 2) rfl)) (hYbξ _ (List.mem_of_getElem? (i := 28) rfl)) (by decide)))).trans ((zp_set_ne (Or.inl (zM_ne hMξ (hYbξ _ (List.mem_of_getElem? (i := 2) rfl)) (hYbξ _ (List.mem_of_getElem? (i := 29) rfl)) (by decide)))).trans ((zp_set_ne (Or.inl (zM_ne hMξ (hYbξ _ (List.mem_of_getElem? (i := 2) rfl)) (hYbξ _ (List.mem_of_getElem? (i := 28) rfl)) (by decide)))).trans ((zp_set_ne (Or.inl (zM_ne hMξ (hYbξ _ (List.mem_of_getElem? (i := 2) rfl)) (hYbξ _ (List.mem_of_getElem? (i := 29) rfl)) (by decide)))).trans ((zp_set_ne (Or.inl (zM_ne hMξ (hYbξ _ (List.mem_of_getElem? (i := 2) rfl)) (hYbξ _ (List.mem_of_getElem? (i := 28) rfl)) (by decide)))).trans ((zp_set_ne (Or.inr (by decide))).trans ((zp_set_ne (Or.inr (by decide))).trans (((zM_G hMξ (hYbξ _ (List.mem_of_getElem? (i := 2) rfl)) 1).trans (zM_F hMξ (hFbξ _ (List.mem_of_getElem? (i := 26) rfl)))))))))))) ?_
        refine zp_load (pc := 45) hx hb (zd_X2_sleep (45, .iload_n 1, 1, 0, []) (List.mem_of_getElem? (i := 28) rfl)) rfl (j := 0) rfl ?_
        refine zp_const (pc := 46) hx hb (zd_X2_sleep (46, .iconst 0, 1, 0, []) (List.mem_of_getElem? (i := 29) rfl)) rfl rfl ?_
        refine zp_load (pc := 47) hx hb (zd_X2_sleep (47, .aload_n 0, 1, 0, []) (List.mem_of_getElem? (i := 30) rfl)) rfl (j := 1) rfl ?_
        refine zp_getf (n := (A 51 : Int)) (pc := 48) hx hb hEξ hwξ (zd_X2_sleep (48, .getfield 15, 3, 0, []) (List.mem_of_getElem? (i := 31) rfl)) (j := 2) rfl rfl rfl (zM_P hMξ (hYbξ _ (List.mem_of_getElem? (i := 2) rfl))) ((zp_set_ne (Or.inl (zM_ne hMξ (hYbξ _ (List.mem_of_getElem? (i := 2) rfl)) (hYbξ _ (List.mem_of_getElem? (i := 28) rfl)) (by decide)))).trans ((zp_set_ne (Or.inl (zM_ne hMξ (hYbξ _ (List.mem_of_getElem? (i := 2) rfl)) (hYbξ _ (List.mem_of_getElem? (i := 29) rfl)) (by decide)))).trans ((zp_set_ne (Or.inl (zM_ne hMξ (hYbξ _ (List.mem_of_getElem? (i := 2) rfl)) (hYbξ _ (List.mem_of_getElem? (i := 28) rfl)) (by decide)))).trans ((zp_set_ne (Or.inl (zM_ne hMξ (hYbξ _ (List.mem_of_getElem? (i := 2) rfl)) (hYbξ _ (List.mem_of_getElem? (i := 29) rfl)) (by decide)))).trans ((zp_set_ne (Or.inl (zM_ne hMξ (hYbξ _ (List.mem_of_getElem? (i := 2) rfl)) (hYbξ _ (List.mem_of_getElem? (i := 28) rfl)) (by decide)))).trans ((zp_set_ne (Or.inr (by decide))).trans ((zp_set_ne (Or.inr (by decide))).trans (((zM_G hMξ (hYbξ _ (List.mem_of_getElem? (i := 2) rfl)) 1).trans (zM_F hMξ (hFbξ _ (List.mem_of_getElem? (i := 26) rfl)))))))))))) ?_
        refine zp_load (pc := 51) hx hb (zd_X2_sleep (51, .iload_n 1, 1, 0, []) (List.mem_of_getElem? (i := 32) rfl)) rfl (j := 0) rfl ?_
        refine zp_iald (j := 2) (v := (V 51 (2000 + 2))) (pc := 52) hx hb hwξ (zd_X2_sleep (52, .iaload, 1, 0, []) (List.mem_of_getElem? (i := 33) rfl)) (show zp_ia 1 18 = some (6, 0, 0, 0, 45) from rfl) (zM_P hMξ (hYbξ _ (List.mem_of_getElem? (i := 29) rfl))) (by omega) (by omega) ((zp_set_ne (Or.inl (zM_ne hMξ (hYbξ _ (List.mem_of_getElem? (i := 29) rfl)) (hYbξ _ (List.mem_of_getElem? (i := 28) rfl)) (by decide)))).trans ((zp_set_ne (Or.inr (by omega))).trans ((zp_set_ne (Or.inl (zM_ne hMξ (hYbξ _ (List.mem_of_getElem? (i := 29) rfl)) (hYbξ _ (List.mem_of_getElem? (i := 28) rfl)) (by decide)))).trans ((zp_set_ne (Or.inr (by omega))).trans ((zp_set_ne (Or.inl (zM_ne hMξ (hYbξ _ (List.mem_of_getElem? (i := 29) rfl)) (hYbξ _ (List.mem_of_getElem? (i := 28) rfl)) (by decide)))).trans ((zp_set_ne (Or.inl (zM_ne hMξ (hYbξ _ (List.mem_of_getElem? (i := 29) rfl)) (hYbξ _ (List.mem_of_getElem? (i := 2) rfl)) (by decide)))).trans ((zp_set_ne (Or.inl (zM_ne hMξ (hYbξ _ (List.mem_of_getElem? (i := 29) rfl)) (hYbξ _ (List.mem_of_getElem? (i := 2) rfl)) (by decide)))).trans (((zM_G hMξ (hYbξ _ (List.mem_of_getElem? (i := 29) rfl)) (2000 + 2)).trans (hVξ 51 (2000 + 2) (by decide))))))))))) (fun hk353ξ => ?_)
        have hk353bξ := zp_int hk353ξ
        clear hk353ξ
        refine zp_const (pc := 53) hx hb (zd_X2_sleep (53, .iconst 1, 1, 0, []) (List.mem_of_getElem? (i := 34) rfl)) rfl rfl ?_
        refine zp_sub (n := ((V 51 (2000 + 2)) - 1)) (pc := 54) hx hb (zd_X2_sleep (54, .isub, 1, 0, []) (List.mem_of_getElem? (i := 35) rfl)) (by omega) (zp_r0 (by omega) (by omega)) ?_
        refine zp_mm (n := (max 0 ((V 51 (2000 + 2)) - 1))) (S := [(0, 2), (2, (A 51 : Int))]) (pc := 55) hx hb hEξ hrmξ (zd_X2_sleep (55, .invokestatic 41, 3, 0, []) (List.mem_of_getElem? (i := 36) rfl)) (j := 9) rfl (Or.inl ⟨rfl, by omega⟩) ⟨by decide, Nat.le_of_ble_eq_true rfl⟩ ?_
        refine zp_iast (j := 2) (pc := 58) hx hb hwξ heffξ (zd_X2_sleep (58, .iastore, 1, 0, []) (List.mem_of_getElem? (i := 37) rfl)) (show zp_ia 1 18 = some (6, 0, 0, 0, 45) from rfl) (zM_P hMξ (hYbξ _ (List.mem_of_getElem? (i := 29) rfl))) (by omega) (by omega) (zp_o0 (by omega) (by omega) (by omega) (by omega)) rfl ?_
        refine zp_iinc (L' := [(1, 0, 3), (0, 2, (A 2 : Int))]) (n := 3) (pc := 59) hx hb hnLξ (zd_X2_sleep (59, .iinc 1 1, 3, 0, []) (List.mem_of_getElem? (i := 38) rfl)) (j := 0) rfl (by omega) (zp_r0 (by omega) (by omega)) rfl rfl ?_
        refine zp_goto (tgt := 17) (pc := 62) hx hb (zd_X2_sleep (62, .goto (-45), 3, 0, []) (List.mem_of_getElem? (i := 39) rfl)) rfl ?_
        refine zp_load (pc := 17) hx hb (zd_X2_sleep (17, .iload_n 1, 1, 0, []) (List.mem_of_getElem? (i := 11) rfl)) rfl (j := 0) rfl ?_
        refine zp_const (pc := 18) hx hb (zd_X2_sleep (18, .bipush 6, 2, 0, []) (List.mem_of_getElem? (i := 12) rfl)) rfl rfl ?_
        refine zp_icmp (pc := 20) (tgt := 65) hx hb (zd_X2_sleep (20, .if_icmp .ge 45, 3, 0, []) (List.mem_of_getElem? (i := 13) rfl)) rfl (fun (hc354ξ : 6 ≤ (3 : Int)) => ?_) (fun (hc354ξ : ¬ (6 ≤ (3 : Int))) => ?_)
        · exfalso
          omega
        · refine zp_load (pc := 23) hx hb (zd_X2_sleep (23, .aload_n 0, 1, 0, []) (List.mem_of_getElem? (i := 14) rfl)) rfl (j := 1) rfl ?_
          refine zp_getf (n := (A 50 : Int)) (pc := 24) hx hb hEξ hwξ (zd_X2_sleep (24, .getfield 9, 3, 0, []) (List.mem_of_getElem? (i := 15) rfl)) (j := 1) rfl rfl rfl (zM_P hMξ (hYbξ _ (List.mem_of_getElem? (i := 2) rfl))) ((zp_set_ne (Or.inl (zM_ne hMξ (hYbξ _ (List.mem_of_getElem? (i := 2) rfl)) (hYbξ _ (List.mem_of_getElem? (i := 29) rfl)) (by decide)))).trans ((zp_set_ne (Or.inl (zM_ne hMξ (hYbξ _ (List.mem_of_getElem? (i := 2) rfl)) (hYbξ _ (List.mem_of_getElem? (i := 28) rfl)) (by decide)))).trans ((zp_set_ne (Or.inl (zM_ne hMξ (hYbξ _ (List.mem_of_getElem? (i := 2) rfl)) (hYbξ _ (List.mem_of_getElem? (i := 29) rfl)) (by decide)))).trans ((zp_set_ne (Or.inl (zM_ne hMξ (hYbξ _ (List.mem_of_getElem? (i := 2) rfl)) (hYbξ _ (List.mem_of_getElem? (i := 28) rfl)) (by decide)))).trans ((zp_set_ne (Or.inl (zM_ne hMξ (hYbξ _ (List.mem_of_getElem? (i := 2) rfl)) (hYbξ _ (List.mem_of_getElem? (i := 29) rfl)) (by decide)))).trans ((zp_set_ne (Or.inl (zM_ne hMξ (hYbξ _ (List.mem_of_getElem? (i := 2) rfl)) (hYbξ _ (List.mem_of_getElem? (i := 28) rfl)) (by decide)))).trans ((zp_set_ne (Or.inr (by decide))).trans ((zp_set_ne (Or.inr (by decide))).trans (((zM_G hMξ (hYbξ _ (List.mem_of_getElem? (i := 2) rfl)) 0).trans (zM_F hMξ (hFbξ _ (List.mem_of_getElem? (i := 25) rfl))))))))))))) ?_
          refine zp_load (pc := 27) hx hb (zd_X2_sleep (27, .iload_n 1, 1, 0, []) (List.mem_of_getElem? (i := 16) rfl)) rfl (j := 0) rfl ?_
          refine zp_const (pc := 28) hx hb (zd_X2_sleep (28, .iconst 0, 1, 0, []) (List.mem_of_getElem? (i := 17) rfl)) rfl rfl ?_
          refine zp_load (pc := 29) hx hb (zd_X2_sleep (29, .aload_n 0, 1, 0, []) (List.mem_of_getElem? (i := 18) rfl)) rfl (j := 1) rfl ?_
          refine zp_getf (n := (A 50 : Int)) (pc := 30) hx hb hEξ hwξ (zd_X2_sleep (30, .getfield 9, 3, 0, []) (List.mem_of_getElem? (i := 19) rfl)) (j := 1) rfl rfl rfl (zM_P hMξ (hYbξ _ (List.mem_of_getElem? (i := 2) rfl))) ((zp_set_ne (Or.inl (zM_ne hMξ (hYbξ _ (List.mem_of_getElem? (i := 2) rfl)) (hYbξ _ (List.mem_of_getElem? (i := 29) rfl)) (by decide)))).trans ((zp_set_ne (Or.inl (zM_ne hMξ (hYbξ _ (List.mem_of_getElem? (i := 2) rfl)) (hYbξ _ (List.mem_of_getElem? (i := 28) rfl)) (by decide)))).trans ((zp_set_ne (Or.inl (zM_ne hMξ (hYbξ _ (List.mem_of_getElem? (i := 2) rfl)) (hYbξ _ (List.mem_of_getElem? (i := 29) rfl)) (by decide)))).trans ((zp_set_ne (Or.inl (zM_ne hMξ (hYbξ _ (List.mem_of_getElem? (i := 2) rfl)) (hYbξ _ (List.mem_of_getElem? (i := 28) rfl)) (by decide)))).trans ((zp_set_ne (Or.inl (zM_ne hMξ (hYbξ _ (List.mem_of_getElem? (i := 2) rfl)) (hYbξ _ (List.mem_of_getElem? (i := 29) rfl)) (by decide)))).trans ((zp_set_ne (Or.inl (zM_ne hMξ (hYbξ _ (List.mem_of_getElem? (i := 2) rfl)) (hYbξ _ (List.mem_of_getElem? (i := 28) rfl)) (by decide)))).trans ((zp_set_ne (Or.inr (by decide))).trans ((zp_set_ne (Or.inr (by decide))).trans (((zM_G hMξ (hYbξ _ (List.mem_of_getElem? (i := 2) rfl)) 0).trans (zM_F hMξ (hFbξ _ (List.mem_of_getElem? (i := 25) rfl))))))))))))) ?_
          refine zp_load (pc := 33) hx hb (zd_X2_sleep (33, .iload_n 1, 1, 0, []) (List.mem_of_getElem? (i := 20) rfl)) rfl (j := 0) rfl ?_
          refine zp_iald (j := 3) (v := (V 50 (2000 + 3))) (pc := 34) hx hb hwξ (zd_X2_sleep (34, .iaload, 1, 0, []) (List.mem_of_getElem? (i := 21) rfl)) (show zp_ia 1 17 = some (6, 0, 0, (-2147483648), 2147483647) from rfl) (zM_P hMξ (hYbξ _ (List.mem_of_getElem? (i := 28) rfl))) (by omega) (by omega) ((zp_set_ne (Or.inl (zM_ne hMξ (hYbξ _ (List.mem_of_getElem? (i := 28) rfl)) (hYbξ _ (List.mem_of_getElem? (i := 29) rfl)) (by decide)))).trans ((zp_set_ne (Or.inr (by omega))).trans ((zp_set_ne (Or.inl (zM_ne hMξ (hYbξ _ (List.mem_of_getElem? (i := 28) rfl)) (hYbξ _ (List.mem_of_getElem? (i := 29) rfl)) (by decide)))).trans ((zp_set_ne (Or.inr (by omega))).trans ((zp_set_ne (Or.inl (zM_ne hMξ (hYbξ _ (List.mem_of_getElem? (i := 28) rfl)) (hYbξ _ (List.mem_of_getElem? (i := 29) rfl)) (by decide)))).trans ((zp_set_ne (Or.inr (by omega))).trans ((zp_set_ne (Or.inl (zM_ne hMξ (hYbξ _ (List.mem_of_getElem? (i := 28) rfl)) (hYbξ _ (List.mem_of_getElem? (i := 2) rfl)) (by decide)))).trans ((zp_set_ne (Or.inl (zM_ne hMξ (hYbξ _ (List.mem_of_getElem? (i := 28) rfl)) (hYbξ _ (List.mem_of_getElem? (i := 2) rfl)) (by decide)))).trans (((zM_G hMξ (hYbξ _ (List.mem_of_getElem? (i := 28) rfl)) (2000 + 3)).trans (hVξ 50 (2000 + 3) (by decide)))))))))))) (fun hk355ξ => ?_)
          have hk355bξ := zp_int hk355ξ
          clear hk355ξ
          have hb356ξ := hoiξ 3 (by omega)
          refine zp_const (pc := 35) hx hb (zd_X2_sleep (35, .iconst 1, 1, 0, []) (List.mem_of_getElem? (i := 22) rfl)) rfl rfl ?_
          refine zp_sub (n := ((V 50 (2000 + 3)) - 1)) (pc := 36) hx hb (zd_X2_sleep (36, .isub, 1, 0, []) (List.mem_of_getElem? (i := 23) rfl)) (by omega) (zp_r0 (by omega) (by omega)) ?_
          refine zp_mm (n := (max 0 ((V 50 (2000 + 3)) - 1))) (S := [(0, 3), (2, (A 50 : Int))]) (pc := 37) hx hb hEξ hrmξ (zd_X2_sleep (37, .invokestatic 41, 3, 0, []) (List.mem_of_getElem? (i := 24) rfl)) (j := 9) rfl (Or.inl ⟨rfl, by omega⟩) ⟨by decide, Nat.le_of_ble_eq_true rfl⟩ ?_
          refine zp_iast (j := 3) (pc := 40) hx hb hwξ heffξ (zd_X2_sleep (40, .iastore, 1, 0, []) (List.mem_of_getElem? (i := 25) rfl)) (show zp_ia 1 17 = some (6, 0, 0, (-2147483648), 2147483647) from rfl) (zM_P hMξ (hYbξ _ (List.mem_of_getElem? (i := 28) rfl))) (by omega) (by omega) (zp_o0 (by omega) (by omega) (by omega) (by omega)) rfl ?_
          refine zp_load (pc := 41) hx hb (zd_X2_sleep (41, .aload_n 0, 1, 0, []) (List.mem_of_getElem? (i := 26) rfl)) rfl (j := 1) rfl ?_
          refine zp_getf (n := (A 51 : Int)) (pc := 42) hx hb hEξ hwξ (zd_X2_sleep (42, .getfield 15, 3, 0, []) (List.mem_of_getElem? (i := 27) rfl)) (j := 2) rfl rfl rfl (zM_P hMξ (hYbξ _ (List.mem_of_getElem? (i := 2) rfl))) ((zp_set_ne (Or.inl (zM_ne hMξ (hYbξ _ (List.mem_of_getElem? (i := 2) rfl)) (hYbξ _ (List.mem_of_getElem? (i := 28) rfl)) (by decide)))).trans ((zp_set_ne (Or.inl (zM_ne hMξ (hYbξ _ (List.mem_of_getElem? (i := 2) rfl)) (hYbξ _ (List.mem_of_getElem? (i := 29) rfl)) (by decide)))).trans ((zp_set_ne (Or.inl (zM_ne hMξ (hYbξ _ (List.mem_of_getElem? (i := 2) rfl)) (hYbξ _ (List.mem_of_getElem? (i := 28) rfl)) (by decide)))).trans ((zp_set_ne (Or.inl (zM_ne hMξ (hYbξ _ (List.mem_of_getElem? (i := 2) rfl)) (hYbξ _ (List.mem_of_getElem? (i := 29) rfl)) (by decide)))).trans ((zp_set_ne (Or.inl (zM_ne hMξ (hYbξ _ (List.mem_of_getElem? (i := 2) rfl)) (hYbξ _ (List.mem_of_getElem? (i := 28) rfl)) (by decide)))).trans ((zp_set_ne (Or.inl (zM_ne hMξ (hYbξ _ (List.mem_of_getElem? (i := 2) rfl)) (hYbξ _ (List.mem_of_getElem? (i := 29) rfl)) (by decide)))).trans ((zp_set_ne (Or.inl (zM_ne hMξ (hYbξ _ (List.mem_of_getElem? (i := 2) rfl)) (hYbξ _ (List.mem_of_getElem? (i := 28) rfl)) (by decide)))).trans ((zp_set_ne (Or.inr (by decide))).trans ((zp_set_ne (Or.inr (by decide))).trans (((zM_G hMξ (hYbξ _ (List.mem_of_getElem? (i := 2) rfl)) 1).trans (zM_F hMξ (hFbξ _ (List.mem_of_getElem? (i := 26) rfl)))))))))))))) ?_
          refine zp_load (pc := 45) hx hb (zd_X2_sleep (45, .iload_n 1, 1, 0, []) (List.mem_of_getElem? (i := 28) rfl)) rfl (j := 0) rfl ?_
          refine zp_const (pc := 46) hx hb (zd_X2_sleep (46, .iconst 0, 1, 0, []) (List.mem_of_getElem? (i := 29) rfl)) rfl rfl ?_
          refine zp_load (pc := 47) hx hb (zd_X2_sleep (47, .aload_n 0, 1, 0, []) (List.mem_of_getElem? (i := 30) rfl)) rfl (j := 1) rfl ?_
          refine zp_getf (n := (A 51 : Int)) (pc := 48) hx hb hEξ hwξ (zd_X2_sleep (48, .getfield 15, 3, 0, []) (List.mem_of_getElem? (i := 31) rfl)) (j := 2) rfl rfl rfl (zM_P hMξ (hYbξ _ (List.mem_of_getElem? (i := 2) rfl))) ((zp_set_ne (Or.inl (zM_ne hMξ (hYbξ _ (List.mem_of_getElem? (i := 2) rfl)) (hYbξ _ (List.mem_of_getElem? (i := 28) rfl)) (by decide)))).trans ((zp_set_ne (Or.inl (zM_ne hMξ (hYbξ _ (List.mem_of_getElem? (i := 2) rfl)) (hYbξ _ (List.mem_of_getElem? (i := 29) rfl)) (by decide)))).trans ((zp_set_ne (Or.inl (zM_ne hMξ (hYbξ _ (List.mem_of_getElem? (i := 2) rfl)) (hYbξ _ (List.mem_of_getElem? (i := 28) rfl)) (by decide)))).trans ((zp_set_ne (Or.inl (zM_ne hMξ (hYbξ _ (List.mem_of_getElem? (i := 2) rfl)) (hYbξ _ (List.mem_of_getElem? (i := 29) rfl)) (by decide)))).trans ((zp_set_ne (Or.inl (zM_ne hMξ (hYbξ _ (List.mem_of_getElem? (i := 2) rfl)) (hYbξ _ (List.mem_of_getElem? (i := 28) rfl)) (by decide)))).trans ((zp_set_ne (Or.inl (zM_ne hMξ (hYbξ _ (List.mem_of_getElem? (i := 2) rfl)) (hYbξ _ (List.mem_of_getElem? (i := 29) rfl)) (by decide)))).trans ((zp_set_ne (Or.inl (zM_ne hMξ (hYbξ _ (List.mem_of_getElem? (i := 2) rfl)) (hYbξ _ (List.mem_of_getElem? (i := 28) rfl)) (by decide)))).trans ((zp_set_ne (Or.inr (by decide))).trans ((zp_set_ne (Or.inr (by decide))).trans (((zM_G hMξ (hYbξ _ (List.mem_of_getElem? (i := 2) rfl)) 1).trans (zM_F hMξ (hFbξ _ (List.mem_of_getElem? (i := 26) rfl)))))))))))))) ?_
          refine zp_load (pc := 51) hx hb (zd_X2_sleep (51, .iload_n 1, 1, 0, []) (List.mem_of_getElem? (i := 32) rfl)) rfl (j := 0) rfl ?_
          refine zp_iald (j := 3) (v := (V 51 (2000 + 3))) (pc := 52) hx hb hwξ (zd_X2_sleep (52, .iaload, 1, 0, []) (List.mem_of_getElem? (i := 33) rfl)) (show zp_ia 1 18 = some (6, 0, 0, 0, 45) from rfl) (zM_P hMξ (hYbξ _ (List.mem_of_getElem? (i := 29) rfl))) (by omega) (by omega) ((zp_set_ne (Or.inl (zM_ne hMξ (hYbξ _ (List.mem_of_getElem? (i := 29) rfl)) (hYbξ _ (List.mem_of_getElem? (i := 28) rfl)) (by decide)))).trans ((zp_set_ne (Or.inr (by omega))).trans ((zp_set_ne (Or.inl (zM_ne hMξ (hYbξ _ (List.mem_of_getElem? (i := 29) rfl)) (hYbξ _ (List.mem_of_getElem? (i := 28) rfl)) (by decide)))).trans ((zp_set_ne (Or.inr (by omega))).trans ((zp_set_ne (Or.inl (zM_ne hMξ (hYbξ _ (List.mem_of_getElem? (i := 29) rfl)) (hYbξ _ (List.mem_of_getElem? (i := 28) rfl)) (by decide)))).trans ((zp_set_ne (Or.inr (by omega))).trans ((zp_set_ne (Or.inl (zM_ne hMξ (hYbξ _ (List.mem_of_getElem? (i := 29) rfl)) (hYbξ _ (List.mem_of_getElem? (i := 28) rfl)) (by decide)))).trans ((zp_set_ne (Or.inl (zM_ne hMξ (hYbξ _ (List.mem_of_getElem? (i := 29) rfl)) (hYbξ _ (List.mem_of_getElem? (i := 2) rfl)) (by decide)))).trans ((zp_set_ne (Or.inl (zM_ne hMξ (hYbξ _ (List.mem_of_getElem? (i := 29) rfl)) (hYbξ _ (List.mem_of_getElem? (i := 2) rfl)) (by decide)))).trans (((zM_G hMξ (hYbξ _ (List.mem_of_getElem? (i := 29) rfl)) (2000 + 3)).trans (hVξ 51 (2000 + 3) (by decide))))))))))))) (fun hk357ξ => ?_)
          have hk357bξ := zp_int hk357ξ
          clear hk357ξ
          refine zp_const (pc := 53) hx hb (zd_X2_sleep (53, .iconst 1, 1, 0, []) (List.mem_of_getElem? (i := 34) rfl)) rfl rfl ?_
          refine zp_sub (n := ((V 51 (2000 + 3)) - 1)) (pc := 54) hx hb (zd_X2_sleep (54, .isub, 1, 0, []) (List.mem_of_getElem? (i := 35) rfl)) (by omega) (zp_r0 (by omega) (by omega)) ?_
          refine zp_mm (n := (max 0 ((V 51 (2000 + 3)) - 1))) (S := [(0, 3), (2, (A 51 : Int))]) (pc := 55) hx hb hEξ hrmξ (zd_X2_sleep (55, .invokestatic 41, 3, 0, []) (List.mem_of_getElem? (i := 36) rfl)) (j := 9) rfl (Or.inl ⟨rfl, by omega⟩) ⟨by decide, Nat.le_of_ble_eq_true rfl⟩ ?_
          refine zp_iast (j := 3) (pc := 58) hx hb hwξ heffξ (zd_X2_sleep (58, .iastore, 1, 0, []) (List.mem_of_getElem? (i := 37) rfl)) (show zp_ia 1 18 = some (6, 0, 0, 0, 45) from rfl) (zM_P hMξ (hYbξ _ (List.mem_of_getElem? (i := 29) rfl))) (by omega) (by omega) (zp_o0 (by omega) (by omega) (by omega) (by omega)) rfl ?_
          refine zp_iinc (L' := [(1, 0, 4), (0, 2, (A 2 : Int))]) (n := 4) (pc := 59) hx hb hnLξ (zd_X2_sleep (59, .iinc 1 1, 3, 0, []) (List.mem_of_getElem? (i := 38) rfl)) (j := 0) rfl (by omega) (zp_r0 (by omega) (by omega)) rfl rfl ?_
          refine zp_goto (tgt := 17) (pc := 62) hx hb (zd_X2_sleep (62, .goto (-45), 3, 0, []) (List.mem_of_getElem? (i := 39) rfl)) rfl ?_
          refine zp_load (pc := 17) hx hb (zd_X2_sleep (17, .iload_n 1, 1, 0, []) (List.mem_of_getElem? (i := 11) rfl)) rfl (j := 0) rfl ?_
          refine zp_const (pc := 18) hx hb (zd_X2_sleep (18, .bipush 6, 2, 0, []) (List.mem_of_getElem? (i := 12) rfl)) rfl rfl ?_
          refine zp_icmp (pc := 20) (tgt := 65) hx hb (zd_X2_sleep (20, .if_icmp .ge 45, 3, 0, []) (List.mem_of_getElem? (i := 13) rfl)) rfl (fun (hc358ξ : 6 ≤ (4 : Int)) => ?_) (fun (hc358ξ : ¬ (6 ≤ (4 : Int))) => ?_)
          · exfalso
            omega
          · refine zp_load (pc := 23) hx hb (zd_X2_sleep (23, .aload_n 0, 1, 0, []) (List.mem_of_getElem? (i := 14) rfl)) rfl (j := 1) rfl ?_
            refine zp_getf (n := (A 50 : Int)) (pc := 24) hx hb hEξ hwξ (zd_X2_sleep (24, .getfield 9, 3, 0, []) (List.mem_of_getElem? (i := 15) rfl)) (j := 1) rfl rfl rfl (zM_P hMξ (hYbξ _ (List.mem_of_getElem? (i := 2) rfl))) ((zp_set_ne (Or.inl (zM_ne hMξ (hYbξ _ (List.mem_of_getElem? (i := 2) rfl)) (hYbξ _ (List.mem_of_getElem? (i := 29) rfl)) (by decide)))).trans ((zp_set_ne (Or.inl (zM_ne hMξ (hYbξ _ (List.mem_of_getElem? (i := 2) rfl)) (hYbξ _ (List.mem_of_getElem? (i := 28) rfl)) (by decide)))).trans ((zp_set_ne (Or.inl (zM_ne hMξ (hYbξ _ (List.mem_of_getElem? (i := 2) rfl)) (hYbξ _ (List.mem_of_getElem? (i := 29) rfl)) (by decide)))).trans ((zp_set_ne (Or.inl (zM_ne hMξ (hYbξ _ (List.mem_of_getElem? (i := 2) rfl)) (hYbξ _ (List.mem_of_getElem? (i := 28) rfl)) (by decide)))).trans ((zp_set_ne (Or.inl (zM_ne hMξ (hYbξ _ (List.mem_of_getElem? (i := 2) rfl)) (hYbξ _ (List.mem_of_getElem? (i := 29) rfl)) (by decide)))).trans ((zp_set_ne (Or.inl (zM_ne hMξ (hYbξ _ (List.mem_of_getElem? (i := 2) rfl)) (hYbξ _ (List.mem_of_getElem? (i := 28) rfl)) (by decide)))).trans ((zp_set_ne (Or.inl (zM_ne hMξ (hYbξ _ (List.mem_of_getElem? (i := 2) rfl)) (hYbξ _ (List.mem_of_getElem? (i := 29) rfl)) (by decide)))).trans ((zp_set_ne (Or.inl (zM_ne hMξ (hYbξ _ (List.mem_of_getElem? (i := 2) rfl)) (hYbξ _ (List.mem_of_getElem? (i := 28) rfl)) (by decide)))).trans ((zp_set_ne (Or.inr (by decide))).trans ((zp_set_ne (Or.inr (by decide))).trans (((zM_G hMξ (hYbξ _ (List.mem_of_getElem? (i := 2) rfl)) 0).trans (zM_F hMξ (hFbξ _ (List.mem_of_getElem? (i := 25) rfl))))))))))))))) ?_
            refine zp_load (pc := 27) hx hb (zd_X2_sleep (27, .iload_n 1, 1, 0, []) (List.mem_of_getElem? (i := 16) rfl)) rfl (j := 0) rfl ?_
            refine zp_const (pc := 28) hx hb (zd_X2_sleep (28, .iconst 0, 1, 0, []) (List.mem_of_getElem? (i := 17) rfl)) rfl rfl ?_
            refine zp_load (pc := 29) hx hb (zd_X2_sleep (29, .aload_n 0, 1, 0, []) (List.mem_of_getElem? (i := 18) rfl)) rfl (j := 1) rfl ?_
            refine zp_getf (n := (A 50 : Int)) (pc := 30) hx hb hEξ hwξ (zd_X2_sleep (30, .getfield 9, 3, 0, []) (List.mem_of_getElem? (i := 19) rfl)) (j := 1) rfl rfl rfl (zM_P hMξ (hYbξ _ (List.mem_of_getElem? (i := 2) rfl))) ((zp_set_ne (Or.inl (zM_ne hMξ (hYbξ _ (List.mem_of_getElem? (i := 2) rfl)) (hYbξ _ (List.mem_of_getElem? (i := 29) rfl)) (by decide)))).trans ((zp_set_ne (Or.inl (zM_ne hMξ (hYbξ _ (List.mem_of_getElem? (i := 2) rfl)) (hYbξ _ (List.mem_of_getElem? (i := 28) rfl)) (by decide)))).trans ((zp_set_ne (Or.inl (zM_ne hMξ (hYbξ _ (List.mem_of_getElem? (i := 2) rfl)) (hYbξ _ (List.mem_of_getElem? (i := 29) rfl)) (by decide)))).trans ((zp_set_ne (Or.inl (zM_ne hMξ (hYbξ _ (List.mem_of_getElem? (i := 2) rfl)) (hYbξ _ (List.mem_of_getElem? (i := 28) rfl)) (by decide)))).trans ((zp_set_ne (Or.inl (zM_ne hMξ (hYbξ _ (List.mem_of_getElem? (i := 2) rfl)) (hYbξ _ (List.mem_of_getElem? (i := 29) rfl)) (by decide)))).trans ((zp_set_ne (Or.inl (zM_ne hMξ (hYbξ _ (List.mem_of_getElem? (i := 2) rfl)) (hYbξ _ (List.mem_of_getElem? (i := 28) rfl)) (by decide)))).trans ((zp_set_ne (Or.inl (zM_ne hMξ (hYbξ _ (List.mem_of_getElem? (i := 2) rfl)) (hYbξ _ (List.mem_of_getElem? (i := 29) rfl)) (by decide)))).trans ((zp_set_ne (Or.inl (zM_ne hMξ (hYbξ _ (List.mem_of_getElem? (i := 2) rfl)) (hYbξ _ (List.mem_of_getElem? (i := 28) rfl)) (by decide)))).trans ((zp_set_ne (Or.inr (by decide))).trans ((zp_set_ne (Or.inr (by decide))).trans (((zM_G hMξ (hYbξ _ (List.mem_of_getElem? (i := 2) rfl)) 0).trans (zM_F hMξ (hFbξ _ (List.mem_of_getElem? (i := 25) rfl))))))))))))))) ?_
            refine zp_load (pc := 33) hx hb (zd_X2_sleep (33, .iload_n 1, 1, 0, []) (List.mem_of_getElem? (i := 20) rfl)) rfl (j := 0) rfl ?_
            refine zp_iald (j := 4) (v := (V 50 (2000 + 4))) (pc := 34) hx hb hwξ (zd_X2_sleep (34, .iaload, 1, 0, []) (List.mem_of_getElem? (i := 21) rfl)) (show zp_ia 1 17 = some (6, 0, 0, (-2147483648), 2147483647) from rfl) (zM_P hMξ (hYbξ _ (List.mem_of_getElem? (i := 28) rfl))) (by omega) (by omega) ((zp_set_ne (Or.inl (zM_ne hMξ (hYbξ _ (List.mem_of_getElem? (i := 28) rfl)) (hYbξ _ (List.mem_of_getElem? (i := 29) rfl)) (by decide)))).trans ((zp_set_ne (Or.inr (by omega))).trans ((zp_set_ne (Or.inl (zM_ne hMξ (hYbξ _ (List.mem_of_getElem? (i := 28) rfl)) (hYbξ _ (List.mem_of_getElem? (i := 29) rfl)) (by decide)))).trans ((zp_set_ne (Or.inr (by omega))).trans ((zp_set_ne (Or.inl (zM_ne hMξ (hYbξ _ (List.mem_of_getElem? (i := 28) rfl)) (hYbξ _ (List.mem_of_getElem? (i := 29) rfl)) (by decide)))).trans ((zp_set_ne (Or.inr (by omega))).trans ((zp_set_ne (Or.inl (zM_ne hMξ (hYbξ _ (List.mem_of_getElem? (i := 28) rfl)) (hYbξ _ (List.mem_of_getElem? (i := 29) rfl)) (by decide)))).trans ((zp_set_ne (Or.inr (by omega))).trans ((zp_set_ne (Or.inl (zM_ne hMξ (hYbξ _ (List.mem_of_getElem? (i := 28) rfl)) (hYbξ _ (List.mem_of_getElem? (i := 2) rfl)) (by decide)))).trans ((zp_set_ne (Or.inl (zM_ne hMξ (hYbξ _ (List.mem_of_getElem? (i := 28) rfl)) (hYbξ _ (List.mem_of_getElem? (i := 2) rfl)) (by decide)))).trans (((zM_G hMξ (hYbξ _ (List.mem_of_getElem? (i := 28) rfl)) (2000 + 4)).trans (hVξ 50 (2000 + 4) (by decide)))))))))))))) (fun hk359ξ => ?_)
            have hk359bξ := zp_int hk359ξ
            clear hk359ξ
            have hb360ξ := hoiξ 4 (by omega)
            refine zp_const (pc := 35) hx hb (zd_X2_sleep (35, .iconst 1, 1, 0, []) (List.mem_of_getElem? (i := 22) rfl)) rfl rfl ?_
            refine zp_sub (n := ((V 50 (2000 + 4)) - 1)) (pc := 36) hx hb (zd_X2_sleep (36, .isub, 1, 0, []) (List.mem_of_getElem? (i := 23) rfl)) (by omega) (zp_r0 (by omega) (by omega)) ?_
            refine zp_mm (n := (max 0 ((V 50 (2000 + 4)) - 1))) (S := [(0, 4), (2, (A 50 : Int))]) (pc := 37) hx hb hEξ hrmξ (zd_X2_sleep (37, .invokestatic 41, 3, 0, []) (List.mem_of_getElem? (i := 24) rfl)) (j := 9) rfl (Or.inl ⟨rfl, by omega⟩) ⟨by decide, Nat.le_of_ble_eq_true rfl⟩ ?_
            refine zp_iast (j := 4) (pc := 40) hx hb hwξ heffξ (zd_X2_sleep (40, .iastore, 1, 0, []) (List.mem_of_getElem? (i := 25) rfl)) (show zp_ia 1 17 = some (6, 0, 0, (-2147483648), 2147483647) from rfl) (zM_P hMξ (hYbξ _ (List.mem_of_getElem? (i := 28) rfl))) (by omega) (by omega) (zp_o0 (by omega) (by omega) (by omega) (by omega)) rfl ?_
            refine zp_load (pc := 41) hx hb (zd_X2_sleep (41, .aload_n 0, 1, 0, []) (List.mem_of_getElem? (i := 26) rfl)) rfl (j := 1) rfl ?_
            refine zp_getf (n := (A 51 : Int)) (pc := 42) hx hb hEξ hwξ (zd_X2_sleep (42, .getfield 15, 3, 0, []) (List.mem_of_getElem? (i := 27) rfl)) (j := 2) rfl rfl rfl (zM_P hMξ (hYbξ _ (List.mem_of_getElem? (i := 2) rfl))) ((zp_set_ne (Or.inl (zM_ne hMξ (hYbξ _ (List.mem_of_getElem? (i := 2) rfl)) (hYbξ _ (List.mem_of_getElem? (i := 28) rfl)) (by decide)))).trans ((zp_set_ne (Or.inl (zM_ne hMξ (hYbξ _ (List.mem_of_getElem? (i := 2) rfl)) (hYbξ _ (List.mem_of_getElem? (i := 29) rfl)) (by decide)))).trans ((zp_set_ne (Or.inl (zM_ne hMξ (hYbξ _ (List.mem_of_getElem? (i := 2) rfl)) (hYbξ _ (List.mem_of_getElem? (i := 28) rfl)) (by decide)))).trans ((zp_set_ne (Or.inl (zM_ne hMξ (hYbξ _ (List.mem_of_getElem? (i := 2) rfl)) (hYbξ _ (List.mem_of_getElem? (i := 29) rfl)) (by decide)))).trans ((zp_set_ne (Or.inl (zM_ne hMξ (hYbξ _ (List.mem_of_getElem? (i := 2) rfl)) (hYbξ _ (List.mem_of_getElem? (i := 28) rfl)) (by decide)))).trans ((zp_set_ne (Or.inl (zM_ne hMξ (hYbξ _ (List.mem_of_getElem? (i := 2) rfl)) (hYbξ _ (List.mem_of_getElem? (i := 29) rfl)) (by decide)))).trans ((zp_set_ne (Or.inl (zM_ne hMξ (hYbξ _ (List.mem_of_getElem? (i := 2) rfl)) (hYbξ _ (List.mem_of_getElem? (i := 28) rfl)) (by decide)))).trans ((zp_set_ne (Or.inl (zM_ne hMξ (hYbξ _ (List.mem_of_getElem? (i := 2) rfl)) (hYbξ _ (List.mem_of_getElem? (i := 29) rfl)) (by decide)))).trans ((zp_set_ne (Or.inl (zM_ne hMξ (hYbξ _ (List.mem_of_getElem? (i := 2) rfl)) (hYbξ _ (List.mem_of_getElem? (i := 28) rfl)) (by decide)))).trans ((zp_set_ne (Or.inr (by decide))).trans ((zp_set_ne (Or.inr (by decide))).trans (((zM_G hMξ (hYbξ _ (List.mem_of_getElem? (i := 2) rfl)) 1).trans (zM_F hMξ (hFbξ _ (List.mem_of_getElem? (i := 26) rfl)))))))))))))))) ?_
            refine zp_load (pc := 45) hx hb (zd_X2_sleep (45, .iload_n 1, 1, 0, []) (List.mem_of_getElem? (i := 28) rfl)) rfl (j := 0) rfl ?_
            refine zp_const (pc := 46) hx hb (zd_X2_sleep (46, .iconst 0, 1, 0, []) (List.mem_of_getElem? (i := 29) rfl)) rfl rfl ?_
            refine zp_load (pc := 47) hx hb (zd_X2_sleep (47, .aload_n 0, 1, 0, []) (List.mem_of_getElem? (i := 30) rfl)) rfl (j := 1) rfl ?_
            refine zp_getf (n := (A 51 : Int)) (pc := 48) hx hb hEξ hwξ (zd_X2_sleep (48, .getfield 15, 3, 0, []) (List.mem_of_getElem? (i := 31) rfl)) (j := 2) rfl rfl rfl (zM_P hMξ (hYbξ _ (List.mem_of_getElem? (i := 2) rfl))) ((zp_set_ne (Or.inl (zM_ne hMξ (hYbξ _ (List.mem_of_getElem? (i := 2) rfl)) (hYbξ _ (List.mem_of_getElem? (i := 28) rfl)) (by decide)))).trans ((zp_set_ne (Or.inl (zM_ne hMξ (hYbξ _ (List.mem_of_getElem? (i := 2) rfl)) (hYbξ _ (List.mem_of_getElem? (i := 29) rfl)) (by decide)))).trans ((zp_set_ne (Or.inl (zM_ne hMξ (hYbξ _ (List.mem_of_getElem? (i := 2) rfl)) (hYbξ _ (List.mem_of_getElem? (i := 28) rfl)) (by decide)))).trans ((zp_set_ne (Or.inl (zM_ne hMξ (hYbξ _ (List.mem_of_getElem? (i := 2) rfl)) (hYbξ _ (List.mem_of_getElem? (i := 29) rfl)) (by decide)))).trans ((zp_set_ne (Or.inl (zM_ne hMξ (hYbξ _ (List.mem_of_getElem? (i := 2) rfl)) (hYbξ _ (List.mem_of_getElem? (i := 28) rfl)) (by decide)))).trans ((zp_set_ne (Or.inl (zM_ne hMξ (hYbξ _ (List.mem_of_getElem? (i := 2) rfl)) (hYbξ _ (List.mem_of_getElem? (i := 29) rfl)) (by decide)))).trans ((zp_set_ne (Or.inl (zM_ne hMξ (hYbξ _ (List.mem_of_getElem? (i := 2) rfl)) (hYbξ _ (List.mem_of_getElem? (i := 28) rfl)) (by decide)))).trans ((zp_set_ne (Or.inl (zM_ne hMξ (hYbξ _ (List.mem_of_getElem? (i := 2) rfl)) (hYbξ _ (List.mem_of_getElem? (i := 29) rfl)) (by decide)))).trans ((zp_set_ne (Or.inl (zM_ne hMξ (hYbξ _ (List.mem_of_getElem? (i := 2) rfl)) (hYbξ _ (List.mem_of_getElem? (i := 28) rfl)) (by decide)))).trans ((zp_set_ne (Or.inr (by decide))).trans ((zp_set_ne (Or.inr (by decide))).trans (((zM_G hMξ (hYbξ _ (List.mem_of_getElem? (i := 2) rfl)) 1).trans (zM_F hMξ (hFbξ _ (List.mem_of_getElem? (i := 26) rfl)))))))))))))))) ?_
            refine zp_load (pc := 51) hx hb (zd_X2_sleep (51, .iload_n 1, 1, 0, []) (List.mem_of_getElem? (i := 32) rfl)) rfl (j := 0) rfl ?_
            refine zp_iald (j := 4) (v := (V 51 (2000 + 4))) (pc := 52) hx hb hwξ (zd_X2_sleep (52, .iaload, 1, 0, []) (List.mem_of_getElem? (i := 33) rfl)) (show zp_ia 1 18 = some (6, 0, 0, 0, 45) from rfl) (zM_P hMξ (hYbξ _ (List.mem_of_getElem? (i := 29) rfl))) (by omega) (by omega) ((zp_set_ne (Or.inl (zM_ne hMξ (hYbξ _ (List.mem_of_getElem? (i := 29) rfl)) (hYbξ _ (List.mem_of_getElem? (i := 28) rfl)) (by decide)))).trans ((zp_set_ne (Or.inr (by omega))).trans ((zp_set_ne (Or.inl (zM_ne hMξ (hYbξ _ (List.mem_of_getElem? (i := 29) rfl)) (hYbξ _ (List.mem_of_getElem? (i := 28) rfl)) (by decide)))).trans ((zp_set_ne (Or.inr (by omega))).trans ((zp_set_ne (Or.inl (zM_ne hMξ (hYbξ _ (List.mem_of_getElem? (i := 29) rfl)) (hYbξ _ (List.mem_of_getElem? (i := 28) rfl)) (by decide)))).trans ((zp_set_ne (Or.inr (by omega))).trans ((zp_set_ne (Or.inl (zM_ne hMξ (hYbξ _ (List.mem_of_getElem? (i := 29) rfl)) (hYbξ _ (List.mem_of_getElem? (i := 28) rfl)) (by decide)))).trans ((zp_set_ne (Or.inr (by omega))).trans ((zp_set_ne (Or.inl (zM_ne hMξ (hYbξ _ (List.mem_of_getElem? (i := 29) rfl)) (hYbξ _ (List.mem_of_getElem? (i := 28) rfl)) (by decide)))).trans ((zp_set_ne (Or.inl (zM_ne hMξ (hYbξ _ (List.mem_of_getElem? (i := 29) rfl)) (hYbξ _ (List.mem_of_getElem? (i := 2) rfl)) (by decide)))).trans ((zp_set_ne (Or.inl (zM_ne hMξ (hYbξ _ (List.mem_of_getElem? (i := 29) rfl)) (hYbξ _ (List.mem_of_getElem? (i := 2) rfl)) (by decide)))).trans (((zM_G hMξ (hYbξ _ (List.mem_of_getElem? (i := 29) rfl)) (2000 + 4)).trans (hVξ 51 (2000 + 4) (by decide))))))))))))))) (fun hk361ξ => ?_)
            have hk361bξ := zp_int hk361ξ
            clear hk361ξ
            refine zp_const (pc := 53) hx hb (zd_X2_sleep (53, .iconst 1, 1, 0, []) (List.mem_of_getElem? (i := 34) rfl)) rfl rfl ?_
            refine zp_sub (n := ((V 51 (2000 + 4)) - 1)) (pc := 54) hx hb (zd_X2_sleep (54, .isub, 1, 0, []) (List.mem_of_getElem? (i := 35) rfl)) (by omega) (zp_r0 (by omega) (by omega)) ?_
            refine zp_mm (n := (max 0 ((V 51 (2000 + 4)) - 1))) (S := [(0, 4), (2, (A 51 : Int))]) (pc := 55) hx hb hEξ hrmξ (zd_X2_sleep (55, .invokestatic 41, 3, 0, []) (List.mem_of_getElem? (i := 36) rfl)) (j := 9) rfl (Or.inl ⟨rfl, by omega⟩) ⟨by decide, Nat.le_of_ble_eq_true rfl⟩ ?_
            refine zp_iast (j := 4) (pc := 58) hx hb hwξ heffξ (zd_X2_sleep (58, .iastore, 1, 0, []) (List.mem_of_getElem? (i := 37) rfl)) (show zp_ia 1 18 = some (6, 0, 0, 0, 45) from rfl) (zM_P hMξ (hYbξ _ (List.mem_of_getElem? (i := 29) rfl))) (by omega) (by omega) (zp_o0 (by omega) (by omega) (by omega) (by omega)) rfl ?_
            refine zp_iinc (L' := [(1, 0, 5), (0, 2, (A 2 : Int))]) (n := 5) (pc := 59) hx hb hnLξ (zd_X2_sleep (59, .iinc 1 1, 3, 0, []) (List.mem_of_getElem? (i := 38) rfl)) (j := 0) rfl (by omega) (zp_r0 (by omega) (by omega)) rfl rfl ?_
            refine zp_goto (tgt := 17) (pc := 62) hx hb (zd_X2_sleep (62, .goto (-45), 3, 0, []) (List.mem_of_getElem? (i := 39) rfl)) rfl ?_
            refine zp_load (pc := 17) hx hb (zd_X2_sleep (17, .iload_n 1, 1, 0, []) (List.mem_of_getElem? (i := 11) rfl)) rfl (j := 0) rfl ?_
            refine zp_const (pc := 18) hx hb (zd_X2_sleep (18, .bipush 6, 2, 0, []) (List.mem_of_getElem? (i := 12) rfl)) rfl rfl ?_
            refine zp_icmp (pc := 20) (tgt := 65) hx hb (zd_X2_sleep (20, .if_icmp .ge 45, 3, 0, []) (List.mem_of_getElem? (i := 13) rfl)) rfl (fun (hc362ξ : 6 ≤ (5 : Int)) => ?_) (fun (hc362ξ : ¬ (6 ≤ (5 : Int))) => ?_)
            · exfalso
              omega
            · refine zp_load (pc := 23) hx hb (zd_X2_sleep (23, .aload_n 0, 1, 0, []) (List.mem_of_getElem? (i := 14) rfl)) rfl (j := 1) rfl ?_
              refine zp_getf (n := (A 50 : Int)) (pc := 24) hx hb hEξ hwξ (zd_X2_sleep (24, .getfield 9, 3, 0, []) (List.mem_of_getElem? (i := 15) rfl)) (j := 1) rfl rfl rfl (zM_P hMξ (hYbξ _ (List.mem_of_getElem? (i := 2) rfl))) ((zp_set_ne (Or.inl (zM_ne hMξ (hYbξ _ (List.mem_of_getElem? (i := 2) rfl)) (hYbξ _ (List.mem_of_getElem? (i := 29) rfl)) (by decide)))).trans ((zp_set_ne (Or.inl (zM_ne hMξ (hYbξ _ (List.mem_of_getElem? (i := 2) rfl)) (hYbξ _ (List.mem_of_getElem? (i := 28) rfl)) (by decide)))).trans ((zp_set_ne (Or.inl (zM_ne hMξ (hYbξ _ (List.mem_of_getElem? (i := 2) rfl)) (hYbξ _ (List.mem_of_getElem? (i := 29) rfl)) (by decide)))).trans ((zp_set_ne (Or.inl (zM_ne hMξ (hYbξ _ (List.mem_of_getElem? (i := 2) rfl)) (hYbξ _ (List.mem_of_getElem? (i := 28) rfl)) (by decide)))).trans ((zp_set_ne (Or.inl (zM_ne hMξ (hYbξ _ (List.mem_of_getElem? (i := 2) rfl)) (hYbξ _ (List.mem_of_getElem? (i := 29) rfl)) (by decide)))).trans ((zp_set_ne (Or.inl (zM_ne hMξ (hYbξ _ (List.mem_of_getElem? (i := 2) rfl)) (hYbξ _ (List.mem_of_getElem? (i := 28) rfl)) (by decide)))).trans ((zp_set_ne (Or.inl (zM_ne hMξ (hYbξ _ (List.mem_of_getElem? (i := 2) rfl)) (hYbξ _ (List.mem_of_getElem? (i := 29) rfl)) (by decide)))).trans ((zp_set_ne (Or.inl (zM_ne hMξ (hYbξ _ (List.mem_of_getElem? (i := 2) rfl)) (hYbξ _ (List.mem_of_getElem? (i := 28) rfl)) (by decide)))).trans ((zp_set_ne (Or.inl (zM_ne hMξ (hYbξ _ (List.mem_of_getElem? (i := 2) rfl)) (hYbξ _ (List.mem_of_getElem? (i := 29) rfl)) (by decide)))).trans ((zp_set_ne (Or.inl (zM_ne hMξ (hYbξ _ (List.mem_of_getElem? (i := 2) rfl)) (hYbξ _ (List.mem_of_getElem? (i := 28) rfl)) (by decide)))).trans ((zp_set_ne (Or.inr (by decide))).trans ((zp_set_ne (Or.inr (by decide))).trans (((zM_G hMξ (hYbξ _ (List.mem_of_getElem? (i := 2) rfl)) 0).trans (zM_F hMξ (hFbξ _ (List.mem_of_getElem? (i := 25) rfl))))))))))))))))) ?_
              refine zp_load (pc := 27) hx hb (zd_X2_sleep (27, .iload_n 1, 1, 0, []) (List.mem_of_getElem? (i := 16) rfl)) rfl (j := 0) rfl ?_
              refine zp_const (pc := 28) hx hb (zd_X2_sleep (28, .iconst 0, 1, 0, []) (List.mem_of_getElem? (i := 17) rfl)) rfl rfl ?_
              refine zp_load (pc := 29) hx hb (zd_X2_sleep (29, .aload_n 0, 1, 0, []) (List.mem_of_getElem? (i := 18) rfl)) rfl (j := 1) rfl ?_
              refine zp_getf (n := (A 50 : Int)) (pc := 30) hx hb hEξ hwξ (zd_X2_sleep (30, .getfield 9, 3, 0, []) (List.mem_of_getElem? (i := 19) rfl)) (j := 1) rfl rfl rfl (zM_P hMξ (hYbξ _ (List.mem_of_getElem? (i := 2) rfl))) ((zp_set_ne (Or.inl (zM_ne hMξ (hYbξ _ (List.mem_of_getElem? (i := 2) rfl)) (hYbξ _ (List.mem_of_getElem? (i := 29) rfl)) (by decide)))).trans ((zp_set_ne (Or.inl (zM_ne hMξ (hYbξ _ (List.mem_of_getElem? (i := 2) rfl)) (hYbξ _ (List.mem_of_getElem? (i := 28) rfl)) (by decide)))).trans ((zp_set_ne (Or.inl (zM_ne hMξ (hYbξ _ (List.mem_of_getElem? (i := 2) rfl)) (hYbξ _ (List.mem_of_getElem? (i := 29) rfl)) (by decide)))).trans ((zp_set_ne (Or.inl (zM_ne hMξ (hYbξ _ (List.mem_of_getElem? (i := 2) rfl)) (hYbξ _ (List.mem_of_getElem? (i := 28) rfl)) (by decide)))).trans ((zp_set_ne (Or.inl (zM_ne hMξ (hYbξ _ (List.mem_of_getElem? (i := 2) rfl)) (hYbξ _ (List.mem_of_getElem? (i := 29) rfl)) (by decide)))).trans ((zp_set_ne (Or.inl (zM_ne hMξ (hYbξ _ (List.mem_of_getElem? (i := 2) rfl)) (hYbξ _ (List.mem_of_getElem? (i := 28) rfl)) (by decide)))).trans ((zp_set_ne (Or.inl (zM_ne hMξ (hYbξ _ (List.mem_of_getElem? (i := 2) rfl)) (hYbξ _ (List.mem_of_getElem? (i := 29) rfl)) (by decide)))).trans ((zp_set_ne (Or.inl (zM_ne hMξ (hYbξ _ (List.mem_of_getElem? (i := 2) rfl)) (hYbξ _ (List.mem_of_getElem? (i := 28) rfl)) (by decide)))).trans ((zp_set_ne (Or.inl (zM_ne hMξ (hYbξ _ (List.mem_of_getElem? (i := 2) rfl)) (hYbξ _ (List.mem_of_getElem? (i := 29) rfl)) (by decide)))).trans ((zp_set_ne (Or.inl (zM_ne hMξ (hYbξ _ (List.mem_of_getElem? (i := 2) rfl)) (hYbξ _ (List.mem_of_getElem? (i := 28) rfl)) (by decide)))).trans ((zp_set_ne (Or.inr (by decide))).trans ((zp_set_ne (Or.inr (by decide))).trans (((zM_G hMξ (hYbξ _ (List.mem_of_getElem? (i := 2) rfl)) 0).trans (zM_F hMξ (hFbξ _ (List.mem_of_getElem? (i := 25) rfl))))))))))))))))) ?_
              refine zp_load (pc := 33) hx hb (zd_X2_sleep (33, .iload_n 1, 1, 0, []) (List.mem_of_getElem? (i := 20) rfl)) rfl (j := 0) rfl ?_
              refine zp_iald (j := 5) (v := (V 50 (2000 + 5))) (pc := 34) hx hb hwξ (zd_X2_sleep (34, .iaload, 1, 0, []) (List.mem_of_getElem? (i := 21) rfl)) (show zp_ia 1 17 = some (6, 0, 0, (-2147483648), 2147483647) from rfl) (zM_P hMξ (hYbξ _ (List.mem_of_getElem? (i := 28) rfl))) (by omega) (by omega) ((zp_set_ne (Or.inl (zM_ne hMξ (hYbξ _ (List.mem_of_getElem? (i := 28) rfl)) (hYbξ _ (List.mem_of_getElem? (i := 29) rfl)) (by decide)))).trans ((zp_set_ne (Or.inr (by omega))).trans ((zp_set_ne (Or.inl (zM_ne hMξ (hYbξ _ (List.mem_of_getElem? (i := 28) rfl)) (hYbξ _ (List.mem_of_getElem? (i := 29) rfl)) (by decide)))).trans ((zp_set_ne (Or.inr (by omega))).trans ((zp_set_ne (Or.inl (zM_ne hMξ (hYbξ _ (List.mem_of_getElem? (i := 28) rfl)) (hYbξ _ (List.mem_of_getElem? (i := 29) rfl)) (by decide)))).trans ((zp_set_ne (Or.inr (by omega))).trans ((zp_set_ne (Or.inl (zM_ne hMξ (hYbξ _ (List.mem_of_getElem? (i := 28) rfl)) (hYbξ _ (List.mem_of_getElem? (i := 29) rfl)) (by decide)))).trans ((zp_set_ne (Or.inr (by omega))).trans ((zp_set_ne (Or.inl (zM_ne hMξ (hYbξ _ (List.mem_of_getElem? (i := 28) rfl)) (hYbξ _ (List.mem_of_getElem? (i := 29) rfl)) (by decide)))).trans ((zp_set_ne (Or.inr (by omega))).trans ((zp_set_ne (Or.inl (zM_ne hMξ (hYbξ _ (List.mem_of_getElem? (i := 28) rfl)) (hYbξ _ (List.mem_of_getElem? (i := 2) rfl)) (by decide)))).trans ((zp_set_ne (Or.inl (zM_ne hMξ (hYbξ _ (List.mem_of_getElem? (i := 28) rfl)) (hYbξ _ (List.mem_of_getElem? (i := 2) rfl)) (by decide)))).trans (((zM_G hMξ (hYbξ _ (List.mem_of_getElem? (i := 28) rfl)) (2000 + 5)).trans (hVξ 50 (2000 + 5) (by decide)))))))))))))))) (fun hk363ξ => ?_)
              have hk363bξ := zp_int hk363ξ
              clear hk363ξ
              have hb364ξ := hoiξ 5 (by omega)
              refine zp_const (pc := 35) hx hb (zd_X2_sleep (35, .iconst 1, 1, 0, []) (List.mem_of_getElem? (i := 22) rfl)) rfl rfl ?_
              refine zp_sub (n := ((V 50 (2000 + 5)) - 1)) (pc := 36) hx hb (zd_X2_sleep (36, .isub, 1, 0, []) (List.mem_of_getElem? (i := 23) rfl)) (by omega) (zp_r0 (by omega) (by omega)) ?_
              refine zp_mm (n := (max 0 ((V 50 (2000 + 5)) - 1))) (S := [(0, 5), (2, (A 50 : Int))]) (pc := 37) hx hb hEξ hrmξ (zd_X2_sleep (37, .invokestatic 41, 3, 0, []) (List.mem_of_getElem? (i := 24) rfl)) (j := 9) rfl (Or.inl ⟨rfl, by omega⟩) ⟨by decide, Nat.le_of_ble_eq_true rfl⟩ ?_
              refine zp_iast (j := 5) (pc := 40) hx hb hwξ heffξ (zd_X2_sleep (40, .iastore, 1, 0, []) (List.mem_of_getElem? (i := 25) rfl)) (show zp_ia 1 17 = some (6, 0, 0, (-2147483648), 2147483647) from rfl) (zM_P hMξ (hYbξ _ (List.mem_of_getElem? (i := 28) rfl))) (by omega) (by omega) (zp_o0 (by omega) (by omega) (by omega) (by omega)) rfl ?_
              refine zp_load (pc := 41) hx hb (zd_X2_sleep (41, .aload_n 0, 1, 0, []) (List.mem_of_getElem? (i := 26) rfl)) rfl (j := 1) rfl ?_
              refine zp_getf (n := (A 51 : Int)) (pc := 42) hx hb hEξ hwξ (zd_X2_sleep (42, .getfield 15, 3, 0, []) (List.mem_of_getElem? (i := 27) rfl)) (j := 2) rfl rfl rfl (zM_P hMξ (hYbξ _ (List.mem_of_getElem? (i := 2) rfl))) ((zp_set_ne (Or.inl (zM_ne hMξ (hYbξ _ (List.mem_of_getElem? (i := 2) rfl)) (hYbξ _ (List.mem_of_getElem? (i := 28) rfl)) (by decide)))).trans ((zp_set_ne (Or.inl (zM_ne hMξ (hYbξ _ (List.mem_of_getElem? (i := 2) rfl)) (hYbξ _ (List.mem_of_getElem? (i := 29) rfl)) (by decide)))).trans ((zp_set_ne (Or.inl (zM_ne hMξ (hYbξ _ (List.mem_of_getElem? (i := 2) rfl)) (hYbξ _ (List.mem_of_getElem? (i := 28) rfl)) (by decide)))).trans ((zp_set_ne (Or.inl (zM_ne hMξ (hYbξ _ (List.mem_of_getElem? (i := 2) rfl)) (hYbξ _ (List.mem_of_getElem? (i := 29) rfl)) (by decide)))).trans ((zp_set_ne (Or.inl (zM_ne hMξ (hYbξ _ (List.mem_of_getElem? (i := 2) rfl)) (hYbξ _ (List.mem_of_getElem? (i := 28) rfl)) (by decide)))).trans ((zp_set_ne (Or.inl (zM_ne hMξ (hYbξ _ (List.mem_of_getElem? (i := 2) rfl)) (hYbξ _ (List.mem_of_getElem? (i := 29) rfl)) (by decide)))).trans ((zp_set_ne (Or.inl (zM_ne hMξ (hYbξ _ (List.mem_of_getElem? (i := 2) rfl)) (hYbξ _ (List.mem_of_getElem? (i := 28) rfl)) (by decide)))).trans ((zp_set_ne (Or.inl (zM_ne hMξ (hYbξ _ (List.mem_of_getElem? (i := 2) rfl)) (hYbξ _ (List.mem_of_getElem? (i := 29) rfl)) (by decide)))).trans ((zp_set_ne (Or.inl (zM_ne hMξ (hYbξ _ (List.mem_of_getElem? (i := 2) rfl)) (hYbξ _ (List.mem_of_getElem? (i := 28) rfl)) (by decide)))).trans ((zp_set_ne (Or.inl (zM_ne hMξ (hYbξ _ (List.mem_of_getElem? (i := 2) rfl)) (hYbξ _ (List.mem_of_getElem? (i := 29) rfl)) (by decide)))).trans ((zp_set_ne (Or.inl (zM_ne hMξ (hYbξ _ (List.mem_of_getElem? (i := 2) rfl)) (hYbξ _ (List.mem_of_getElem? (i := 28) rfl)) (by decide)))).trans ((zp_set_ne (Or.inr (by decide))).trans ((zp_set_ne (Or.inr (by decide))).trans (((zM_G hMξ (hYbξ _ (List.mem_of_getElem? (i := 2) rfl)) 1).trans (zM_F hMξ (hFbξ _ (List.mem_of_getElem? (i := 26) rfl)))))))))))))))))) ?_
              refine zp_load (pc := 45) hx hb (zd_X2_sleep (45, .iload_n 1, 1, 0, []) (List.mem_of_getElem? (i := 28) rfl)) rfl (j := 0) rfl ?_
              refine zp_const (pc := 46) hx hb (zd_X2_sleep (46, .iconst 0, 1, 0, []) (List.mem_of_getElem? (i := 29) rfl)) rfl rfl ?_
              refine zp_load (pc := 47) hx hb (zd_X2_sleep (47, .aload_n 0, 1, 0, []) (List.mem_of_getElem? (i := 30) rfl)) rfl (j := 1) rfl ?_
              refine zp_getf (n := (A 51 : Int)) (pc := 48) hx hb hEξ hwξ (zd_X2_sleep (48, .getfield 15, 3, 0, []) (List.mem_of_getElem? (i := 31) rfl)) (j := 2) rfl rfl rfl (zM_P hMξ (hYbξ _ (List.mem_of_getElem? (i := 2) rfl))) ((zp_set_ne (Or.inl (zM_ne hMξ (hYbξ _ (List.mem_of_getElem? (i := 2) rfl)) (hYbξ _ (List.mem_of_getElem? (i := 28) rfl)) (by decide)))).trans ((zp_set_ne (Or.inl (zM_ne hMξ (hYbξ _ (List.mem_of_getElem? (i := 2) rfl)) (hYbξ _ (List.mem_of_getElem? (i := 29) rfl)) (by decide)))).trans ((zp_set_ne (Or.inl (zM_ne hMξ (hYbξ _ (List.mem_of_getElem? (i := 2) rfl)) (hYbξ _ (List.mem_of_getElem? (i := 28) rfl)) (by decide)))).trans ((zp_set_ne (Or.inl (zM_ne hMξ (hYbξ _ (List.mem_of_getElem? (i := 2) rfl)) (hYbξ _ (List.mem_of_getElem? (i := 29) rfl)) (by decide)))).trans ((zp_set_ne (Or.inl (zM_ne hMξ (hYbξ _ (List.mem_of_getElem? (i := 2) rfl)) (hYbξ _ (List.mem_of_getElem? (i := 28) rfl)) (by decide)))).trans ((zp_set_ne (Or.inl (zM_ne hMξ (hYbξ _ (List.mem_of_getElem? (i := 2) rfl)) (hYbξ _ (List.mem_of_getElem? (i := 29) rfl)) (by decide)))).trans ((zp_set_ne (Or.inl (zM_ne hMξ (hYbξ _ (List.mem_of_getElem? (i := 2) rfl)) (hYbξ _ (List.mem_of_getElem? (i := 28) rfl)) (by decide)))).trans ((zp_set_ne (Or.inl (zM_ne hMξ (hYbξ _ (List.mem_of_getElem? (i := 2) rfl)) (hYbξ _ (List.mem_of_getElem? (i := 29) rfl)) (by decide)))).trans ((zp_set_ne (Or.inl (zM_ne hMξ (hYbξ _ (List.mem_of_getElem? (i := 2) rfl)) (hYbξ _ (List.mem_of_getElem? (i := 28) rfl)) (by decide)))).trans ((zp_set_ne (Or.inl (zM_ne hMξ (hYbξ _ (List.mem_of_getElem? (i := 2) rfl)) (hYbξ _ (List.mem_of_getElem? (i := 29) rfl)) (by decide)))).trans ((zp_set_ne (Or.inl (zM_ne hMξ (hYbξ _ (List.mem_of_getElem? (i := 2) rfl)) (hYbξ _ (List.mem_of_getElem? (i := 28) rfl)) (by decide)))).trans ((zp_set_ne (Or.inr (by decide))).trans ((zp_set_ne (Or.inr (by decide))).trans (((zM_G hMξ (hYbξ _ (List.mem_of_getElem? (i := 2) rfl)) 1).trans (zM_F hMξ (hFbξ _ (List.mem_of_getElem? (i := 26) rfl)))))))))))))))))) ?_
              refine zp_load (pc := 51) hx hb (zd_X2_sleep (51, .iload_n 1, 1, 0, []) (List.mem_of_getElem? (i := 32) rfl)) rfl (j := 0) rfl ?_
              refine zp_iald (j := 5) (v := (V 51 (2000 + 5))) (pc := 52) hx hb hwξ (zd_X2_sleep (52, .iaload, 1, 0, []) (List.mem_of_getElem? (i := 33) rfl)) (show zp_ia 1 18 = some (6, 0, 0, 0, 45) from rfl) (zM_P hMξ (hYbξ _ (List.mem_of_getElem? (i := 29) rfl))) (by omega) (by omega) ((zp_set_ne (Or.inl (zM_ne hMξ (hYbξ _ (List.mem_of_getElem? (i := 29) rfl)) (hYbξ _ (List.mem_of_getElem? (i := 28) rfl)) (by decide)))).trans ((zp_set_ne (Or.inr (by omega))).trans ((zp_set_ne (Or.inl (zM_ne hMξ (hYbξ _ (List.mem_of_getElem? (i := 29) rfl)) (hYbξ _ (List.mem_of_getElem? (i := 28) rfl)) (by decide)))).trans ((zp_set_ne (Or.inr (by omega))).trans ((zp_set_ne (Or.inl (zM_ne hMξ (hYbξ _ (List.mem_of_getElem? (i := 29) rfl)) (hYbξ _ (List.mem_of_getElem? (i := 28) rfl)) (by decide)))).trans ((zp_set_ne (Or.inr (by omega))).trans ((zp_set_ne (Or.inl (zM_ne hMξ (hYbξ _ (List.mem_of_getElem? (i := 29) rfl)) (hYbξ _ (List.mem_of_getElem? (i := 28) rfl)) (by decide)))).trans ((zp_set_ne (Or.inr (by omega))).trans ((zp_set_ne (Or.inl (zM_ne hMξ (hYbξ _ (List.mem_of_getElem? (i := 29) rfl)) (hYbξ _ (List.mem_of_getElem? (i := 28) rfl)) (by decide)))).trans ((zp_set_ne (Or.inr (by omega))).trans ((zp_set_ne (Or.inl (zM_ne hMξ (hYbξ _ (List.mem_of_getElem? (i := 29) rfl)) (hYbξ _ (List.mem_of_getElem? (i := 28) rfl)) (by decide)))).trans ((zp_set_ne (Or.inl (zM_ne hMξ (hYbξ _ (List.mem_of_getElem? (i := 29) rfl)) (hYbξ _ (List.mem_of_getElem? (i := 2) rfl)) (by decide)))).trans ((zp_set_ne (Or.inl (zM_ne hMξ (hYbξ _ (List.mem_of_getElem? (i := 29) rfl)) (hYbξ _ (List.mem_of_getElem? (i := 2) rfl)) (by decide)))).trans (((zM_G hMξ (hYbξ _ (List.mem_of_getElem? (i := 29) rfl)) (2000 + 5)).trans (hVξ 51 (2000 + 5) (by decide))))))))))))))))) (fun hk365ξ => ?_)
              have hk365bξ := zp_int hk365ξ
              clear hk365ξ
              refine zp_const (pc := 53) hx hb (zd_X2_sleep (53, .iconst 1, 1, 0, []) (List.mem_of_getElem? (i := 34) rfl)) rfl rfl ?_
              refine zp_sub (n := ((V 51 (2000 + 5)) - 1)) (pc := 54) hx hb (zd_X2_sleep (54, .isub, 1, 0, []) (List.mem_of_getElem? (i := 35) rfl)) (by omega) (zp_r0 (by omega) (by omega)) ?_
              refine zp_mm (n := (max 0 ((V 51 (2000 + 5)) - 1))) (S := [(0, 5), (2, (A 51 : Int))]) (pc := 55) hx hb hEξ hrmξ (zd_X2_sleep (55, .invokestatic 41, 3, 0, []) (List.mem_of_getElem? (i := 36) rfl)) (j := 9) rfl (Or.inl ⟨rfl, by omega⟩) ⟨by decide, Nat.le_of_ble_eq_true rfl⟩ ?_
              refine zp_iast (j := 5) (pc := 58) hx hb hwξ heffξ (zd_X2_sleep (58, .iastore, 1, 0, []) (List.mem_of_getElem? (i := 37) rfl)) (show zp_ia 1 18 = some (6, 0, 0, 0, 45) from rfl) (zM_P hMξ (hYbξ _ (List.mem_of_getElem? (i := 29) rfl))) (by omega) (by omega) (zp_o0 (by omega) (by omega) (by omega) (by omega)) rfl ?_
              refine zp_iinc (L' := [(1, 0, 6), (0, 2, (A 2 : Int))]) (n := 6) (pc := 59) hx hb hnLξ (zd_X2_sleep (59, .iinc 1 1, 3, 0, []) (List.mem_of_getElem? (i := 38) rfl)) (j := 0) rfl (by omega) (zp_r0 (by omega) (by omega)) rfl rfl ?_
              refine zp_goto (tgt := 17) (pc := 62) hx hb (zd_X2_sleep (62, .goto (-45), 3, 0, []) (List.mem_of_getElem? (i := 39) rfl)) rfl ?_
              refine zp_load (pc := 17) hx hb (zd_X2_sleep (17, .iload_n 1, 1, 0, []) (List.mem_of_getElem? (i := 11) rfl)) rfl (j := 0) rfl ?_
              refine zp_const (pc := 18) hx hb (zd_X2_sleep (18, .bipush 6, 2, 0, []) (List.mem_of_getElem? (i := 12) rfl)) rfl rfl ?_
              refine zp_icmp (pc := 20) (tgt := 65) hx hb (zd_X2_sleep (20, .if_icmp .ge 45, 3, 0, []) (List.mem_of_getElem? (i := 13) rfl)) rfl (fun (hc366ξ : 6 ≤ (6 : Int)) => ?_) (fun (hc366ξ : ¬ (6 ≤ (6 : Int))) => ?_)
              · refine zp_vret (pc := 65) hx hb hEξ hQξ hU5ξ rfl (by decide) (zd_X2_sleep (65, .return_, 1, 0, []) (List.mem_of_getElem? (i := 40) rfl)) (j := 0) rfl ?_
                rw [hpsξ]
                refine ⟨rfl, ?_⟩
                have hffξ : zf_slp2 V = (0, (zp_set (zp_set (zp_set (zp_set (zp_set (zp_set (zp_set (zp_set (zp_set (zp_set (zp_set (zp_set (zp_set (zp_set V 2 6 ((V 2 6) + 1)) 2 5 (-1)) 50 (2000 + 0) (max 0 ((V 50 (2000 + 0)) - 1))) 51 (2000 + 0) (max 0 ((V 51 (2000 + 0)) - 1))) 50 (2000 + 1) (max 0 ((V 50 (2000 + 1)) - 1))) 51 (2000 + 1) (max 0 ((V 51 (2000 + 1)) - 1))) 50 (2000 + 2) (max 0 ((V 50 (2000 + 2)) - 1))) 51 (2000 + 2) (max 0 ((V 51 (2000 + 2)) - 1))) 50 (2000 + 3) (max 0 ((V 50 (2000 + 3)) - 1))) 51 (2000 + 3) (max 0 ((V 51 (2000 + 3)) - 1))) 50 (2000 + 4) (max 0 ((V 50 (2000 + 4)) - 1))) 51 (2000 + 4) (max 0 ((V 51 (2000 + 4)) - 1))) 50 (2000 + 5) (max 0 ((V 50 (2000 + 5)) - 1))) 51 (2000 + 5) (max 0 ((V 51 (2000 + 5)) - 1)))) := rfl
                show zMVc A Y F (zf_slp2 V).2 u.1 (zp_set (zp_set (zp_set (zp_set (zp_set (zp_set (zp_set (zp_set (zp_set (zp_set (zp_set (zp_set (zp_set (zp_set (zp_n u.2.1) (A 2) 6 ((V 2 6) + 1)) (A 2) 5 (-1)) (A 50) (2000 + 0) (max 0 ((V 50 (2000 + 0)) - 1))) (A 51) (2000 + 0) (max 0 ((V 51 (2000 + 0)) - 1))) (A 50) (2000 + 1) (max 0 ((V 50 (2000 + 1)) - 1))) (A 51) (2000 + 1) (max 0 ((V 51 (2000 + 1)) - 1))) (A 50) (2000 + 2) (max 0 ((V 50 (2000 + 2)) - 1))) (A 51) (2000 + 2) (max 0 ((V 51 (2000 + 2)) - 1))) (A 50) (2000 + 3) (max 0 ((V 50 (2000 + 3)) - 1))) (A 51) (2000 + 3) (max 0 ((V 51 (2000 + 3)) - 1))) (A 50) (2000 + 4) (max 0 ((V 50 (2000 + 4)) - 1))) (A 51) (2000 + 4) (max 0 ((V 51 (2000 + 4)) - 1))) (A 50) (2000 + 5) (max 0 ((V 50 (2000 + 5)) - 1))) (A 51) (2000 + 5) (max 0 ((V 51 (2000 + 5)) - 1)))
                rw [hffξ]
                exact ⟨(zp_set (zp_set (zp_set (zp_set (zp_set (zp_set (zp_set (zp_set (zp_set (zp_set (zp_set (zp_set (zp_set (zp_set M 2 6 ((V 2 6) + 1)) 2 5 (-1)) 50 (2000 + 0) (max 0 ((V 50 (2000 + 0)) - 1))) 51 (2000 + 0) (max 0 ((V 51 (2000 + 0)) - 1))) 50 (2000 + 1) (max 0 ((V 50 (2000 + 1)) - 1))) 51 (2000 + 1) (max 0 ((V 51 (2000 + 1)) - 1))) 50 (2000 + 2) (max 0 ((V 50 (2000 + 2)) - 1))) 51 (2000 + 2) (max 0 ((V 51 (2000 + 2)) - 1))) 50 (2000 + 3) (max 0 ((V 50 (2000 + 3)) - 1))) 51 (2000 + 3) (max 0 ((V 51 (2000 + 3)) - 1))) 50 (2000 + 4) (max 0 ((V 50 (2000 + 4)) - 1))) 51 (2000 + 4) (max 0 ((V 51 (2000 + 4)) - 1))) 50 (2000 + 5) (max 0 ((V 50 (2000 + 5)) - 1))) 51 (2000 + 5) (max 0 ((V 51 (2000 + 5)) - 1))), (zM_setE (zM_setE (zM_setE (zM_setE (zM_setE (zM_setE (zM_setE (zM_setE (zM_setE (zM_setE (zM_setE (zM_setE (zM_set (zM_set hMξ (hYbξ _ (List.mem_of_getElem? (i := 2) rfl)) (zFx hFxξ (o := 2) (k := 6) (by decide) (by decide))) (hYbξ _ (List.mem_of_getElem? (i := 2) rfl)) (zFx hFxξ (o := 2) (k := 5) (by decide) (by decide))) (hYbξ _ (List.mem_of_getElem? (i := 28) rfl))) (hYbξ _ (List.mem_of_getElem? (i := 29) rfl))) (hYbξ _ (List.mem_of_getElem? (i := 28) rfl))) (hYbξ _ (List.mem_of_getElem? (i := 29) rfl))) (hYbξ _ (List.mem_of_getElem? (i := 28) rfl))) (hYbξ _ (List.mem_of_getElem? (i := 29) rfl))) (hYbξ _ (List.mem_of_getElem? (i := 28) rfl))) (hYbξ _ (List.mem_of_getElem? (i := 29) rfl))) (hYbξ _ (List.mem_of_getElem? (i := 28) rfl))) (hYbξ _ (List.mem_of_getElem? (i := 29) rfl))) (hYbξ _ (List.mem_of_getElem? (i := 28) rfl))) (hYbξ _ (List.mem_of_getElem? (i := 29) rfl))), (zV_set (zV_set (zV_set (zV_set (zV_set (zV_set (zV_set (zV_set (zV_set (zV_set (zV_set (zV_set (zV_set (zV_set hVξ)))))))))))))), trivial⟩
              · exfalso
                omega
theorem zf_slp2_f {V : Nat → Nat → Int} {o k : Nat} (h9ξ : o ∉ ([2, 50, 51] : List Nat)) : (zf_slp2 V).2 o k = V o k := by
  unfold zf_slp2
  show (zp_set (zp_set (zp_set (zp_set (zp_set (zp_set (zp_set (zp_set (zp_set (zp_set (zp_set (zp_set (zp_set (zp_set V 2 6 ((V 2 6) + 1)) 2 5 (-1)) 50 (2000 + 0) (max 0 ((V 50 (2000 + 0)) - 1))) 51 (2000 + 0) (max 0 ((V 51 (2000 + 0)) - 1))) 50 (2000 + 1) (max 0 ((V 50 (2000 + 1)) - 1))) 51 (2000 + 1) (max 0 ((V 51 (2000 + 1)) - 1))) 50 (2000 + 2) (max 0 ((V 50 (2000 + 2)) - 1))) 51 (2000 + 2) (max 0 ((V 51 (2000 + 2)) - 1))) 50 (2000 + 3) (max 0 ((V 50 (2000 + 3)) - 1))) 51 (2000 + 3) (max 0 ((V 51 (2000 + 3)) - 1))) 50 (2000 + 4) (max 0 ((V 50 (2000 + 4)) - 1))) 51 (2000 + 4) (max 0 ((V 51 (2000 + 4)) - 1))) 50 (2000 + 5) (max 0 ((V 50 (2000 + 5)) - 1))) 51 (2000 + 5) (max 0 ((V 51 (2000 + 5)) - 1))) o k = V o k
  exact ((zp_set_ne (Or.inl (zc_nin h9ξ (by decide)))).trans ((zp_set_ne (Or.inl (zc_nin h9ξ (by decide)))).trans ((zp_set_ne (Or.inl (zc_nin h9ξ (by decide)))).trans ((zp_set_ne (Or.inl (zc_nin h9ξ (by decide)))).trans ((zp_set_ne (Or.inl (zc_nin h9ξ (by decide)))).trans ((zp_set_ne (Or.inl (zc_nin h9ξ (by decide)))).trans ((zp_set_ne (Or.inl (zc_nin h9ξ (by decide)))).trans ((zp_set_ne (Or.inl (zc_nin h9ξ (by decide)))).trans ((zp_set_ne (Or.inl (zc_nin h9ξ (by decide)))).trans ((zp_set_ne (Or.inl (zc_nin h9ξ (by decide)))).trans ((zp_set_ne (Or.inl (zc_nin h9ξ (by decide)))).trans ((zp_set_ne (Or.inl (zc_nin h9ξ (by decide)))).trans ((zp_set_ne (Or.inl (zc_nin h9ξ (by decide)))).trans (zp_set_ne (Or.inl (zc_nin h9ξ (by decide)))))))))))))))))
def zf_slp7 (V : Nat → Nat → Int) : Int × (Nat → Nat → Int) := (0, (zp_set (zp_set (zp_set (zp_set (zp_set (zp_set (zp_set (zp_set (zp_set (zp_set (zp_set (zp_set (zp_set (zp_set V 7 6 ((V 7 6) + 1)) 7 5 (-1)) 53 (2000 + 0) (max 0 ((V 53 (2000 + 0)) - 1))) 54 (2000 + 0) (max 0 ((V 54 (2000 + 0)) - 1))) 53 (2000 + 1) (max 0 ((V 53 (2000 + 1)) - 1))) 54 (2000 + 1) (max 0 ((V 54 (2000 + 1)) - 1))) 53 (2000 + 2) (max 0 ((V 53 (2000 + 2)) - 1))) 54 (2000 + 2) (max 0 ((V 54 (2000 + 2)) - 1))) 53 (2000 + 3) (max 0 ((V 53 (2000 + 3)) - 1))) 54 (2000 + 3) (max 0 ((V 54 (2000 + 3)) - 1))) 53 (2000 + 4) (max 0 ((V 53 (2000 + 4)) - 1))) 54 (2000 + 4) (max 0 ((V 54 (2000 + 4)) - 1))) 53 (2000 + 5) (max 0 ((V 53 (2000 + 5)) - 1))) 54 (2000 + 5) (max 0 ((V 54 (2000 + 5)) - 1))))
def zK_slp7 : zk_K := (zt_mn 112, prog_4_method_7_code, 2, (Option.none : Option Jvm.ClassFile.FieldType), 1, 2, [(2, 2, 0, 0)], [(none, [])], [(2, 5, 0), (2, 6, 0), (17, 1001, 0), (18, 1001, 0)], (1, 60, 0, 0))
def zφ_slp7 (A : Nat → Nat) (Y : List (Nat × Nat)) (F : List (Nat × Nat × Nat)) (V : Nat → Nat → Int) : (Nat → Option Nat) → (Nat → Nat → Int) → List Int → Prop := fun P G ps => zMVc A Y F V P G ∧ ps.getD 0 0 = (A 7 : Int) ∧ zMc Y F ∧ 0 ≤ V 7 6 ∧ V 7 6 ≤ 9999 ∧ ∀ j, j < 6 → 0 ≤ V 53 (2000 + j) ∧ V 53 (2000 + j) ≤ 9
def zψ_slp7 (A : Nat → Nat) (Y : List (Nat × Nat)) (F : List (Nat × Nat × Nat)) (V : Nat → Nat → Int) : (Nat → Option Nat) → (Nat → Nat → Int) → List Int → (Nat → Option Nat) → (Nat → Nat → Int) → Int → Prop := fun P G ps P' G' rn => P' = P ∧ zMVc A Y F (zf_slp7 V).2 P' G'
theorem zX_slp7 {l : Launch} {w : zk_W} (hWξ : zh_W w) (A : Nat → Nat) (Y : List (Nat × Nat)) (F : List (Nat × Nat × Nat)) (V : Nat → Nat → Int) : zk_metX l w zt_dv zt_TB zK_slp7 (zp_A (zφ_slp7 A Y F V)) (zp_B (zψ_slp7 A Y F V)) ∧ zk_cok w zt_TB zK_slp7 := by
  refine zp_methX (cn := "WoundTown$Going") zp_lkallG hWξ (pl := 1029) rfl (by decide +kernel) (fun p e R s m args below meth c Q u hx hb hEξ hQξ hU5ξ heffξ hnLξ hokξ hφ => ?_)
  have hwξ := hWξ.1
  obtain ⟨p0ξ, hpsξ, tk0⟩ := zp_ps1 hokξ
  have hrmξ : zk_Kr (zk_ev (zt_types, zp_lkG, zt_dv, [], [], zp_lcG, zK_slp7)) = zk_Kr zK_slp7 := rfl
  rw [hpsξ] at hφ ⊢
  have hφ : zMVc A Y F V u.1 (zp_n u.2.1) ∧ p0ξ = (A 7 : Int) ∧ zMc Y F ∧ 0 ≤ V 7 6 ∧ V 7 6 ≤ 9999 ∧ ∀ j, j < 6 → 0 ≤ V 53 (2000 + j) ∧ V 53 (2000 + j) ≤ 9 := hφ
  obtain ⟨⟨M, hMξ, hVξ, hSbξ⟩, rfl, hYFξ, hdy0ξ, hdy1ξ, hoiξ⟩ := hφ
  have hYF0ξ := hYFξ
  obtain ⟨hYbξ, hFbξ, hFxξ, -⟩ := hYFξ
  show zp_J p l e R s m args below meth c Q w u [] 0 [(0, 2, (A 7 : Int))] [] u.1 (zp_n u.2.1)
  refine zp_load (pc := 0) hx hb (zd_X2_sleep (0, .aload_n 0, 1, 0, []) (List.mem_of_getElem? (i := 0) rfl)) rfl (j := 0) rfl ?_
  refine zp_dup (pc := 1) hx hb (zd_X2_sleep (1, .dup, 1, 0, []) (List.mem_of_getElem? (i := 1) rfl)) (show (2 : Nat) ≠ 1 by decide) ?_
  refine zp_getf (n := (V 7 6)) (pc := 2) hx hb hEξ hwξ (zd_X2_sleep (2, .getfield 38, 3, 0, []) (List.mem_of_getElem? (i := 2) rfl)) (j := 7) rfl rfl rfl (zM_P hMξ (hYbξ _ (List.mem_of_getElem? (i := 7) rfl))) ((zM_G hMξ (hYbξ _ (List.mem_of_getElem? (i := 7) rfl)) 6).trans (hVξ 7 6 (by decide))) ?_
  refine zp_kn (k := 6) (a := (A 7)) hwξ (show zp_fd 2 6 = some (2, 0, 0, (-2147483648), 2147483647) from rfl) rfl (zM_P hMξ (hYbξ _ (List.mem_of_getElem? (i := 7) rfl))) (fun hf367ξ => ?_)
  have hf367bξ := zp_int hf367ξ
  rw [((zM_G hMξ (hYbξ _ (List.mem_of_getElem? (i := 7) rfl)) 6).trans (hVξ 7 6 (by decide)))] at hf367bξ
  clear hf367ξ
  refine zp_const (pc := 5) hx hb (zd_X2_sleep (5, .iconst 1, 1, 0, []) (List.mem_of_getElem? (i := 3) rfl)) rfl rfl ?_
  refine zp_add (n := ((V 7 6) + 1)) (pc := 6) hx hb (zd_X2_sleep (6, .iadd, 1, 0, []) (List.mem_of_getElem? (i := 4) rfl)) (by omega) (zp_r0 (by omega) (by omega)) ?_
  refine zp_putf (pc := 7) hx hb hEξ hwξ heffξ (zd_X2_sleep (7, .putfield 38, 3, 0, []) (List.mem_of_getElem? (i := 5) rfl)) (j := 7) rfl rfl rfl (zM_P hMξ (hYbξ _ (List.mem_of_getElem? (i := 7) rfl))) (zp_o0 (by omega) (by omega) (by omega) (by omega)) ?_
  refine zp_load (pc := 10) hx hb (zd_X2_sleep (10, .aload_n 0, 1, 0, []) (List.mem_of_getElem? (i := 6) rfl)) rfl (j := 0) rfl ?_
  refine zp_const (pc := 11) hx hb (zd_X2_sleep (11, .iconst (-1), 1, 0, []) (List.mem_of_getElem? (i := 7) rfl)) rfl rfl ?_
  refine zp_putf (pc := 12) hx hb hEξ hwξ heffξ (zd_X2_sleep (12, .putfield 25, 3, 0, []) (List.mem_of_getElem? (i := 8) rfl)) (j := 6) rfl rfl rfl (zM_P hMξ (hYbξ _ (List.mem_of_getElem? (i := 7) rfl))) (zp_o0 (by decide) (by decide) (by decide) (by decide)) ?_
  refine zp_const (pc := 15) hx hb (zd_X2_sleep (15, .iconst 0, 1, 0, []) (List.mem_of_getElem? (i := 9) rfl)) rfl rfl ?_
  refine zp_store (L' := [(1, 0, 0), (0, 2, (A 7 : Int))]) (pc := 16) hx hb hnLξ (zd_X2_sleep (16, .istore_n 1, 1, 0, []) (List.mem_of_getElem? (i := 10) rfl)) rfl rfl rfl ?_
  refine zp_load (pc := 17) hx hb (zd_X2_sleep (17, .iload_n 1, 1, 0, []) (List.mem_of_getElem? (i := 11) rfl)) rfl (j := 0) rfl ?_
  refine zp_const (pc := 18) hx hb (zd_X2_sleep (18, .bipush 6, 2, 0, []) (List.mem_of_getElem? (i := 12) rfl)) rfl rfl ?_
  refine zp_icmp (pc := 20) (tgt := 65) hx hb (zd_X2_sleep (20, .if_icmp .ge 45, 3, 0, []) (List.mem_of_getElem? (i := 13) rfl)) rfl (fun (hc368ξ : 6 ≤ (0 : Int)) => ?_) (fun (hc368ξ : ¬ (6 ≤ (0 : Int))) => ?_)
  · exfalso
    omega
  · refine zp_load (pc := 23) hx hb (zd_X2_sleep (23, .aload_n 0, 1, 0, []) (List.mem_of_getElem? (i := 14) rfl)) rfl (j := 1) rfl ?_
    refine zp_getf (n := (A 53 : Int)) (pc := 24) hx hb hEξ hwξ (zd_X2_sleep (24, .getfield 9, 3, 0, []) (List.mem_of_getElem? (i := 15) rfl)) (j := 1) rfl rfl rfl (zM_P hMξ (hYbξ _ (List.mem_of_getElem? (i := 7) rfl))) ((zp_set_ne (Or.inr (by decide))).trans ((zp_set_ne (Or.inr (by decide))).trans (((zM_G hMξ (hYbξ _ (List.mem_of_getElem? (i := 7) rfl)) 0).trans (zM_F hMξ (hFbξ _ (List.mem_of_getElem? (i := 28) rfl))))))) ?_
    refine zp_load (pc := 27) hx hb (zd_X2_sleep (27, .iload_n 1, 1, 0, []) (List.mem_of_getElem? (i := 16) rfl)) rfl (j := 0) rfl ?_
    refine zp_const (pc := 28) hx hb (zd_X2_sleep (28, .iconst 0, 1, 0, []) (List.mem_of_getElem? (i := 17) rfl)) rfl rfl ?_
    refine zp_load (pc := 29) hx hb (zd_X2_sleep (29, .aload_n 0, 1, 0, []) (List.mem_of_getElem? (i := 18) rfl)) rfl (j := 1) rfl ?_
    refine zp_getf (n := (A 53 : Int)) (pc := 30) hx hb hEξ hwξ (zd_X2_sleep (30, .getfield 9, 3, 0, []) (List.mem_of_getElem? (i := 19) rfl)) (j := 1) rfl rfl rfl (zM_P hMξ (hYbξ _ (List.mem_of_getElem? (i := 7) rfl))) ((zp_set_ne (Or.inr (by decide))).trans ((zp_set_ne (Or.inr (by decide))).trans (((zM_G hMξ (hYbξ _ (List.mem_of_getElem? (i := 7) rfl)) 0).trans (zM_F hMξ (hFbξ _ (List.mem_of_getElem? (i := 28) rfl))))))) ?_
    refine zp_load (pc := 33) hx hb (zd_X2_sleep (33, .iload_n 1, 1, 0, []) (List.mem_of_getElem? (i := 20) rfl)) rfl (j := 0) rfl ?_
    refine zp_iald (j := 0) (v := (V 53 (2000 + 0))) (pc := 34) hx hb hwξ (zd_X2_sleep (34, .iaload, 1, 0, []) (List.mem_of_getElem? (i := 21) rfl)) (show zp_ia 1 17 = some (6, 0, 0, (-2147483648), 2147483647) from rfl) (zM_P hMξ (hYbξ _ (List.mem_of_getElem? (i := 31) rfl))) (by omega) (by omega) ((zp_set_ne (Or.inl (zM_ne hMξ (hYbξ _ (List.mem_of_getElem? (i := 31) rfl)) (hYbξ _ (List.mem_of_getElem? (i := 7) rfl)) (by decide)))).trans ((zp_set_ne (Or.inl (zM_ne hMξ (hYbξ _ (List.mem_of_getElem? (i := 31) rfl)) (hYbξ _ (List.mem_of_getElem? (i := 7) rfl)) (by decide)))).trans (((zM_G hMξ (hYbξ _ (List.mem_of_getElem? (i := 31) rfl)) (2000 + 0)).trans (hVξ 53 (2000 + 0) (by decide)))))) (fun hk369ξ => ?_)
    have hk369bξ := zp_int hk369ξ
    clear hk369ξ
    have hb370ξ := hoiξ 0 (by omega)
    refine zp_const (pc := 35) hx hb (zd_X2_sleep (35, .iconst 1, 1, 0, []) (List.mem_of_getElem? (i := 22) rfl)) rfl rfl ?_
    refine zp_sub (n := ((V 53 (2000 + 0)) - 1)) (pc := 36) hx hb (zd_X2_sleep (36, .isub, 1, 0, []) (List.mem_of_getElem? (i := 23) rfl)) (by omega) (zp_r0 (by omega) (by omega)) ?_
    refine zp_mm (n := (max 0 ((V 53 (2000 + 0)) - 1))) (S := [(0, 0), (2, (A 53 : Int))]) (pc := 37) hx hb hEξ hrmξ (zd_X2_sleep (37, .invokestatic 41, 3, 0, []) (List.mem_of_getElem? (i := 24) rfl)) (j := 9) rfl (Or.inl ⟨rfl, by omega⟩) ⟨by decide, Nat.le_of_ble_eq_true rfl⟩ ?_
    refine zp_iast (j := 0) (pc := 40) hx hb hwξ heffξ (zd_X2_sleep (40, .iastore, 1, 0, []) (List.mem_of_getElem? (i := 25) rfl)) (show zp_ia 1 17 = some (6, 0, 0, (-2147483648), 2147483647) from rfl) (zM_P hMξ (hYbξ _ (List.mem_of_getElem? (i := 31) rfl))) (by omega) (by omega) (zp_o0 (by omega) (by omega) (by omega) (by omega)) rfl ?_
    refine zp_load (pc := 41) hx hb (zd_X2_sleep (41, .aload_n 0, 1, 0, []) (List.mem_of_getElem? (i := 26) rfl)) rfl (j := 1) rfl ?_
    refine zp_getf (n := (A 54 : Int)) (pc := 42) hx hb hEξ hwξ (zd_X2_sleep (42, .getfield 15, 3, 0, []) (List.mem_of_getElem? (i := 27) rfl)) (j := 2) rfl rfl rfl (zM_P hMξ (hYbξ _ (List.mem_of_getElem? (i := 7) rfl))) ((zp_set_ne (Or.inl (zM_ne hMξ (hYbξ _ (List.mem_of_getElem? (i := 7) rfl)) (hYbξ _ (List.mem_of_getElem? (i := 31) rfl)) (by decide)))).trans ((zp_set_ne (Or.inr (by decide))).trans ((zp_set_ne (Or.inr (by decide))).trans (((zM_G hMξ (hYbξ _ (List.mem_of_getElem? (i := 7) rfl)) 1).trans (zM_F hMξ (hFbξ _ (List.mem_of_getElem? (i := 29) rfl)))))))) ?_
    refine zp_load (pc := 45) hx hb (zd_X2_sleep (45, .iload_n 1, 1, 0, []) (List.mem_of_getElem? (i := 28) rfl)) rfl (j := 0) rfl ?_
    refine zp_const (pc := 46) hx hb (zd_X2_sleep (46, .iconst 0, 1, 0, []) (List.mem_of_getElem? (i := 29) rfl)) rfl rfl ?_
    refine zp_load (pc := 47) hx hb (zd_X2_sleep (47, .aload_n 0, 1, 0, []) (List.mem_of_getElem? (i := 30) rfl)) rfl (j := 1) rfl ?_
    refine zp_getf (n := (A 54 : Int)) (pc := 48) hx hb hEξ hwξ (zd_X2_sleep (48, .getfield 15, 3, 0, []) (List.mem_of_getElem? (i := 31) rfl)) (j := 2) rfl rfl rfl (zM_P hMξ (hYbξ _ (List.mem_of_getElem? (i := 7) rfl))) ((zp_set_ne (Or.inl (zM_ne hMξ (hYbξ _ (List.mem_of_getElem? (i := 7) rfl)) (hYbξ _ (List.mem_of_getElem? (i := 31) rfl)) (by decide)))).trans ((zp_set_ne (Or.inr (by decide))).trans ((zp_set_ne (Or.inr (by decide))).trans (((zM_G hMξ (hYbξ _ (List.mem_of_getElem? (i := 7) rfl)) 1).trans (zM_F hMξ (hFbξ _ (List.mem_of_getElem? (i := 29) rfl)))))))) ?_
    refine zp_load (pc := 51) hx hb (zd_X2_sleep (51, .iload_n 1, 1, 0, []) (List.mem_of_getElem? (i := 32) rfl)) rfl (j := 0) rfl ?_
    refine zp_iald (j := 0) (v := (V 54 (2000 + 0))) (pc := 52) hx hb hwξ (zd_X2_sleep (52, .iaload, 1, 0, []) (List.mem_of_getElem? (i := 33) rfl)) (show zp_ia 1 18 = some (6, 0, 0, 0, 45) from rfl) (zM_P hMξ (hYbξ _ (List.mem_of_getElem? (i := 32) rfl))) (by omega) (by omega) ((zp_set_ne (Or.inl (zM_ne hMξ (hYbξ _ (List.mem_of_getElem? (i := 32) rfl)) (hYbξ _ (List.mem_of_getElem? (i := 31) rfl)) (by decide)))).trans ((zp_set_ne (Or.inl (zM_ne hMξ (hYbξ _ (List.mem_of_getElem? (i := 32) rfl)) (hYbξ _ (List.mem_of_getElem? (i := 7) rfl)) (by decide)))).trans ((zp_set_ne (Or.inl (zM_ne hMξ (hYbξ _ (List.mem_of_getElem? (i := 32) rfl)) (hYbξ _ (List.mem_of_getElem? (i := 7) rfl)) (by decide)))).trans (((zM_G hMξ (hYbξ _ (List.mem_of_getElem? (i := 32) rfl)) (2000 + 0)).trans (hVξ 54 (2000 + 0) (by decide))))))) (fun hk371ξ => ?_)
    have hk371bξ := zp_int hk371ξ
    clear hk371ξ
    refine zp_const (pc := 53) hx hb (zd_X2_sleep (53, .iconst 1, 1, 0, []) (List.mem_of_getElem? (i := 34) rfl)) rfl rfl ?_
    refine zp_sub (n := ((V 54 (2000 + 0)) - 1)) (pc := 54) hx hb (zd_X2_sleep (54, .isub, 1, 0, []) (List.mem_of_getElem? (i := 35) rfl)) (by omega) (zp_r0 (by omega) (by omega)) ?_
    refine zp_mm (n := (max 0 ((V 54 (2000 + 0)) - 1))) (S := [(0, 0), (2, (A 54 : Int))]) (pc := 55) hx hb hEξ hrmξ (zd_X2_sleep (55, .invokestatic 41, 3, 0, []) (List.mem_of_getElem? (i := 36) rfl)) (j := 9) rfl (Or.inl ⟨rfl, by omega⟩) ⟨by decide, Nat.le_of_ble_eq_true rfl⟩ ?_
    refine zp_iast (j := 0) (pc := 58) hx hb hwξ heffξ (zd_X2_sleep (58, .iastore, 1, 0, []) (List.mem_of_getElem? (i := 37) rfl)) (show zp_ia 1 18 = some (6, 0, 0, 0, 45) from rfl) (zM_P hMξ (hYbξ _ (List.mem_of_getElem? (i := 32) rfl))) (by omega) (by omega) (zp_o0 (by omega) (by omega) (by omega) (by omega)) rfl ?_
    refine zp_iinc (L' := [(1, 0, 1), (0, 2, (A 7 : Int))]) (n := 1) (pc := 59) hx hb hnLξ (zd_X2_sleep (59, .iinc 1 1, 3, 0, []) (List.mem_of_getElem? (i := 38) rfl)) (j := 0) rfl (by omega) (zp_r0 (by omega) (by omega)) rfl rfl ?_
    refine zp_goto (tgt := 17) (pc := 62) hx hb (zd_X2_sleep (62, .goto (-45), 3, 0, []) (List.mem_of_getElem? (i := 39) rfl)) rfl ?_
    refine zp_load (pc := 17) hx hb (zd_X2_sleep (17, .iload_n 1, 1, 0, []) (List.mem_of_getElem? (i := 11) rfl)) rfl (j := 0) rfl ?_
    refine zp_const (pc := 18) hx hb (zd_X2_sleep (18, .bipush 6, 2, 0, []) (List.mem_of_getElem? (i := 12) rfl)) rfl rfl ?_
    refine zp_icmp (pc := 20) (tgt := 65) hx hb (zd_X2_sleep (20, .if_icmp .ge 45, 3, 0, []) (List.mem_of_getElem? (i := 13) rfl)) rfl (fun (hc372ξ : 6 ≤ (1 : Int)) => ?_) (fun (hc372ξ : ¬ (6 ≤ (1 : Int))) => ?_)
    · exfalso
      omega
    · refine zp_load (pc := 23) hx hb (zd_X2_sleep (23, .aload_n 0, 1, 0, []) (List.mem_of_getElem? (i := 14) rfl)) rfl (j := 1) rfl ?_
      refine zp_getf (n := (A 53 : Int)) (pc := 24) hx hb hEξ hwξ (zd_X2_sleep (24, .getfield 9, 3, 0, []) (List.mem_of_getElem? (i := 15) rfl)) (j := 1) rfl rfl rfl (zM_P hMξ (hYbξ _ (List.mem_of_getElem? (i := 7) rfl))) ((zp_set_ne (Or.inl (zM_ne hMξ (hYbξ _ (List.mem_of_getElem? (i := 7) rfl)) (hYbξ _ (List.mem_of_getElem? (i := 32) rfl)) (by decide)))).trans ((zp_set_ne (Or.inl (zM_ne hMξ (hYbξ _ (List.mem_of_getElem? (i := 7) rfl)) (hYbξ _ (List.mem_of_getElem? (i := 31) rfl)) (by decide)))).trans ((zp_set_ne (Or.inr (by decide))).trans ((zp_set_ne (Or.inr (by decide))).trans (((zM_G hMξ (hYbξ _ (List.mem_of_getElem? (i := 7) rfl)) 0).trans (zM_F hMξ (hFbξ _ (List.mem_of_getElem? (i := 28) rfl))))))))) ?_
      refine zp_load (pc := 27) hx hb (zd_X2_sleep (27, .iload_n 1, 1, 0, []) (List.mem_of_getElem? (i := 16) rfl)) rfl (j := 0) rfl ?_
      refine zp_const (pc := 28) hx hb (zd_X2_sleep (28, .iconst 0, 1, 0, []) (List.mem_of_getElem? (i := 17) rfl)) rfl rfl ?_
      refine zp_load (pc := 29) hx hb (zd_X2_sleep (29, .aload_n 0, 1, 0, []) (List.mem_of_getElem? (i := 18) rfl)) rfl (j := 1) rfl ?_
      refine zp_getf (n := (A 53 : Int)) (pc := 30) hx hb hEξ hwξ (zd_X2_sleep (30, .getfield 9, 3, 0, []) (List.mem_of_getElem? (i := 19) rfl)) (j := 1) rfl rfl rfl (zM_P hMξ (hYbξ _ (List.mem_of_getElem? (i := 7) rfl))) ((zp_set_ne (Or.inl (zM_ne hMξ (hYbξ _ (List.mem_of_getElem? (i := 7) rfl)) (hYbξ _ (List.mem_of_getElem? (i := 32) rfl)) (by decide)))).trans ((zp_set_ne (Or.inl (zM_ne hMξ (hYbξ _ (List.mem_of_getElem? (i := 7) rfl)) (hYbξ _ (List.mem_of_getElem? (i := 31) rfl)) (by decide)))).trans ((zp_set_ne (Or.inr (by decide))).trans ((zp_set_ne (Or.inr (by decide))).trans (((zM_G hMξ (hYbξ _ (List.mem_of_getElem? (i := 7) rfl)) 0).trans (zM_F hMξ (hFbξ _ (List.mem_of_getElem? (i := 28) rfl))))))))) ?_
      refine zp_load (pc := 33) hx hb (zd_X2_sleep (33, .iload_n 1, 1, 0, []) (List.mem_of_getElem? (i := 20) rfl)) rfl (j := 0) rfl ?_
      refine zp_iald (j := 1) (v := (V 53 (2000 + 1))) (pc := 34) hx hb hwξ (zd_X2_sleep (34, .iaload, 1, 0, []) (List.mem_of_getElem? (i := 21) rfl)) (show zp_ia 1 17 = some (6, 0, 0, (-2147483648), 2147483647) from rfl) (zM_P hMξ (hYbξ _ (List.mem_of_getElem? (i := 31) rfl))) (by omega) (by omega) ((zp_set_ne (Or.inl (zM_ne hMξ (hYbξ _ (List.mem_of_getElem? (i := 31) rfl)) (hYbξ _ (List.mem_of_getElem? (i := 32) rfl)) (by decide)))).trans ((zp_set_ne (Or.inr (by omega))).trans ((zp_set_ne (Or.inl (zM_ne hMξ (hYbξ _ (List.mem_of_getElem? (i := 31) rfl)) (hYbξ _ (List.mem_of_getElem? (i := 7) rfl)) (by decide)))).trans ((zp_set_ne (Or.inl (zM_ne hMξ (hYbξ _ (List.mem_of_getElem? (i := 31) rfl)) (hYbξ _ (List.mem_of_getElem? (i := 7) rfl)) (by decide)))).trans (((zM_G hMξ (hYbξ _ (List.mem_of_getElem? (i := 31) rfl)) (2000 + 1)).trans (hVξ 53 (2000 + 1) (by decide)))))))) (fun hk373ξ => ?_)
      have hk373bξ := zp_int hk373ξ
      clear hk373ξ
      have hb374ξ := hoiξ 1 (by omega)
      refine zp_const (pc := 35) hx hb (zd_X2_sleep (35, .iconst 1, 1, 0, []) (List.mem_of_getElem? (i := 22) rfl)) rfl rfl ?_
      refine zp_sub (n := ((V 53 (2000 + 1)) - 1)) (pc := 36) hx hb (zd_X2_sleep (36, .isub, 1, 0, []) (List.mem_of_getElem? (i := 23) rfl)) (by omega) (zp_r0 (by omega) (by omega)) ?_
      refine zp_mm (n := (max 0 ((V 53 (2000 + 1)) - 1))) (S := [(0, 1), (2, (A 53 : Int))]) (pc := 37) hx hb hEξ hrmξ (zd_X2_sleep (37, .invokestatic 41, 3, 0, []) (List.mem_of_getElem? (i := 24) rfl)) (j := 9) rfl (Or.inl ⟨rfl, by omega⟩) ⟨by decide, Nat.le_of_ble_eq_true rfl⟩ ?_
      refine zp_iast (j := 1) (pc := 40) hx hb hwξ heffξ (zd_X2_sleep (40, .iastore, 1, 0, []) (List.mem_of_getElem? (i := 25) rfl)) (show zp_ia 1 17 = some (6, 0, 0, (-2147483648), 2147483647) from rfl) (zM_P hMξ (hYbξ _ (List.mem_of_getElem? (i := 31) rfl))) (by omega) (by omega) (zp_o0 (by omega) (by omega) (by omega) (by omega)) rfl ?_
      refine zp_load (pc := 41) hx hb (zd_X2_sleep (41, .aload_n 0, 1, 0, []) (List.mem_of_getElem? (i := 26) rfl)) rfl (j := 1) rfl ?_
      refine zp_getf (n := (A 54 : Int)) (pc := 42) hx hb hEξ hwξ (zd_X2_sleep (42, .getfield 15, 3, 0, []) (List.mem_of_getElem? (i := 27) rfl)) (j := 2) rfl rfl rfl (zM_P hMξ (hYbξ _ (List.mem_of_getElem? (i := 7) rfl))) ((zp_set_ne (Or.inl (zM_ne hMξ (hYbξ _ (List.mem_of_getElem? (i := 7) rfl)) (hYbξ _ (List.mem_of_getElem? (i := 31) rfl)) (by decide)))).trans ((zp_set_ne (Or.inl (zM_ne hMξ (hYbξ _ (List.mem_of_getElem? (i := 7) rfl)) (hYbξ _ (List.mem_of_getElem? (i := 32) rfl)) (by decide)))).trans ((zp_set_ne (Or.inl (zM_ne hMξ (hYbξ _ (List.mem_of_getElem? (i := 7) rfl)) (hYbξ _ (List.mem_of_getElem? (i := 31) rfl)) (by decide)))).trans ((zp_set_ne (Or.inr (by decide))).trans ((zp_set_ne (Or.inr (by decide))).trans (((zM_G hMξ (hYbξ _ (List.mem_of_getElem? (i := 7) rfl)) 1).trans (zM_F hMξ (hFbξ _ (List.mem_of_getElem? (i := 29) rfl)))))))))) ?_
      refine zp_load (pc := 45) hx hb (zd_X2_sleep (45, .iload_n 1, 1, 0, []) (List.mem_of_getElem? (i := 28) rfl)) rfl (j := 0) rfl ?_
      refine zp_const (pc := 46) hx hb (zd_X2_sleep (46, .iconst 0, 1, 0, []) (List.mem_of_getElem? (i := 29) rfl)) rfl rfl ?_
      refine zp_load (pc := 47) hx hb (zd_X2_sleep (47, .aload_n 0, 1, 0, []) (List.mem_of_getElem? (i := 30) rfl)) rfl (j := 1) rfl ?_
      refine zp_getf (n := (A 54 : Int)) (pc := 48) hx hb hEξ hwξ (zd_X2_sleep (48, .getfield 15, 3, 0, []) (List.mem_of_getElem? (i := 31) rfl)) (j := 2) rfl rfl rfl (zM_P hMξ (hYbξ _ (List.mem_of_getElem? (i := 7) rfl))) ((zp_set_ne (Or.inl (zM_ne hMξ (hYbξ _ (List.mem_of_getElem? (i := 7) rfl)) (hYbξ _ (List.mem_of_getElem? (i := 31) rfl)) (by decide)))).trans ((zp_set_ne (Or.inl (zM_ne hMξ (hYbξ _ (List.mem_of_getElem? (i := 7) rfl)) (hYbξ _ (List.mem_of_getElem? (i := 32) rfl)) (by decide)))).trans ((zp_set_ne (Or.inl (zM_ne hMξ (hYbξ _ (List.mem_of_getElem? (i := 7) rfl)) (hYbξ _ (List.mem_of_getElem? (i := 31) rfl)) (by decide)))).trans ((zp_set_ne (Or.inr (by decide))).trans ((zp_set_ne (Or.inr (by decide))).trans (((zM_G hMξ (hYbξ _ (List.mem_of_getElem? (i := 7) rfl)) 1).trans (zM_F hMξ (hFbξ _ (List.mem_of_getElem? (i := 29) rfl)))))))))) ?_
      refine zp_load (pc := 51) hx hb (zd_X2_sleep (51, .iload_n 1, 1, 0, []) (List.mem_of_getElem? (i := 32) rfl)) rfl (j := 0) rfl ?_
      refine zp_iald (j := 1) (v := (V 54 (2000 + 1))) (pc := 52) hx hb hwξ (zd_X2_sleep (52, .iaload, 1, 0, []) (List.mem_of_getElem? (i := 33) rfl)) (show zp_ia 1 18 = some (6, 0, 0, 0, 45) from rfl) (zM_P hMξ (hYbξ _ (List.mem_of_getElem? (i := 32) rfl))) (by omega) (by omega) ((zp_set_ne (Or.inl (zM_ne hMξ (hYbξ _ (List.mem_of_getElem? (i := 32) rfl)) (hYbξ _ (List.mem_of_getElem? (i := 31) rfl)) (by decide)))).trans ((zp_set_ne (Or.inr (by omega))).trans ((zp_set_ne (Or.inl (zM_ne hMξ (hYbξ _ (List.mem_of_getElem? (i := 32) rfl)) (hYbξ _ (List.mem_of_getElem? (i := 31) rfl)) (by decide)))).trans ((zp_set_ne (Or.inl (zM_ne hMξ (hYbξ _ (List.mem_of_getElem? (i := 32) rfl)) (hYbξ _ (List.mem_of_getElem? (i := 7) rfl)) (by decide)))).trans ((zp_set_ne (Or.inl (zM_ne hMξ (hYbξ _ (List.mem_of_getElem? (i := 32) rfl)) (hYbξ _ (List.mem_of_getElem? (i := 7) rfl)) (by decide)))).trans (((zM_G hMξ (hYbξ _ (List.mem_of_getElem? (i := 32) rfl)) (2000 + 1)).trans (hVξ 54 (2000 + 1) (by decide))))))))) (fun hk375ξ => ?_)
      have hk375bξ := zp_int hk375ξ
      clear hk375ξ
      refine zp_const (pc := 53) hx hb (zd_X2_sleep (53, .iconst 1, 1, 0, []) (List.mem_of_getElem? (i := 34) rfl)) rfl rfl ?_
      refine zp_sub (n := ((V 54 (2000 + 1)) - 1)) (pc := 54) hx hb (zd_X2_sleep (54, .isub, 1, 0, []) (List.mem_of_getElem? (i := 35) rfl)) (by omega) (zp_r0 (by omega) (by omega)) ?_
      refine zp_mm (n := (max 0 ((V 54 (2000 + 1)) - 1))) (S := [(0, 1), (2, (A 54 : Int))]) (pc := 55) hx hb hEξ hrmξ (zd_X2_sleep (55, .invokestatic 41, 3, 0, []) (List.mem_of_getElem? (i := 36) rfl)) (j := 9) rfl (Or.inl ⟨rfl, by omega⟩) ⟨by decide, Nat.le_of_ble_eq_true rfl⟩ ?_
      refine zp_iast (j := 1) (pc := 58) hx hb hwξ heffξ (zd_X2_sleep (58, .iastore, 1, 0, []) (List.mem_of_getElem? (i := 37) rfl)) (show zp_ia 1 18 = some (6, 0, 0, 0, 45) from rfl) (zM_P hMξ (hYbξ _ (List.mem_of_getElem? (i := 32) rfl))) (by omega) (by omega) (zp_o0 (by omega) (by omega) (by omega) (by omega)) rfl ?_
      refine zp_iinc (L' := [(1, 0, 2), (0, 2, (A 7 : Int))]) (n := 2) (pc := 59) hx hb hnLξ (zd_X2_sleep (59, .iinc 1 1, 3, 0, []) (List.mem_of_getElem? (i := 38) rfl)) (j := 0) rfl (by omega) (zp_r0 (by omega) (by omega)) rfl rfl ?_
      refine zp_goto (tgt := 17) (pc := 62) hx hb (zd_X2_sleep (62, .goto (-45), 3, 0, []) (List.mem_of_getElem? (i := 39) rfl)) rfl ?_
      refine zp_load (pc := 17) hx hb (zd_X2_sleep (17, .iload_n 1, 1, 0, []) (List.mem_of_getElem? (i := 11) rfl)) rfl (j := 0) rfl ?_
      refine zp_const (pc := 18) hx hb (zd_X2_sleep (18, .bipush 6, 2, 0, []) (List.mem_of_getElem? (i := 12) rfl)) rfl rfl ?_
      refine zp_icmp (pc := 20) (tgt := 65) hx hb (zd_X2_sleep (20, .if_icmp .ge 45, 3, 0, []) (List.mem_of_getElem? (i := 13) rfl)) rfl (fun (hc376ξ : 6 ≤ (2 : Int)) => ?_) (fun (hc376ξ : ¬ (6 ≤ (2 : Int))) => ?_)
      · exfalso
        omega
      · refine zp_load (pc := 23) hx hb (zd_X2_sleep (23, .aload_n 0, 1, 0, []) (List.mem_of_getElem? (i := 14) rfl)) rfl (j := 1) rfl ?_
        refine zp_getf (n := (A 53 : Int)) (pc := 24) hx hb hEξ hwξ (zd_X2_sleep (24, .getfield 9, 3, 0, []) (List.mem_of_getElem? (i := 15) rfl)) (j := 1) rfl rfl rfl (zM_P hMξ (hYbξ _ (List.mem_of_getElem? (i := 7) rfl))) ((zp_set_ne (Or.inl (zM_ne hMξ (hYbξ _ (List.mem_of_getElem? (i := 7) rfl)) (hYbξ _ (List.mem_of_getElem? (i := 32) rfl)) (by decide)))).trans ((zp_set_ne (Or.inl (zM_ne hMξ (hYbξ _ (List.mem_of_getElem? (i := 7) rfl)) (hYbξ _ (List.mem_of_getElem? (i := 31) rfl)) (by decide)))).trans ((zp_set_ne (Or.inl (zM_ne hMξ (hYbξ _ (List.mem_of_getElem? (i := 7) rfl)) (hYbξ _ (List.mem_of_getElem? (i := 32) rfl)) (by decide)))).trans ((zp_set_ne (Or.inl (zM_ne hMξ (hYbξ _ (List.mem_of_getElem? (i := 7) rfl)) (hYbξ _ (List.mem_of_getElem? (i := 31) rfl)) (by decide)))).trans ((zp_set_ne (Or.inr (by decide))).trans ((zp_set_ne (Or.inr (by decide))).trans (((zM_G hMξ (hYbξ _ (List.mem_of_getElem? (i := 7) rfl)) 0).trans (zM_F hMξ (hFbξ _ (List.mem_of_getElem? (i := 28) rfl))))))))))) ?_
        refine zp_load (pc := 27) hx hb (zd_X2_sleep (27, .iload_n 1, 1, 0, []) (List.mem_of_getElem? (i := 16) rfl)) rfl (j := 0) rfl ?_
        refine zp_const (pc := 28) hx hb (zd_X2_sleep (28, .iconst 0, 1, 0, []) (List.mem_of_getElem? (i := 17) rfl)) rfl rfl ?_
        refine zp_load (pc := 29) hx hb (zd_X2_sleep (29, .aload_n 0, 1, 0, []) (List.mem_of_getElem? (i := 18) rfl)) rfl (j := 1) rfl ?_
        refine zp_getf (n := (A 53 : Int)) (pc := 30) hx hb hEξ hwξ (zd_X2_sleep (30, .getfield 9, 3, 0, []) (List.mem_of_getElem? (i := 19) rfl)) (j := 1) rfl rfl rfl (zM_P hMξ (hYbξ _ (List.mem_of_getElem? (i := 7) rfl))) ((zp_set_ne (Or.inl (zM_ne hMξ (hYbξ _ (List.mem_of_getElem? (i := 7) rfl)) (hYbξ _ (List.mem_of_getElem? (i := 32) rfl)) (by decide)))).trans ((zp_set_ne (Or.inl (zM_ne hMξ (hYbξ _ (List.mem_of_getElem? (i := 7) rfl)) (hYbξ _ (List.mem_of_getElem? (i := 31) rfl)) (by decide)))).trans ((zp_set_ne (Or.inl (zM_ne hMξ (hYbξ _ (List.mem_of_getElem? (i := 7) rfl)) (hYbξ _ (List.mem_of_getElem? (i := 32) rfl)) (by decide)))).trans ((zp_set_ne (Or.inl (zM_ne hMξ (hYbξ _ (List.mem_of_getElem? (i := 7) rfl)) (hYbξ _ (List.mem_of_getElem? (i := 31) rfl)) (by decide)))).trans ((zp_set_ne (Or.inr (by decide))).trans ((zp_set_ne (Or.inr (by decide))).trans (((zM_G hMξ (hYbξ _ (List.mem_of_getElem? (i := 7) rfl)) 0).trans (zM_F hMξ (hFbξ _ (List.mem_of_getElem? (i := 28) rfl))))))))))) ?_
        refine zp_load (pc := 33) hx hb (zd_X2_sleep (33, .iload_n 1, 1, 0, []) (List.mem_of_getElem? (i := 20) rfl)) rfl (j := 0) rfl ?_
        refine zp_iald (j := 2) (v := (V 53 (2000 + 2))) (pc := 34) hx hb hwξ (zd_X2_sleep (34, .iaload, 1, 0, []) (List.mem_of_getElem? (i := 21) rfl)) (show zp_ia 1 17 = some (6, 0, 0, (-2147483648), 2147483647) from rfl) (zM_P hMξ (hYbξ _ (List.mem_of_getElem? (i := 31) rfl))) (by omega) (by omega) ((zp_set_ne (Or.inl (zM_ne hMξ (hYbξ _ (List.mem_of_getElem? (i := 31) rfl)) (hYbξ _ (List.mem_of_getElem? (i := 32) rfl)) (by decide)))).trans ((zp_set_ne (Or.inr (by omega))).trans ((zp_set_ne (Or.inl (zM_ne hMξ (hYbξ _ (List.mem_of_getElem? (i := 31) rfl)) (hYbξ _ (List.mem_of_getElem? (i := 32) rfl)) (by decide)))).trans ((zp_set_ne (Or.inr (by omega))).trans ((zp_set_ne (Or.inl (zM_ne hMξ (hYbξ _ (List.mem_of_getElem? (i := 31) rfl)) (hYbξ _ (List.mem_of_getElem? (i := 7) rfl)) (by decide)))).trans ((zp_set_ne (Or.inl (zM_ne hMξ (hYbξ _ (List.mem_of_getElem? (i := 31) rfl)) (hYbξ _ (List.mem_of_getElem? (i := 7) rfl)) (by decide)))).trans (((zM_G hMξ (hYbξ _ (List.mem_of_getElem? (i := 31) rfl)) (2000 + 2)).trans (hVξ 53 (2000 + 2) (by decide)))))))))) (fun hk377ξ => ?_)
        have hk377bξ := zp_int hk377ξ
        clear hk377ξ
        have hb378ξ := hoiξ 2 (by omega)
        refine zp_const (pc := 35) hx hb (zd_X2_sleep (35, .iconst 1, 1, 0, []) (List.mem_of_getElem? (i := 22) rfl)) rfl rfl ?_
        refine zp_sub (n := ((V 53 (2000 + 2)) - 1)) (pc := 36) hx hb (zd_X2_sleep (36, .isub, 1, 0, []) (List.mem_of_getElem? (i := 23) rfl)) (by omega) (zp_r0 (by omega) (by omega)) ?_
        refine zp_mm (n := (max 0 ((V 53 (2000 + 2)) - 1))) (S := [(0, 2), (2, (A 53 : Int))]) (pc := 37) hx hb hEξ hrmξ (zd_X2_sleep (37, .invokestatic 41, 3, 0, []) (List.mem_of_getElem? (i := 24) rfl)) (j := 9) rfl (Or.inl ⟨rfl, by omega⟩) ⟨by decide, Nat.le_of_ble_eq_true rfl⟩ ?_
        refine zp_iast (j := 2) (pc := 40) hx hb hwξ heffξ (zd_X2_sleep (40, .iastore, 1, 0, []) (List.mem_of_getElem? (i := 25) rfl)) (show zp_ia 1 17 = some (6, 0, 0, (-2147483648), 2147483647) from rfl) (zM_P hMξ (hYbξ _ (List.mem_of_getElem? (i := 31) rfl))) (by omega) (by omega) (zp_o0 (by omega) (by omega) (by omega) (by omega)) rfl ?_
        refine zp_load (pc := 41) hx hb (zd_X2_sleep (41, .aload_n 0, 1, 0, []) (List.mem_of_getElem? (i := 26) rfl)) rfl (j := 1) rfl ?_
        refine zp_getf (n := (A 54 : Int)) (pc := 42) hx hb hEξ hwξ (zd_X2_sleep (42, .getfield 15, 3, 0, []) (List.mem_of_getElem? (i := 27) rfl)) (j := 2) rfl rfl rfl (zM_P hMξ (hYbξ _ (List.mem_of_getElem? (i := 7) rfl))) ((zp_set_ne (Or.inl (zM_ne hMξ (hYbξ _ (List.mem_of_getElem? (i := 7) rfl)) (hYbξ _ (List.mem_of_getElem? (i := 31) rfl)) (by decide)))).trans ((zp_set_ne (Or.inl (zM_ne hMξ (hYbξ _ (List.mem_of_getElem? (i := 7) rfl)) (hYbξ _ (List.mem_of_getElem? (i := 32) rfl)) (by decide)))).trans ((zp_set_ne (Or.inl (zM_ne hMξ (hYbξ _ (List.mem_of_getElem? (i := 7) rfl)) (hYbξ _ (List.mem_of_getElem? (i := 31) rfl)) (by decide)))).trans ((zp_set_ne (Or.inl (zM_ne hMξ (hYbξ _ (List.mem_of_getElem? (i := 7) rfl)) (hYbξ _ (List.mem_of_getElem? (i := 32) rfl)) (by decide)))).trans ((zp_set_ne (Or.inl (zM_ne hMξ (hYbξ _ (List.mem_of_getElem? (i := 7) rfl)) (hYbξ _ (List.mem_of_getElem? (i := 31) rfl)) (by decide)))).trans ((zp_set_ne (Or.inr (by decide))).trans ((zp_set_ne (Or.inr (by decide))).trans (((zM_G hMξ (hYbξ _ (List.mem_of_getElem? (i := 7) rfl)) 1).trans (zM_F hMξ (hFbξ _ (List.mem_of_getElem? (i := 29) rfl)))))))))))) ?_
        refine zp_load (pc := 45) hx hb (zd_X2_sleep (45, .iload_n 1, 1, 0, []) (List.mem_of_getElem? (i := 28) rfl)) rfl (j := 0) rfl ?_
        refine zp_const (pc := 46) hx hb (zd_X2_sleep (46, .iconst 0, 1, 0, []) (List.mem_of_getElem? (i := 29) rfl)) rfl rfl ?_
        refine zp_load (pc := 47) hx hb (zd_X2_sleep (47, .aload_n 0, 1, 0, []) (List.mem_of_getElem? (i := 30) rfl)) rfl (j := 1) rfl ?_
        refine zp_getf (n := (A 54 : Int)) (pc := 48) hx hb hEξ hwξ (zd_X2_sleep (48, .getfield 15, 3, 0, []) (List.mem_of_getElem? (i := 31) rfl)) (j := 2) rfl rfl rfl (zM_P hMξ (hYbξ _ (List.mem_of_getElem? (i := 7) rfl))) ((zp_set_ne (Or.inl (zM_ne hMξ (hYbξ _ (List.mem_of_getElem? (i := 7) rfl)) (hYbξ _ (List.mem_of_getElem? (i := 31) rfl)) (by decide)))).trans ((zp_set_ne (Or.inl (zM_ne hMξ (hYbξ _ (List.mem_of_getElem? (i := 7) rfl)) (hYbξ _ (List.mem_of_getElem? (i := 32) rfl)) (by decide)))).trans ((zp_set_ne (Or.inl (zM_ne hMξ (hYbξ _ (List.mem_of_getElem? (i := 7) rfl)) (hYbξ _ (List.mem_of_getElem? (i := 31) rfl)) (by decide)))).trans ((zp_set_ne (Or.inl (zM_ne hMξ (hYbξ _ (List.mem_of_getElem? (i := 7) rfl)) (hYbξ _ (List.mem_of_getElem? (i := 32) rfl)) (by decide)))).trans ((zp_set_ne (Or.inl (zM_ne hMξ (hYbξ _ (List.mem_of_getElem? (i := 7) rfl)) (hYbξ _ (List.mem_of_getElem? (i := 31) rfl)) (by decide)))).trans ((zp_set_ne (Or.inr (by decide))).trans ((zp_set_ne (Or.inr (by decide))).trans (((zM_G hMξ (hYbξ _ (List.mem_of_getElem? (i := 7) rfl)) 1).trans (zM_F hMξ (hFbξ _ (List.mem_of_getElem? (i := 29) rfl)))))))))))) ?_
        refine zp_load (pc := 51) hx hb (zd_X2_sleep (51, .iload_n 1, 1, 0, []) (List.mem_of_getElem? (i := 32) rfl)) rfl (j := 0) rfl ?_
        refine zp_iald (j := 2) (v := (V 54 (2000 + 2))) (pc := 52) hx hb hwξ (zd_X2_sleep (52, .iaload, 1, 0, []) (List.mem_of_getElem? (i := 33) rfl)) (show zp_ia 1 18 = some (6, 0, 0, 0, 45) from rfl) (zM_P hMξ (hYbξ _ (List.mem_of_getElem? (i := 32) rfl))) (by omega) (by omega) ((zp_set_ne (Or.inl (zM_ne hMξ (hYbξ _ (List.mem_of_getElem? (i := 32) rfl)) (hYbξ _ (List.mem_of_getElem? (i := 31) rfl)) (by decide)))).trans ((zp_set_ne (Or.inr (by omega))).trans ((zp_set_ne (Or.inl (zM_ne hMξ (hYbξ _ (List.mem_of_getElem? (i := 32) rfl)) (hYbξ _ (List.mem_of_getElem? (i := 31) rfl)) (by decide)))).trans ((zp_set_ne (Or.inr (by omega))).trans ((zp_set_ne (Or.inl (zM_ne hMξ (hYbξ _ (List.mem_of_getElem? (i := 32) rfl)) (hYbξ _ (List.mem_of_getElem? (i := 31) rfl)) (by decide)))).trans ((zp_set_ne (Or.inl (zM_ne hMξ (hYbξ _ (List.mem_of_getElem? (i := 32) rfl)) (hYbξ _ (List.mem_of_getElem? (i := 7) rfl)) (by decide)))).trans ((zp_set_ne (Or.inl (zM_ne hMξ (hYbξ _ (List.mem_of_getElem? (i := 32) rfl)) (hYbξ _ (List.mem_of_getElem? (i := 7) rfl)) (by decide)))).trans (((zM_G hMξ (hYbξ _ (List.mem_of_getElem? (i := 32) rfl)) (2000 + 2)).trans (hVξ 54 (2000 + 2) (by decide))))))))))) (fun hk379ξ => ?_)
        have hk379bξ := zp_int hk379ξ
        clear hk379ξ
        refine zp_const (pc := 53) hx hb (zd_X2_sleep (53, .iconst 1, 1, 0, []) (List.mem_of_getElem? (i := 34) rfl)) rfl rfl ?_
        refine zp_sub (n := ((V 54 (2000 + 2)) - 1)) (pc := 54) hx hb (zd_X2_sleep (54, .isub, 1, 0, []) (List.mem_of_getElem? (i := 35) rfl)) (by omega) (zp_r0 (by omega) (by omega)) ?_
        refine zp_mm (n := (max 0 ((V 54 (2000 + 2)) - 1))) (S := [(0, 2), (2, (A 54 : Int))]) (pc := 55) hx hb hEξ hrmξ (zd_X2_sleep (55, .invokestatic 41, 3, 0, []) (List.mem_of_getElem? (i := 36) rfl)) (j := 9) rfl (Or.inl ⟨rfl, by omega⟩) ⟨by decide, Nat.le_of_ble_eq_true rfl⟩ ?_
        refine zp_iast (j := 2) (pc := 58) hx hb hwξ heffξ (zd_X2_sleep (58, .iastore, 1, 0, []) (List.mem_of_getElem? (i := 37) rfl)) (show zp_ia 1 18 = some (6, 0, 0, 0, 45) from rfl) (zM_P hMξ (hYbξ _ (List.mem_of_getElem? (i := 32) rfl))) (by omega) (by omega) (zp_o0 (by omega) (by omega) (by omega) (by omega)) rfl ?_
        refine zp_iinc (L' := [(1, 0, 3), (0, 2, (A 7 : Int))]) (n := 3) (pc := 59) hx hb hnLξ (zd_X2_sleep (59, .iinc 1 1, 3, 0, []) (List.mem_of_getElem? (i := 38) rfl)) (j := 0) rfl (by omega) (zp_r0 (by omega) (by omega)) rfl rfl ?_
        refine zp_goto (tgt := 17) (pc := 62) hx hb (zd_X2_sleep (62, .goto (-45), 3, 0, []) (List.mem_of_getElem? (i := 39) rfl)) rfl ?_
        refine zp_load (pc := 17) hx hb (zd_X2_sleep (17, .iload_n 1, 1, 0, []) (List.mem_of_getElem? (i := 11) rfl)) rfl (j := 0) rfl ?_
        refine zp_const (pc := 18) hx hb (zd_X2_sleep (18, .bipush 6, 2, 0, []) (List.mem_of_getElem? (i := 12) rfl)) rfl rfl ?_
        refine zp_icmp (pc := 20) (tgt := 65) hx hb (zd_X2_sleep (20, .if_icmp .ge 45, 3, 0, []) (List.mem_of_getElem? (i := 13) rfl)) rfl (fun (hc380ξ : 6 ≤ (3 : Int)) => ?_) (fun (hc380ξ : ¬ (6 ≤ (3 : Int))) => ?_)
        · exfalso
          omega
        · refine zp_load (pc := 23) hx hb (zd_X2_sleep (23, .aload_n 0, 1, 0, []) (List.mem_of_getElem? (i := 14) rfl)) rfl (j := 1) rfl ?_
          refine zp_getf (n := (A 53 : Int)) (pc := 24) hx hb hEξ hwξ (zd_X2_sleep (24, .getfield 9, 3, 0, []) (List.mem_of_getElem? (i := 15) rfl)) (j := 1) rfl rfl rfl (zM_P hMξ (hYbξ _ (List.mem_of_getElem? (i := 7) rfl))) ((zp_set_ne (Or.inl (zM_ne hMξ (hYbξ _ (List.mem_of_getElem? (i := 7) rfl)) (hYbξ _ (List.mem_of_getElem? (i := 32) rfl)) (by decide)))).trans ((zp_set_ne (Or.inl (zM_ne hMξ (hYbξ _ (List.mem_of_getElem? (i := 7) rfl)) (hYbξ _ (List.mem_of_getElem? (i := 31) rfl)) (by decide)))).trans ((zp_set_ne (Or.inl (zM_ne hMξ (hYbξ _ (List.mem_of_getElem? (i := 7) rfl)) (hYbξ _ (List.mem_of_getElem? (i := 32) rfl)) (by decide)))).trans ((zp_set_ne (Or.inl (zM_ne hMξ (hYbξ _ (List.mem_of_getElem? (i := 7) rfl)) (hYbξ _ (List.mem_of_getElem? (i := 31) rfl)) (by decide)))).trans ((zp_set_ne (Or.inl (zM_ne hMξ (hYbξ _ (List.mem_of_getElem? (i := 7) rfl)) (hYbξ _ (List.mem_of_getElem? (i := 32) rfl)) (by decide)))).trans ((zp_set_ne (Or.inl (zM_ne hMξ (hYbξ _ (List.mem_of_getElem? (i := 7) rfl)) (hYbξ _ (List.mem_of_getElem? (i := 31) rfl)) (by decide)))).trans ((zp_set_ne (Or.inr (by decide))).trans ((zp_set_ne (Or.inr (by decide))).trans (((zM_G hMξ (hYbξ _ (List.mem_of_getElem? (i := 7) rfl)) 0).trans (zM_F hMξ (hFbξ _ (List.mem_of_getElem? (i := 28) rfl))))))))))))) ?_
          refine zp_load (pc := 27) hx hb (zd_X2_sleep (27, .iload_n 1, 1, 0, []) (List.mem_of_getElem? (i := 16) rfl)) rfl (j := 0) rfl ?_
          refine zp_const (pc := 28) hx hb (zd_X2_sleep (28, .iconst 0, 1, 0, []) (List.mem_of_getElem? (i := 17) rfl)) rfl rfl ?_
          refine zp_load (pc := 29) hx hb (zd_X2_sleep (29, .aload_n 0, 1, 0, []) (List.mem_of_getElem? (i := 18) rfl)) rfl (j := 1) rfl ?_
          refine zp_getf (n := (A 53 : Int)) (pc := 30) hx hb hEξ hwξ (zd_X2_sleep (30, .getfield 9, 3, 0, []) (List.mem_of_getElem? (i := 19) rfl)) (j := 1) rfl rfl rfl (zM_P hMξ (hYbξ _ (List.mem_of_getElem? (i := 7) rfl))) ((zp_set_ne (Or.inl (zM_ne hMξ (hYbξ _ (List.mem_of_getElem? (i := 7) rfl)) (hYbξ _ (List.mem_of_getElem? (i := 32) rfl)) (by decide)))).trans ((zp_set_ne (Or.inl (zM_ne hMξ (hYbξ _ (List.mem_of_getElem? (i := 7) rfl)) (hYbξ _ (List.mem_of_getElem? (i := 31) rfl)) (by decide)))).trans ((zp_set_ne (Or.inl (zM_ne hMξ (hYbξ _ (List.mem_of_getElem? (i := 7) rfl)) (hYbξ _ (List.mem_of_getElem? (i := 32) rfl)) (by decide)))).trans ((zp_set_ne (Or.inl (zM_ne hMξ (hYbξ _ (List.mem_of_getElem? (i := 7) rfl)) (hYbξ _ (List.mem_of_getElem? (i := 31) rfl)) (by decide)))).trans ((zp_set_ne (Or.inl (zM_ne hMξ (hYbξ _ (List.mem_of_getElem? (i := 7) rfl)) (hYbξ _ (List.mem_of_getElem? (i := 32) rfl)) (by decide)))).trans ((zp_set_ne (Or.inl (zM_ne hMξ (hYbξ _ (List.mem_of_getElem? (i := 7) rfl)) (hYbξ _ (List.mem_of_getElem? (i := 31) rfl)) (by decide)))).trans ((zp_set_ne (Or.inr (by decide))).trans ((zp_set_ne (Or.inr (by decide))).trans (((zM_G hMξ (hYbξ _ (List.mem_of_getElem? (i := 7) rfl)) 0).trans (zM_F hMξ (hFbξ _ (List.mem_of_getElem? (i := 28) rfl))))))))))))) ?_
          refine zp_load (pc := 33) hx hb (zd_X2_sleep (33, .iload_n 1, 1, 0, []) (List.mem_of_getElem? (i := 20) rfl)) rfl (j := 0) rfl ?_
          refine zp_iald (j := 3) (v := (V 53 (2000 + 3))) (pc := 34) hx hb hwξ (zd_X2_sleep (34, .iaload, 1, 0, []) (List.mem_of_getElem? (i := 21) rfl)) (show zp_ia 1 17 = some (6, 0, 0, (-2147483648), 2147483647) from rfl) (zM_P hMξ (hYbξ _ (List.mem_of_getElem? (i := 31) rfl))) (by omega) (by omega) ((zp_set_ne (Or.inl (zM_ne hMξ (hYbξ _ (List.mem_of_getElem? (i := 31) rfl)) (hYbξ _ (List.mem_of_getElem? (i := 32) rfl)) (by decide)))).trans ((zp_set_ne (Or.inr (by omega))).trans ((zp_set_ne (Or.inl (zM_ne hMξ (hYbξ _ (List.mem_of_getElem? (i := 31) rfl)) (hYbξ _ (List.mem_of_getElem? (i := 32) rfl)) (by decide)))).trans ((zp_set_ne (Or.inr (by omega))).trans ((zp_set_ne (Or.inl (zM_ne hMξ (hYbξ _ (List.mem_of_getElem? (i := 31) rfl)) (hYbξ _ (List.mem_of_getElem? (i := 32) rfl)) (by decide)))).trans ((zp_set_ne (Or.inr (by omega))).trans ((zp_set_ne (Or.inl (zM_ne hMξ (hYbξ _ (List.mem_of_getElem? (i := 31) rfl)) (hYbξ _ (List.mem_of_getElem? (i := 7) rfl)) (by decide)))).trans ((zp_set_ne (Or.inl (zM_ne hMξ (hYbξ _ (List.mem_of_getElem? (i := 31) rfl)) (hYbξ _ (List.mem_of_getElem? (i := 7) rfl)) (by decide)))).trans (((zM_G hMξ (hYbξ _ (List.mem_of_getElem? (i := 31) rfl)) (2000 + 3)).trans (hVξ 53 (2000 + 3) (by decide)))))))))))) (fun hk381ξ => ?_)
          have hk381bξ := zp_int hk381ξ
          clear hk381ξ
          have hb382ξ := hoiξ 3 (by omega)
          refine zp_const (pc := 35) hx hb (zd_X2_sleep (35, .iconst 1, 1, 0, []) (List.mem_of_getElem? (i := 22) rfl)) rfl rfl ?_
          refine zp_sub (n := ((V 53 (2000 + 3)) - 1)) (pc := 36) hx hb (zd_X2_sleep (36, .isub, 1, 0, []) (List.mem_of_getElem? (i := 23) rfl)) (by omega) (zp_r0 (by omega) (by omega)) ?_
          refine zp_mm (n := (max 0 ((V 53 (2000 + 3)) - 1))) (S := [(0, 3), (2, (A 53 : Int))]) (pc := 37) hx hb hEξ hrmξ (zd_X2_sleep (37, .invokestatic 41, 3, 0, []) (List.mem_of_getElem? (i := 24) rfl)) (j := 9) rfl (Or.inl ⟨rfl, by omega⟩) ⟨by decide, Nat.le_of_ble_eq_true rfl⟩ ?_
          refine zp_iast (j := 3) (pc := 40) hx hb hwξ heffξ (zd_X2_sleep (40, .iastore, 1, 0, []) (List.mem_of_getElem? (i := 25) rfl)) (show zp_ia 1 17 = some (6, 0, 0, (-2147483648), 2147483647) from rfl) (zM_P hMξ (hYbξ _ (List.mem_of_getElem? (i := 31) rfl))) (by omega) (by omega) (zp_o0 (by omega) (by omega) (by omega) (by omega)) rfl ?_
          refine zp_load (pc := 41) hx hb (zd_X2_sleep (41, .aload_n 0, 1, 0, []) (List.mem_of_getElem? (i := 26) rfl)) rfl (j := 1) rfl ?_
          refine zp_getf (n := (A 54 : Int)) (pc := 42) hx hb hEξ hwξ (zd_X2_sleep (42, .getfield 15, 3, 0, []) (List.mem_of_getElem? (i := 27) rfl)) (j := 2) rfl rfl rfl (zM_P hMξ (hYbξ _ (List.mem_of_getElem? (i := 7) rfl))) ((zp_set_ne (Or.inl (zM_ne hMξ (hYbξ _ (List.mem_of_getElem? (i := 7) rfl)) (hYbξ _ (List.mem_of_getElem? (i := 31) rfl)) (by decide)))).trans ((zp_set_ne (Or.inl (zM_ne hMξ (hYbξ _ (List.mem_of_getElem? (i := 7) rfl)) (hYbξ _ (List.mem_of_getElem? (i := 32) rfl)) (by decide)))).trans ((zp_set_ne (Or.inl (zM_ne hMξ (hYbξ _ (List.mem_of_getElem? (i := 7) rfl)) (hYbξ _ (List.mem_of_getElem? (i := 31) rfl)) (by decide)))).trans ((zp_set_ne (Or.inl (zM_ne hMξ (hYbξ _ (List.mem_of_getElem? (i := 7) rfl)) (hYbξ _ (List.mem_of_getElem? (i := 32) rfl)) (by decide)))).trans ((zp_set_ne (Or.inl (zM_ne hMξ (hYbξ _ (List.mem_of_getElem? (i := 7) rfl)) (hYbξ _ (List.mem_of_getElem? (i := 31) rfl)) (by decide)))).trans ((zp_set_ne (Or.inl (zM_ne hMξ (hYbξ _ (List.mem_of_getElem? (i := 7) rfl)) (hYbξ _ (List.mem_of_getElem? (i := 32) rfl)) (by decide)))).trans ((zp_set_ne (Or.inl (zM_ne hMξ (hYbξ _ (List.mem_of_getElem? (i := 7) rfl)) (hYbξ _ (List.mem_of_getElem? (i := 31) rfl)) (by decide)))).trans ((zp_set_ne (Or.inr (by decide))).trans ((zp_set_ne (Or.inr (by decide))).trans (((zM_G hMξ (hYbξ _ (List.mem_of_getElem? (i := 7) rfl)) 1).trans (zM_F hMξ (hFbξ _ (List.mem_of_getElem? (i := 29) rfl)))))))))))))) ?_
          refine zp_load (pc := 45) hx hb (zd_X2_sleep (45, .iload_n 1, 1, 0, []) (List.mem_of_getElem? (i := 28) rfl)) rfl (j := 0) rfl ?_
          refine zp_const (pc := 46) hx hb (zd_X2_sleep (46, .iconst 0, 1, 0, []) (List.mem_of_getElem? (i := 29) rfl)) rfl rfl ?_
          refine zp_load (pc := 47) hx hb (zd_X2_sleep (47, .aload_n 0, 1, 0, []) (List.mem_of_getElem? (i := 30) rfl)) rfl (j := 1) rfl ?_
          refine zp_getf (n := (A 54 : Int)) (pc := 48) hx hb hEξ hwξ (zd_X2_sleep (48, .getfield 15, 3, 0, []) (List.mem_of_getElem? (i := 31) rfl)) (j := 2) rfl rfl rfl (zM_P hMξ (hYbξ _ (List.mem_of_getElem? (i := 7) rfl))) ((zp_set_ne (Or.inl (zM_ne hMξ (hYbξ _ (List.mem_of_getElem? (i := 7) rfl)) (hYbξ _ (List.mem_of_getElem? (i := 31) rfl)) (by decide)))).trans ((zp_set_ne (Or.inl (zM_ne hMξ (hYbξ _ (List.mem_of_getElem? (i := 7) rfl)) (hYbξ _ (List.mem_of_getElem? (i := 32) rfl)) (by decide)))).trans ((zp_set_ne (Or.inl (zM_ne hMξ (hYbξ _ (List.mem_of_getElem? (i := 7) rfl)) (hYbξ _ (List.mem_of_getElem? (i := 31) rfl)) (by decide)))).trans ((zp_set_ne (Or.inl (zM_ne hMξ (hYbξ _ (List.mem_of_getElem? (i := 7) rfl)) (hYbξ _ (List.mem_of_getElem? (i := 32) rfl)) (by decide)))).trans ((zp_set_ne (Or.inl (zM_ne hMξ (hYbξ _ (List.mem_of_getElem? (i := 7) rfl)) (hYbξ _ (List.mem_of_getElem? (i := 31) rfl)) (by decide)))).trans ((zp_set_ne (Or.inl (zM_ne hMξ (hYbξ _ (List.mem_of_getElem? (i := 7) rfl)) (hYbξ _ (List.mem_of_getElem? (i := 32) rfl)) (by decide)))).trans ((zp_set_ne (Or.inl (zM_ne hMξ (hYbξ _ (List.mem_of_getElem? (i := 7) rfl)) (hYbξ _ (List.mem_of_getElem? (i := 31) rfl)) (by decide)))).trans ((zp_set_ne (Or.inr (by decide))).trans ((zp_set_ne (Or.inr (by decide))).trans (((zM_G hMξ (hYbξ _ (List.mem_of_getElem? (i := 7) rfl)) 1).trans (zM_F hMξ (hFbξ _ (List.mem_of_getElem? (i := 29) rfl)))))))))))))) ?_
          refine zp_load (pc := 51) hx hb (zd_X2_sleep (51, .iload_n 1, 1, 0, []) (List.mem_of_getElem? (i := 32) rfl)) rfl (j := 0) rfl ?_
          refine zp_iald (j := 3) (v := (V 54 (2000 + 3))) (pc := 52) hx hb hwξ (zd_X2_sleep (52, .iaload, 1, 0, []) (List.mem_of_getElem? (i := 33) rfl)) (show zp_ia 1 18 = some (6, 0, 0, 0, 45) from rfl) (zM_P hMξ (hYbξ _ (List.mem_of_getElem? (i := 32) rfl))) (by omega) (by omega) ((zp_set_ne (Or.inl (zM_ne hMξ (hYbξ _ (List.mem_of_getElem? (i := 32) rfl)) (hYbξ _ (List.mem_of_getElem? (i := 31) rfl)) (by decide)))).trans ((zp_set_ne (Or.inr (by omega))).trans ((zp_set_ne (Or.inl (zM_ne hMξ (hYbξ _ (List.mem_of_getElem? (i := 32) rfl)) (hYbξ _ (List.mem_of_getElem? (i := 31) rfl)) (by decide)))).trans ((zp_set_ne (Or.inr (by omega))).trans ((zp_set_ne (Or.inl (zM_ne hMξ (hYbξ _ (List.mem_of_getElem? (i := 32) rfl)) (hYbξ _ (List.mem_of_getElem? (i := 31) rfl)) (by decide)))).trans ((zp_set_ne (Or.inr (by omega))).trans ((zp_set_ne (Or.inl (zM_ne hMξ (hYbξ _ (List.mem_of_getElem? (i := 32) rfl)) (hYbξ _ (List.mem_of_getElem? (i := 31) rfl)) (by decide)))).trans ((zp_set_ne (Or.inl (zM_ne hMξ (hYbξ _ (List.mem_of_getElem? (i := 32) rfl)) (hYbξ _ (List.mem_of_getElem? (i := 7) rfl)) (by decide)))).trans ((zp_set_ne (Or.inl (zM_ne hMξ (hYbξ _ (List.mem_of_getElem? (i := 32) rfl)) (hYbξ _ (List.mem_of_getElem? (i := 7) rfl)) (by decide)))).trans (((zM_G hMξ (hYbξ _ (List.mem_of_getElem? (i := 32) rfl)) (2000 + 3)).trans (hVξ 54 (2000 + 3) (by decide))))))))))))) (fun hk383ξ => ?_)
          have hk383bξ := zp_int hk383ξ
          clear hk383ξ
          refine zp_const (pc := 53) hx hb (zd_X2_sleep (53, .iconst 1, 1, 0, []) (List.mem_of_getElem? (i := 34) rfl)) rfl rfl ?_
          refine zp_sub (n := ((V 54 (2000 + 3)) - 1)) (pc := 54) hx hb (zd_X2_sleep (54, .isub, 1, 0, []) (List.mem_of_getElem? (i := 35) rfl)) (by omega) (zp_r0 (by omega) (by omega)) ?_
          refine zp_mm (n := (max 0 ((V 54 (2000 + 3)) - 1))) (S := [(0, 3), (2, (A 54 : Int))]) (pc := 55) hx hb hEξ hrmξ (zd_X2_sleep (55, .invokestatic 41, 3, 0, []) (List.mem_of_getElem? (i := 36) rfl)) (j := 9) rfl (Or.inl ⟨rfl, by omega⟩) ⟨by decide, Nat.le_of_ble_eq_true rfl⟩ ?_
          refine zp_iast (j := 3) (pc := 58) hx hb hwξ heffξ (zd_X2_sleep (58, .iastore, 1, 0, []) (List.mem_of_getElem? (i := 37) rfl)) (show zp_ia 1 18 = some (6, 0, 0, 0, 45) from rfl) (zM_P hMξ (hYbξ _ (List.mem_of_getElem? (i := 32) rfl))) (by omega) (by omega) (zp_o0 (by omega) (by omega) (by omega) (by omega)) rfl ?_
          refine zp_iinc (L' := [(1, 0, 4), (0, 2, (A 7 : Int))]) (n := 4) (pc := 59) hx hb hnLξ (zd_X2_sleep (59, .iinc 1 1, 3, 0, []) (List.mem_of_getElem? (i := 38) rfl)) (j := 0) rfl (by omega) (zp_r0 (by omega) (by omega)) rfl rfl ?_
          refine zp_goto (tgt := 17) (pc := 62) hx hb (zd_X2_sleep (62, .goto (-45), 3, 0, []) (List.mem_of_getElem? (i := 39) rfl)) rfl ?_
          refine zp_load (pc := 17) hx hb (zd_X2_sleep (17, .iload_n 1, 1, 0, []) (List.mem_of_getElem? (i := 11) rfl)) rfl (j := 0) rfl ?_
          refine zp_const (pc := 18) hx hb (zd_X2_sleep (18, .bipush 6, 2, 0, []) (List.mem_of_getElem? (i := 12) rfl)) rfl rfl ?_
          refine zp_icmp (pc := 20) (tgt := 65) hx hb (zd_X2_sleep (20, .if_icmp .ge 45, 3, 0, []) (List.mem_of_getElem? (i := 13) rfl)) rfl (fun (hc384ξ : 6 ≤ (4 : Int)) => ?_) (fun (hc384ξ : ¬ (6 ≤ (4 : Int))) => ?_)
          · exfalso
            omega
          · refine zp_load (pc := 23) hx hb (zd_X2_sleep (23, .aload_n 0, 1, 0, []) (List.mem_of_getElem? (i := 14) rfl)) rfl (j := 1) rfl ?_
            refine zp_getf (n := (A 53 : Int)) (pc := 24) hx hb hEξ hwξ (zd_X2_sleep (24, .getfield 9, 3, 0, []) (List.mem_of_getElem? (i := 15) rfl)) (j := 1) rfl rfl rfl (zM_P hMξ (hYbξ _ (List.mem_of_getElem? (i := 7) rfl))) ((zp_set_ne (Or.inl (zM_ne hMξ (hYbξ _ (List.mem_of_getElem? (i := 7) rfl)) (hYbξ _ (List.mem_of_getElem? (i := 32) rfl)) (by decide)))).trans ((zp_set_ne (Or.inl (zM_ne hMξ (hYbξ _ (List.mem_of_getElem? (i := 7) rfl)) (hYbξ _ (List.mem_of_getElem? (i := 31) rfl)) (by decide)))).trans ((zp_set_ne (Or.inl (zM_ne hMξ (hYbξ _ (List.mem_of_getElem? (i := 7) rfl)) (hYbξ _ (List.mem_of_getElem? (i := 32) rfl)) (by decide)))).trans ((zp_set_ne (Or.inl (zM_ne hMξ (hYbξ _ (List.mem_of_getElem? (i := 7) rfl)) (hYbξ _ (List.mem_of_getElem? (i := 31) rfl)) (by decide)))).trans ((zp_set_ne (Or.inl (zM_ne hMξ (hYbξ _ (List.mem_of_getElem? (i := 7) rfl)) (hYbξ _ (List.mem_of_getElem? (i := 32) rfl)) (by decide)))).trans ((zp_set_ne (Or.inl (zM_ne hMξ (hYbξ _ (List.mem_of_getElem? (i := 7) rfl)) (hYbξ _ (List.mem_of_getElem? (i := 31) rfl)) (by decide)))).trans ((zp_set_ne (Or.inl (zM_ne hMξ (hYbξ _ (List.mem_of_getElem? (i := 7) rfl)) (hYbξ _ (List.mem_of_getElem? (i := 32) rfl)) (by decide)))).trans ((zp_set_ne (Or.inl (zM_ne hMξ (hYbξ _ (List.mem_of_getElem? (i := 7) rfl)) (hYbξ _ (List.mem_of_getElem? (i := 31) rfl)) (by decide)))).trans ((zp_set_ne (Or.inr (by decide))).trans ((zp_set_ne (Or.inr (by decide))).trans (((zM_G hMξ (hYbξ _ (List.mem_of_getElem? (i := 7) rfl)) 0).trans (zM_F hMξ (hFbξ _ (List.mem_of_getElem? (i := 28) rfl))))))))))))))) ?_
            refine zp_load (pc := 27) hx hb (zd_X2_sleep (27, .iload_n 1, 1, 0, []) (List.mem_of_getElem? (i := 16) rfl)) rfl (j := 0) rfl ?_
            refine zp_const (pc := 28) hx hb (zd_X2_sleep (28, .iconst 0, 1, 0, []) (List.mem_of_getElem? (i := 17) rfl)) rfl rfl ?_
            refine zp_load (pc := 29) hx hb (zd_X2_sleep (29, .aload_n 0, 1, 0, []) (List.mem_of_getElem? (i := 18) rfl)) rfl (j := 1) rfl ?_
            refine zp_getf (n := (A 53 : Int)) (pc := 30) hx hb hEξ hwξ (zd_X2_sleep (30, .getfield 9, 3, 0, []) (List.mem_of_getElem? (i := 19) rfl)) (j := 1) rfl rfl rfl (zM_P hMξ (hYbξ _ (List.mem_of_getElem? (i := 7) rfl))) ((zp_set_ne (Or.inl (zM_ne hMξ (hYbξ _ (List.mem_of_getElem? (i := 7) rfl)) (hYbξ _ (List.mem_of_getElem? (i := 32) rfl)) (by decide)))).trans ((zp_set_ne (Or.inl (zM_ne hMξ (hYbξ _ (List.mem_of_getElem? (i := 7) rfl)) (hYbξ _ (List.mem_of_getElem? (i := 31) rfl)) (by decide)))).trans ((zp_set_ne (Or.inl (zM_ne hMξ (hYbξ _ (List.mem_of_getElem? (i := 7) rfl)) (hYbξ _ (List.mem_of_getElem? (i := 32) rfl)) (by decide)))).trans ((zp_set_ne (Or.inl (zM_ne hMξ (hYbξ _ (List.mem_of_getElem? (i := 7) rfl)) (hYbξ _ (List.mem_of_getElem? (i := 31) rfl)) (by decide)))).trans ((zp_set_ne (Or.inl (zM_ne hMξ (hYbξ _ (List.mem_of_getElem? (i := 7) rfl)) (hYbξ _ (List.mem_of_getElem? (i := 32) rfl)) (by decide)))).trans ((zp_set_ne (Or.inl (zM_ne hMξ (hYbξ _ (List.mem_of_getElem? (i := 7) rfl)) (hYbξ _ (List.mem_of_getElem? (i := 31) rfl)) (by decide)))).trans ((zp_set_ne (Or.inl (zM_ne hMξ (hYbξ _ (List.mem_of_getElem? (i := 7) rfl)) (hYbξ _ (List.mem_of_getElem? (i := 32) rfl)) (by decide)))).trans ((zp_set_ne (Or.inl (zM_ne hMξ (hYbξ _ (List.mem_of_getElem? (i := 7) rfl)) (hYbξ _ (List.mem_of_getElem? (i := 31) rfl)) (by decide)))).trans ((zp_set_ne (Or.inr (by decide))).trans ((zp_set_ne (Or.inr (by decide))).trans (((zM_G hMξ (hYbξ _ (List.mem_of_getElem? (i := 7) rfl)) 0).trans (zM_F hMξ (hFbξ _ (List.mem_of_getElem? (i := 28) rfl))))))))))))))) ?_
            refine zp_load (pc := 33) hx hb (zd_X2_sleep (33, .iload_n 1, 1, 0, []) (List.mem_of_getElem? (i := 20) rfl)) rfl (j := 0) rfl ?_
            refine zp_iald (j := 4) (v := (V 53 (2000 + 4))) (pc := 34) hx hb hwξ (zd_X2_sleep (34, .iaload, 1, 0, []) (List.mem_of_getElem? (i := 21) rfl)) (show zp_ia 1 17 = some (6, 0, 0, (-2147483648), 2147483647) from rfl) (zM_P hMξ (hYbξ _ (List.mem_of_getElem? (i := 31) rfl))) (by omega) (by omega) ((zp_set_ne (Or.inl (zM_ne hMξ (hYbξ _ (List.mem_of_getElem? (i := 31) rfl)) (hYbξ _ (List.mem_of_getElem? (i := 32) rfl)) (by decide)))).trans ((zp_set_ne (Or.inr (by omega))).trans ((zp_set_ne (Or.inl (zM_ne hMξ (hYbξ _ (List.mem_of_getElem? (i := 31) rfl)) (hYbξ _ (List.mem_of_getElem? (i := 32) rfl)) (by decide)))).trans ((zp_set_ne (Or.inr (by omega))).trans ((zp_set_ne (Or.inl (zM_ne hMξ (hYbξ _ (List.mem_of_getElem? (i := 31) rfl)) (hYbξ _ (List.mem_of_getElem? (i := 32) rfl)) (by decide)))).trans ((zp_set_ne (Or.inr (by omega))).trans ((zp_set_ne (Or.inl (zM_ne hMξ (hYbξ _ (List.mem_of_getElem? (i := 31) rfl)) (hYbξ _ (List.mem_of_getElem? (i := 32) rfl)) (by decide)))).trans ((zp_set_ne (Or.inr (by omega))).trans ((zp_set_ne (Or.inl (zM_ne hMξ (hYbξ _ (List.mem_of_getElem? (i := 31) rfl)) (hYbξ _ (List.mem_of_getElem? (i := 7) rfl)) (by decide)))).trans ((zp_set_ne (Or.inl (zM_ne hMξ (hYbξ _ (List.mem_of_getElem? (i := 31) rfl)) (hYbξ _ (List.mem_of_getElem? (i := 7) rfl)) (by decide)))).trans (((zM_G hMξ (hYbξ _ (List.mem_of_getElem? (i := 31) rfl)) (2000 + 4)).trans (hVξ 53 (2000 + 4) (by decide)))))))))))))) (fun hk385ξ => ?_)
            have hk385bξ := zp_int hk385ξ
            clear hk385ξ
            have hb386ξ := hoiξ 4 (by omega)
            refine zp_const (pc := 35) hx hb (zd_X2_sleep (35, .iconst 1, 1, 0, []) (List.mem_of_getElem? (i := 22) rfl)) rfl rfl ?_
            refine zp_sub (n := ((V 53 (2000 + 4)) - 1)) (pc := 36) hx hb (zd_X2_sleep (36, .isub, 1, 0, []) (List.mem_of_getElem? (i := 23) rfl)) (by omega) (zp_r0 (by omega) (by omega)) ?_
            refine zp_mm (n := (max 0 ((V 53 (2000 + 4)) - 1))) (S := [(0, 4), (2, (A 53 : Int))]) (pc := 37) hx hb hEξ hrmξ (zd_X2_sleep (37, .invokestatic 41, 3, 0, []) (List.mem_of_getElem? (i := 24) rfl)) (j := 9) rfl (Or.inl ⟨rfl, by omega⟩) ⟨by decide, Nat.le_of_ble_eq_true rfl⟩ ?_
            refine zp_iast (j := 4) (pc := 40) hx hb hwξ heffξ (zd_X2_sleep (40, .iastore, 1, 0, []) (List.mem_of_getElem? (i := 25) rfl)) (show zp_ia 1 17 = some (6, 0, 0, (-2147483648), 2147483647) from rfl) (zM_P hMξ (hYbξ _ (List.mem_of_getElem? (i := 31) rfl))) (by omega) (by omega) (zp_o0 (by omega) (by omega) (by omega) (by omega)) rfl ?_
            refine zp_load (pc := 41) hx hb (zd_X2_sleep (41, .aload_n 0, 1, 0, []) (List.mem_of_getElem? (i := 26) rfl)) rfl (j := 1) rfl ?_
            refine zp_getf (n := (A 54 : Int)) (pc := 42) hx hb hEξ hwξ (zd_X2_sleep (42, .getfield 15, 3, 0, []) (List.mem_of_getElem? (i := 27) rfl)) (j := 2) rfl rfl rfl (zM_P hMξ (hYbξ _ (List.mem_of_getElem? (i := 7) rfl))) ((zp_set_ne (Or.inl (zM_ne hMξ (hYbξ _ (List.mem_of_getElem? (i := 7) rfl)) (hYbξ _ (List.mem_of_getElem? (i := 31) rfl)) (by decide)))).trans ((zp_set_ne (Or.inl (zM_ne hMξ (hYbξ _ (List.mem_of_getElem? (i := 7) rfl)) (hYbξ _ (List.mem_of_getElem? (i := 32) rfl)) (by decide)))).trans ((zp_set_ne (Or.inl (zM_ne hMξ (hYbξ _ (List.mem_of_getElem? (i := 7) rfl)) (hYbξ _ (List.mem_of_getElem? (i := 31) rfl)) (by decide)))).trans ((zp_set_ne (Or.inl (zM_ne hMξ (hYbξ _ (List.mem_of_getElem? (i := 7) rfl)) (hYbξ _ (List.mem_of_getElem? (i := 32) rfl)) (by decide)))).trans ((zp_set_ne (Or.inl (zM_ne hMξ (hYbξ _ (List.mem_of_getElem? (i := 7) rfl)) (hYbξ _ (List.mem_of_getElem? (i := 31) rfl)) (by decide)))).trans ((zp_set_ne (Or.inl (zM_ne hMξ (hYbξ _ (List.mem_of_getElem? (i := 7) rfl)) (hYbξ _ (List.mem_of_getElem? (i := 32) rfl)) (by decide)))).trans ((zp_set_ne (Or.inl (zM_ne hMξ (hYbξ _ (List.mem_of_getElem? (i := 7) rfl)) (hYbξ _ (List.mem_of_getElem? (i := 31) rfl)) (by decide)))).trans ((zp_set_ne (Or.inl (zM_ne hMξ (hYbξ _ (List.mem_of_getElem? (i := 7) rfl)) (hYbξ _ (List.mem_of_getElem? (i := 32) rfl)) (by decide)))).trans ((zp_set_ne (Or.inl (zM_ne hMξ (hYbξ _ (List.mem_of_getElem? (i := 7) rfl)) (hYbξ _ (List.mem_of_getElem? (i := 31) rfl)) (by decide)))).trans ((zp_set_ne (Or.inr (by decide))).trans ((zp_set_ne (Or.inr (by decide))).trans (((zM_G hMξ (hYbξ _ (List.mem_of_getElem? (i := 7) rfl)) 1).trans (zM_F hMξ (hFbξ _ (List.mem_of_getElem? (i := 29) rfl)))))))))))))))) ?_
            refine zp_load (pc := 45) hx hb (zd_X2_sleep (45, .iload_n 1, 1, 0, []) (List.mem_of_getElem? (i := 28) rfl)) rfl (j := 0) rfl ?_
            refine zp_const (pc := 46) hx hb (zd_X2_sleep (46, .iconst 0, 1, 0, []) (List.mem_of_getElem? (i := 29) rfl)) rfl rfl ?_
            refine zp_load (pc := 47) hx hb (zd_X2_sleep (47, .aload_n 0, 1, 0, []) (List.mem_of_getElem? (i := 30) rfl)) rfl (j := 1) rfl ?_
            refine zp_getf (n := (A 54 : Int)) (pc := 48) hx hb hEξ hwξ (zd_X2_sleep (48, .getfield 15, 3, 0, []) (List.mem_of_getElem? (i := 31) rfl)) (j := 2) rfl rfl rfl (zM_P hMξ (hYbξ _ (List.mem_of_getElem? (i := 7) rfl))) ((zp_set_ne (Or.inl (zM_ne hMξ (hYbξ _ (List.mem_of_getElem? (i := 7) rfl)) (hYbξ _ (List.mem_of_getElem? (i := 31) rfl)) (by decide)))).trans ((zp_set_ne (Or.inl (zM_ne hMξ (hYbξ _ (List.mem_of_getElem? (i := 7) rfl)) (hYbξ _ (List.mem_of_getElem? (i := 32) rfl)) (by decide)))).trans ((zp_set_ne (Or.inl (zM_ne hMξ (hYbξ _ (List.mem_of_getElem? (i := 7) rfl)) (hYbξ _ (List.mem_of_getElem? (i := 31) rfl)) (by decide)))).trans ((zp_set_ne (Or.inl (zM_ne hMξ (hYbξ _ (List.mem_of_getElem? (i := 7) rfl)) (hYbξ _ (List.mem_of_getElem? (i := 32) rfl)) (by decide)))).trans ((zp_set_ne (Or.inl (zM_ne hMξ (hYbξ _ (List.mem_of_getElem? (i := 7) rfl)) (hYbξ _ (List.mem_of_getElem? (i := 31) rfl)) (by decide)))).trans ((zp_set_ne (Or.inl (zM_ne hMξ (hYbξ _ (List.mem_of_getElem? (i := 7) rfl)) (hYbξ _ (List.mem_of_getElem? (i := 32) rfl)) (by decide)))).trans ((zp_set_ne (Or.inl (zM_ne hMξ (hYbξ _ (List.mem_of_getElem? (i := 7) rfl)) (hYbξ _ (List.mem_of_getElem? (i := 31) rfl)) (by decide)))).trans ((zp_set_ne (Or.inl (zM_ne hMξ (hYbξ _ (List.mem_of_getElem? (i := 7) rfl)) (hYbξ _ (List.mem_of_getElem? (i := 32) rfl)) (by decide)))).trans ((zp_set_ne (Or.inl (zM_ne hMξ (hYbξ _ (List.mem_of_getElem? (i := 7) rfl)) (hYbξ _ (List.mem_of_getElem? (i := 31) rfl)) (by decide)))).trans ((zp_set_ne (Or.inr (by decide))).trans ((zp_set_ne (Or.inr (by decide))).trans (((zM_G hMξ (hYbξ _ (List.mem_of_getElem? (i := 7) rfl)) 1).trans (zM_F hMξ (hFbξ _ (List.mem_of_getElem? (i := 29) rfl)))))))))))))))) ?_
            refine zp_load (pc := 51) hx hb (zd_X2_sleep (51, .iload_n 1, 1, 0, []) (List.mem_of_getElem? (i := 32) rfl)) rfl (j := 0) rfl ?_
            refine zp_iald (j := 4) (v := (V 54 (2000 + 4))) (pc := 52) hx hb hwξ (zd_X2_sleep (52, .iaload, 1, 0, []) (List.mem_of_getElem? (i := 33) rfl)) (show zp_ia 1 18 = some (6, 0, 0, 0, 45) from rfl) (zM_P hMξ (hYbξ _ (List.mem_of_getElem? (i := 32) rfl))) (by omega) (by omega) ((zp_set_ne (Or.inl (zM_ne hMξ (hYbξ _ (List.mem_of_getElem? (i := 32) rfl)) (hYbξ _ (List.mem_of_getElem? (i := 31) rfl)) (by decide)))).trans ((zp_set_ne (Or.inr (by omega))).trans ((zp_set_ne (Or.inl (zM_ne hMξ (hYbξ _ (List.mem_of_getElem? (i := 32) rfl)) (hYbξ _ (List.mem_of_getElem? (i := 31) rfl)) (by decide)))).trans ((zp_set_ne (Or.inr (by omega))).trans ((zp_set_ne (Or.inl (zM_ne hMξ (hYbξ _ (List.mem_of_getElem? (i := 32) rfl)) (hYbξ _ (List.mem_of_getElem? (i := 31) rfl)) (by decide)))).trans ((zp_set_ne (Or.inr (by omega))).trans ((zp_set_ne (Or.inl (zM_ne hMξ (hYbξ _ (List.mem_of_getElem? (i := 32) rfl)) (hYbξ _ (List.mem_of_getElem? (i := 31) rfl)) (by decide)))).trans ((zp_set_ne (Or.inr (by omega))).trans ((zp_set_ne (Or.inl (zM_ne hMξ (hYbξ _ (List.mem_of_getElem? (i := 32) rfl)) (hYbξ _ (List.mem_of_getElem? (i := 31) rfl)) (by decide)))).trans ((zp_set_ne (Or.inl (zM_ne hMξ (hYbξ _ (List.mem_of_getElem? (i := 32) rfl)) (hYbξ _ (List.mem_of_getElem? (i := 7) rfl)) (by decide)))).trans ((zp_set_ne (Or.inl (zM_ne hMξ (hYbξ _ (List.mem_of_getElem? (i := 32) rfl)) (hYbξ _ (List.mem_of_getElem? (i := 7) rfl)) (by decide)))).trans (((zM_G hMξ (hYbξ _ (List.mem_of_getElem? (i := 32) rfl)) (2000 + 4)).trans (hVξ 54 (2000 + 4) (by decide))))))))))))))) (fun hk387ξ => ?_)
            have hk387bξ := zp_int hk387ξ
            clear hk387ξ
            refine zp_const (pc := 53) hx hb (zd_X2_sleep (53, .iconst 1, 1, 0, []) (List.mem_of_getElem? (i := 34) rfl)) rfl rfl ?_
            refine zp_sub (n := ((V 54 (2000 + 4)) - 1)) (pc := 54) hx hb (zd_X2_sleep (54, .isub, 1, 0, []) (List.mem_of_getElem? (i := 35) rfl)) (by omega) (zp_r0 (by omega) (by omega)) ?_
            refine zp_mm (n := (max 0 ((V 54 (2000 + 4)) - 1))) (S := [(0, 4), (2, (A 54 : Int))]) (pc := 55) hx hb hEξ hrmξ (zd_X2_sleep (55, .invokestatic 41, 3, 0, []) (List.mem_of_getElem? (i := 36) rfl)) (j := 9) rfl (Or.inl ⟨rfl, by omega⟩) ⟨by decide, Nat.le_of_ble_eq_true rfl⟩ ?_
            refine zp_iast (j := 4) (pc := 58) hx hb hwξ heffξ (zd_X2_sleep (58, .iastore, 1, 0, []) (List.mem_of_getElem? (i := 37) rfl)) (show zp_ia 1 18 = some (6, 0, 0, 0, 45) from rfl) (zM_P hMξ (hYbξ _ (List.mem_of_getElem? (i := 32) rfl))) (by omega) (by omega) (zp_o0 (by omega) (by omega) (by omega) (by omega)) rfl ?_
            refine zp_iinc (L' := [(1, 0, 5), (0, 2, (A 7 : Int))]) (n := 5) (pc := 59) hx hb hnLξ (zd_X2_sleep (59, .iinc 1 1, 3, 0, []) (List.mem_of_getElem? (i := 38) rfl)) (j := 0) rfl (by omega) (zp_r0 (by omega) (by omega)) rfl rfl ?_
            refine zp_goto (tgt := 17) (pc := 62) hx hb (zd_X2_sleep (62, .goto (-45), 3, 0, []) (List.mem_of_getElem? (i := 39) rfl)) rfl ?_
            refine zp_load (pc := 17) hx hb (zd_X2_sleep (17, .iload_n 1, 1, 0, []) (List.mem_of_getElem? (i := 11) rfl)) rfl (j := 0) rfl ?_
            refine zp_const (pc := 18) hx hb (zd_X2_sleep (18, .bipush 6, 2, 0, []) (List.mem_of_getElem? (i := 12) rfl)) rfl rfl ?_
            refine zp_icmp (pc := 20) (tgt := 65) hx hb (zd_X2_sleep (20, .if_icmp .ge 45, 3, 0, []) (List.mem_of_getElem? (i := 13) rfl)) rfl (fun (hc388ξ : 6 ≤ (5 : Int)) => ?_) (fun (hc388ξ : ¬ (6 ≤ (5 : Int))) => ?_)
            · exfalso
              omega
            · refine zp_load (pc := 23) hx hb (zd_X2_sleep (23, .aload_n 0, 1, 0, []) (List.mem_of_getElem? (i := 14) rfl)) rfl (j := 1) rfl ?_
              refine zp_getf (n := (A 53 : Int)) (pc := 24) hx hb hEξ hwξ (zd_X2_sleep (24, .getfield 9, 3, 0, []) (List.mem_of_getElem? (i := 15) rfl)) (j := 1) rfl rfl rfl (zM_P hMξ (hYbξ _ (List.mem_of_getElem? (i := 7) rfl))) ((zp_set_ne (Or.inl (zM_ne hMξ (hYbξ _ (List.mem_of_getElem? (i := 7) rfl)) (hYbξ _ (List.mem_of_getElem? (i := 32) rfl)) (by decide)))).trans ((zp_set_ne (Or.inl (zM_ne hMξ (hYbξ _ (List.mem_of_getElem? (i := 7) rfl)) (hYbξ _ (List.mem_of_getElem? (i := 31) rfl)) (by decide)))).trans ((zp_set_ne (Or.inl (zM_ne hMξ (hYbξ _ (List.mem_of_getElem? (i := 7) rfl)) (hYbξ _ (List.mem_of_getElem? (i := 32) rfl)) (by decide)))).trans ((zp_set_ne (Or.inl (zM_ne hMξ (hYbξ _ (List.mem_of_getElem? (i := 7) rfl)) (hYbξ _ (List.mem_of_getElem? (i := 31) rfl)) (by decide)))).trans ((zp_set_ne (Or.inl (zM_ne hMξ (hYbξ _ (List.mem_of_getElem? (i := 7) rfl)) (hYbξ _ (List.mem_of_getElem? (i := 32) rfl)) (by decide)))).trans ((zp_set_ne (Or.inl (zM_ne hMξ (hYbξ _ (List.mem_of_getElem? (i := 7) rfl)) (hYbξ _ (List.mem_of_getElem? (i := 31) rfl)) (by decide)))).trans ((zp_set_ne (Or.inl (zM_ne hMξ (hYbξ _ (List.mem_of_getElem? (i := 7) rfl)) (hYbξ _ (List.mem_of_getElem? (i := 32) rfl)) (by decide)))).trans ((zp_set_ne (Or.inl (zM_ne hMξ (hYbξ _ (List.mem_of_getElem? (i := 7) rfl)) (hYbξ _ (List.mem_of_getElem? (i := 31) rfl)) (by decide)))).trans ((zp_set_ne (Or.inl (zM_ne hMξ (hYbξ _ (List.mem_of_getElem? (i := 7) rfl)) (hYbξ _ (List.mem_of_getElem? (i := 32) rfl)) (by decide)))).trans ((zp_set_ne (Or.inl (zM_ne hMξ (hYbξ _ (List.mem_of_getElem? (i := 7) rfl)) (hYbξ _ (List.mem_of_getElem? (i := 31) rfl)) (by decide)))).trans ((zp_set_ne (Or.inr (by decide))).trans ((zp_set_ne (Or.inr (by decide))).trans (((zM_G hMξ (hYbξ _ (List.mem_of_getElem? (i := 7) rfl)) 0).trans (zM_F hMξ (hFbξ _ (List.mem_of_getElem? (i := 28) rfl))))))))))))))))) ?_
              refine zp_load (pc := 27) hx hb (zd_X2_sleep (27, .iload_n 1, 1, 0, []) (List.mem_of_getElem? (i := 16) rfl)) rfl (j := 0) rfl ?_
              refine zp_const (pc := 28) hx hb (zd_X2_sleep (28, .iconst 0, 1, 0, []) (List.mem_of_getElem? (i := 17) rfl)) rfl rfl ?_
              refine zp_load (pc := 29) hx hb (zd_X2_sleep (29, .aload_n 0, 1, 0, []) (List.mem_of_getElem? (i := 18) rfl)) rfl (j := 1) rfl ?_
              refine zp_getf (n := (A 53 : Int)) (pc := 30) hx hb hEξ hwξ (zd_X2_sleep (30, .getfield 9, 3, 0, []) (List.mem_of_getElem? (i := 19) rfl)) (j := 1) rfl rfl rfl (zM_P hMξ (hYbξ _ (List.mem_of_getElem? (i := 7) rfl))) ((zp_set_ne (Or.inl (zM_ne hMξ (hYbξ _ (List.mem_of_getElem? (i := 7) rfl)) (hYbξ _ (List.mem_of_getElem? (i := 32) rfl)) (by decide)))).trans ((zp_set_ne (Or.inl (zM_ne hMξ (hYbξ _ (List.mem_of_getElem? (i := 7) rfl)) (hYbξ _ (List.mem_of_getElem? (i := 31) rfl)) (by decide)))).trans ((zp_set_ne (Or.inl (zM_ne hMξ (hYbξ _ (List.mem_of_getElem? (i := 7) rfl)) (hYbξ _ (List.mem_of_getElem? (i := 32) rfl)) (by decide)))).trans ((zp_set_ne (Or.inl (zM_ne hMξ (hYbξ _ (List.mem_of_getElem? (i := 7) rfl)) (hYbξ _ (List.mem_of_getElem? (i := 31) rfl)) (by decide)))).trans ((zp_set_ne (Or.inl (zM_ne hMξ (hYbξ _ (List.mem_of_getElem? (i := 7) rfl)) (hYbξ _ (List.mem_of_getElem? (i := 32) rfl)) (by decide)))).trans ((zp_set_ne (Or.inl (zM_ne hMξ (hYbξ _ (List.mem_of_getElem? (i := 7) rfl)) (hYbξ _ (List.mem_of_getElem? (i := 31) rfl)) (by decide)))).trans ((zp_set_ne (Or.inl (zM_ne hMξ (hYbξ _ (List.mem_of_getElem? (i := 7) rfl)) (hYbξ _ (List.mem_of_getElem? (i := 32) rfl)) (by decide)))).trans ((zp_set_ne (Or.inl (zM_ne hMξ (hYbξ _ (List.mem_of_getElem? (i := 7) rfl)) (hYbξ _ (List.mem_of_getElem? (i := 31) rfl)) (by decide)))).trans ((zp_set_ne (Or.inl (zM_ne hMξ (hYbξ _ (List.mem_of_getElem? (i := 7) rfl)) (hYbξ _ (List.mem_of_getElem? (i := 32) rfl)) (by decide)))).trans ((zp_set_ne (Or.inl (zM_ne hMξ (hYbξ _ (List.mem_of_getElem? (i := 7) rfl)) (hYbξ _ (List.mem_of_getElem? (i := 31) rfl)) (by decide)))).trans ((zp_set_ne (Or.inr (by decide))).trans ((zp_set_ne (Or.inr (by decide))).trans (((zM_G hMξ (hYbξ _ (List.mem_of_getElem? (i := 7) rfl)) 0).trans (zM_F hMξ (hFbξ _ (List.mem_of_getElem? (i := 28) rfl))))))))))))))))) ?_
              refine zp_load (pc := 33) hx hb (zd_X2_sleep (33, .iload_n 1, 1, 0, []) (List.mem_of_getElem? (i := 20) rfl)) rfl (j := 0) rfl ?_
              refine zp_iald (j := 5) (v := (V 53 (2000 + 5))) (pc := 34) hx hb hwξ (zd_X2_sleep (34, .iaload, 1, 0, []) (List.mem_of_getElem? (i := 21) rfl)) (show zp_ia 1 17 = some (6, 0, 0, (-2147483648), 2147483647) from rfl) (zM_P hMξ (hYbξ _ (List.mem_of_getElem? (i := 31) rfl))) (by omega) (by omega) ((zp_set_ne (Or.inl (zM_ne hMξ (hYbξ _ (List.mem_of_getElem? (i := 31) rfl)) (hYbξ _ (List.mem_of_getElem? (i := 32) rfl)) (by decide)))).trans ((zp_set_ne (Or.inr (by omega))).trans ((zp_set_ne (Or.inl (zM_ne hMξ (hYbξ _ (List.mem_of_getElem? (i := 31) rfl)) (hYbξ _ (List.mem_of_getElem? (i := 32) rfl)) (by decide)))).trans ((zp_set_ne (Or.inr (by omega))).trans ((zp_set_ne (Or.inl (zM_ne hMξ (hYbξ _ (List.mem_of_getElem? (i := 31) rfl)) (hYbξ _ (List.mem_of_getElem? (i := 32) rfl)) (by decide)))).trans ((zp_set_ne (Or.inr (by omega))).trans ((zp_set_ne (Or.inl (zM_ne hMξ (hYbξ _ (List.mem_of_getElem? (i := 31) rfl)) (hYbξ _ (List.mem_of_getElem? (i := 32) rfl)) (by decide)))).trans ((zp_set_ne (Or.inr (by omega))).trans ((zp_set_ne (Or.inl (zM_ne hMξ (hYbξ _ (List.mem_of_getElem? (i := 31) rfl)) (hYbξ _ (List.mem_of_getElem? (i := 32) rfl)) (by decide)))).trans ((zp_set_ne (Or.inr (by omega))).trans ((zp_set_ne (Or.inl (zM_ne hMξ (hYbξ _ (List.mem_of_getElem? (i := 31) rfl)) (hYbξ _ (List.mem_of_getElem? (i := 7) rfl)) (by decide)))).trans ((zp_set_ne (Or.inl (zM_ne hMξ (hYbξ _ (List.mem_of_getElem? (i := 31) rfl)) (hYbξ _ (List.mem_of_getElem? (i := 7) rfl)) (by decide)))).trans (((zM_G hMξ (hYbξ _ (List.mem_of_getElem? (i := 31) rfl)) (2000 + 5)).trans (hVξ 53 (2000 + 5) (by decide)))))))))))))))) (fun hk389ξ => ?_)
              have hk389bξ := zp_int hk389ξ
              clear hk389ξ
              have hb390ξ := hoiξ 5 (by omega)
              refine zp_const (pc := 35) hx hb (zd_X2_sleep (35, .iconst 1, 1, 0, []) (List.mem_of_getElem? (i := 22) rfl)) rfl rfl ?_
              refine zp_sub (n := ((V 53 (2000 + 5)) - 1)) (pc := 36) hx hb (zd_X2_sleep (36, .isub, 1, 0, []) (List.mem_of_getElem? (i := 23) rfl)) (by omega) (zp_r0 (by omega) (by omega)) ?_
              refine zp_mm (n := (max 0 ((V 53 (2000 + 5)) - 1))) (S := [(0, 5), (2, (A 53 : Int))]) (pc := 37) hx hb hEξ hrmξ (zd_X2_sleep (37, .invokestatic 41, 3, 0, []) (List.mem_of_getElem? (i := 24) rfl)) (j := 9) rfl (Or.inl ⟨rfl, by omega⟩) ⟨by decide, Nat.le_of_ble_eq_true rfl⟩ ?_
              refine zp_iast (j := 5) (pc := 40) hx hb hwξ heffξ (zd_X2_sleep (40, .iastore, 1, 0, []) (List.mem_of_getElem? (i := 25) rfl)) (show zp_ia 1 17 = some (6, 0, 0, (-2147483648), 2147483647) from rfl) (zM_P hMξ (hYbξ _ (List.mem_of_getElem? (i := 31) rfl))) (by omega) (by omega) (zp_o0 (by omega) (by omega) (by omega) (by omega)) rfl ?_
              refine zp_load (pc := 41) hx hb (zd_X2_sleep (41, .aload_n 0, 1, 0, []) (List.mem_of_getElem? (i := 26) rfl)) rfl (j := 1) rfl ?_
              refine zp_getf (n := (A 54 : Int)) (pc := 42) hx hb hEξ hwξ (zd_X2_sleep (42, .getfield 15, 3, 0, []) (List.mem_of_getElem? (i := 27) rfl)) (j := 2) rfl rfl rfl (zM_P hMξ (hYbξ _ (List.mem_of_getElem? (i := 7) rfl))) ((zp_set_ne (Or.inl (zM_ne hMξ (hYbξ _ (List.mem_of_getElem? (i := 7) rfl)) (hYbξ _ (List.mem_of_getElem? (i := 31) rfl)) (by decide)))).trans ((zp_set_ne (Or.inl (zM_ne hMξ (hYbξ _ (List.mem_of_getElem? (i := 7) rfl)) (hYbξ _ (List.mem_of_getElem? (i := 32) rfl)) (by decide)))).trans ((zp_set_ne (Or.inl (zM_ne hMξ (hYbξ _ (List.mem_of_getElem? (i := 7) rfl)) (hYbξ _ (List.mem_of_getElem? (i := 31) rfl)) (by decide)))).trans ((zp_set_ne (Or.inl (zM_ne hMξ (hYbξ _ (List.mem_of_getElem? (i := 7) rfl)) (hYbξ _ (List.mem_of_getElem? (i := 32) rfl)) (by decide)))).trans ((zp_set_ne (Or.inl (zM_ne hMξ (hYbξ _ (List.mem_of_getElem? (i := 7) rfl)) (hYbξ _ (List.mem_of_getElem? (i := 31) rfl)) (by decide)))).trans ((zp_set_ne (Or.inl (zM_ne hMξ (hYbξ _ (List.mem_of_getElem? (i := 7) rfl)) (hYbξ _ (List.mem_of_getElem? (i := 32) rfl)) (by decide)))).trans ((zp_set_ne (Or.inl (zM_ne hMξ (hYbξ _ (List.mem_of_getElem? (i := 7) rfl)) (hYbξ _ (List.mem_of_getElem? (i := 31) rfl)) (by decide)))).trans ((zp_set_ne (Or.inl (zM_ne hMξ (hYbξ _ (List.mem_of_getElem? (i := 7) rfl)) (hYbξ _ (List.mem_of_getElem? (i := 32) rfl)) (by decide)))).trans ((zp_set_ne (Or.inl (zM_ne hMξ (hYbξ _ (List.mem_of_getElem? (i := 7) rfl)) (hYbξ _ (List.mem_of_getElem? (i := 31) rfl)) (by decide)))).trans ((zp_set_ne (Or.inl (zM_ne hMξ (hYbξ _ (List.mem_of_getElem? (i := 7) rfl)) (hYbξ _ (List.mem_of_getElem? (i := 32) rfl)) (by decide)))).trans ((zp_set_ne (Or.inl (zM_ne hMξ (hYbξ _ (List.mem_of_getElem? (i := 7) rfl)) (hYbξ _ (List.mem_of_getElem? (i := 31) rfl)) (by decide)))).trans ((zp_set_ne (Or.inr (by decide))).trans ((zp_set_ne (Or.inr (by decide))).trans (((zM_G hMξ (hYbξ _ (List.mem_of_getElem? (i := 7) rfl)) 1).trans (zM_F hMξ (hFbξ _ (List.mem_of_getElem? (i := 29) rfl)))))))))))))))))) ?_
              refine zp_load (pc := 45) hx hb (zd_X2_sleep (45, .iload_n 1, 1, 0, []) (List.mem_of_getElem? (i := 28) rfl)) rfl (j := 0) rfl ?_
              refine zp_const (pc := 46) hx hb (zd_X2_sleep (46, .iconst 0, 1, 0, []) (List.mem_of_getElem? (i := 29) rfl)) rfl rfl ?_
              refine zp_load (pc := 47) hx hb (zd_X2_sleep (47, .aload_n 0, 1, 0, []) (List.mem_of_getElem? (i := 30) rfl)) rfl (j := 1) rfl ?_
              refine zp_getf (n := (A 54 : Int)) (pc := 48) hx hb hEξ hwξ (zd_X2_sleep (48, .getfield 15, 3, 0, []) (List.mem_of_getElem? (i := 31) rfl)) (j := 2) rfl rfl rfl (zM_P hMξ (hYbξ _ (List.mem_of_getElem? (i := 7) rfl))) ((zp_set_ne (Or.inl (zM_ne hMξ (hYbξ _ (List.mem_of_getElem? (i := 7) rfl)) (hYbξ _ (List.mem_of_getElem? (i := 31) rfl)) (by decide)))).trans ((zp_set_ne (Or.inl (zM_ne hMξ (hYbξ _ (List.mem_of_getElem? (i := 7) rfl)) (hYbξ _ (List.mem_of_getElem? (i := 32) rfl)) (by decide)))).trans ((zp_set_ne (Or.inl (zM_ne hMξ (hYbξ _ (List.mem_of_getElem? (i := 7) rfl)) (hYbξ _ (List.mem_of_getElem? (i := 31) rfl)) (by decide)))).trans ((zp_set_ne (Or.inl (zM_ne hMξ (hYbξ _ (List.mem_of_getElem? (i := 7) rfl)) (hYbξ _ (List.mem_of_getElem? (i := 32) rfl)) (by decide)))).trans ((zp_set_ne (Or.inl (zM_ne hMξ (hYbξ _ (List.mem_of_getElem? (i := 7) rfl)) (hYbξ _ (List.mem_of_getElem? (i := 31) rfl)) (by decide)))).trans ((zp_set_ne (Or.inl (zM_ne hMξ (hYbξ _ (List.mem_of_getElem? (i := 7) rfl)) (hYbξ _ (List.mem_of_getElem? (i := 32) rfl)) (by decide)))).trans ((zp_set_ne (Or.inl (zM_ne hMξ (hYbξ _ (List.mem_of_getElem? (i := 7) rfl)) (hYbξ _ (List.mem_of_getElem? (i := 31) rfl)) (by decide)))).trans ((zp_set_ne (Or.inl (zM_ne hMξ (hYbξ _ (List.mem_of_getElem? (i := 7) rfl)) (hYbξ _ (List.mem_of_getElem? (i := 32) rfl)) (by decide)))).trans ((zp_set_ne (Or.inl (zM_ne hMξ (hYbξ _ (List.mem_of_getElem? (i := 7) rfl)) (hYbξ _ (List.mem_of_getElem? (i := 31) rfl)) (by decide)))).trans ((zp_set_ne (Or.inl (zM_ne hMξ (hYbξ _ (List.mem_of_getElem? (i := 7) rfl)) (hYbξ _ (List.mem_of_getElem? (i := 32) rfl)) (by decide)))).trans ((zp_set_ne (Or.inl (zM_ne hMξ (hYbξ _ (List.mem_of_getElem? (i := 7) rfl)) (hYbξ _ (List.mem_of_getElem? (i := 31) rfl)) (by decide)))).trans ((zp_set_ne (Or.inr (by decide))).trans ((zp_set_ne (Or.inr (by decide))).trans (((zM_G hMξ (hYbξ _ (List.mem_of_getElem? (i := 7) rfl)) 1).trans (zM_F hMξ (hFbξ _ (List.mem_of_getElem? (i := 29) rfl)))))))))))))))))) ?_
              refine zp_load (pc := 51) hx hb (zd_X2_sleep (51, .iload_n 1, 1, 0, []) (List.mem_of_getElem? (i := 32) rfl)) rfl (j := 0) rfl ?_
              refine zp_iald (j := 5) (v := (V 54 (2000 + 5))) (pc := 52) hx hb hwξ (zd_X2_sleep (52, .iaload, 1, 0, []) (List.mem_of_getElem? (i := 33) rfl)) (show zp_ia 1 18 = some (6, 0, 0, 0, 45) from rfl) (zM_P hMξ (hYbξ _ (List.mem_of_getElem? (i := 32) rfl))) (by omega) (by omega) ((zp_set_ne (Or.inl (zM_ne hMξ (hYbξ _ (List.mem_of_getElem? (i := 32) rfl)) (hYbξ _ (List.mem_of_getElem? (i := 31) rfl)) (by decide)))).trans ((zp_set_ne (Or.inr (by omega))).trans ((zp_set_ne (Or.inl (zM_ne hMξ (hYbξ _ (List.mem_of_getElem? (i := 32) rfl)) (hYbξ _ (List.mem_of_getElem? (i := 31) rfl)) (by decide)))).trans ((zp_set_ne (Or.inr (by omega))).trans ((zp_set_ne (Or.inl (zM_ne hMξ (hYbξ _ (List.mem_of_getElem? (i := 32) rfl)) (hYbξ _ (List.mem_of_getElem? (i := 31) rfl)) (by decide)))).trans ((zp_set_ne (Or.inr (by omega))).trans ((zp_set_ne (Or.inl (zM_ne hMξ (hYbξ _ (List.mem_of_getElem? (i := 32) rfl)) (hYbξ _ (List.mem_of_getElem? (i := 31) rfl)) (by decide)))).trans ((zp_set_ne (Or.inr (by omega))).trans ((zp_set_ne (Or.inl (zM_ne hMξ (hYbξ _ (List.mem_of_getElem? (i := 32) rfl)) (hYbξ _ (List.mem_of_getElem? (i := 31) rfl)) (by decide)))).trans ((zp_set_ne (Or.inr (by omega))).trans ((zp_set_ne (Or.inl (zM_ne hMξ (hYbξ _ (List.mem_of_getElem? (i := 32) rfl)) (hYbξ _ (List.mem_of_getElem? (i := 31) rfl)) (by decide)))).trans ((zp_set_ne (Or.inl (zM_ne hMξ (hYbξ _ (List.mem_of_getElem? (i := 32) rfl)) (hYbξ _ (List.mem_of_getElem? (i := 7) rfl)) (by decide)))).trans ((zp_set_ne (Or.inl (zM_ne hMξ (hYbξ _ (List.mem_of_getElem? (i := 32) rfl)) (hYbξ _ (List.mem_of_getElem? (i := 7) rfl)) (by decide)))).trans (((zM_G hMξ (hYbξ _ (List.mem_of_getElem? (i := 32) rfl)) (2000 + 5)).trans (hVξ 54 (2000 + 5) (by decide))))))))))))))))) (fun hk391ξ => ?_)
              have hk391bξ := zp_int hk391ξ
              clear hk391ξ
              refine zp_const (pc := 53) hx hb (zd_X2_sleep (53, .iconst 1, 1, 0, []) (List.mem_of_getElem? (i := 34) rfl)) rfl rfl ?_
              refine zp_sub (n := ((V 54 (2000 + 5)) - 1)) (pc := 54) hx hb (zd_X2_sleep (54, .isub, 1, 0, []) (List.mem_of_getElem? (i := 35) rfl)) (by omega) (zp_r0 (by omega) (by omega)) ?_
              refine zp_mm (n := (max 0 ((V 54 (2000 + 5)) - 1))) (S := [(0, 5), (2, (A 54 : Int))]) (pc := 55) hx hb hEξ hrmξ (zd_X2_sleep (55, .invokestatic 41, 3, 0, []) (List.mem_of_getElem? (i := 36) rfl)) (j := 9) rfl (Or.inl ⟨rfl, by omega⟩) ⟨by decide, Nat.le_of_ble_eq_true rfl⟩ ?_
              refine zp_iast (j := 5) (pc := 58) hx hb hwξ heffξ (zd_X2_sleep (58, .iastore, 1, 0, []) (List.mem_of_getElem? (i := 37) rfl)) (show zp_ia 1 18 = some (6, 0, 0, 0, 45) from rfl) (zM_P hMξ (hYbξ _ (List.mem_of_getElem? (i := 32) rfl))) (by omega) (by omega) (zp_o0 (by omega) (by omega) (by omega) (by omega)) rfl ?_
              refine zp_iinc (L' := [(1, 0, 6), (0, 2, (A 7 : Int))]) (n := 6) (pc := 59) hx hb hnLξ (zd_X2_sleep (59, .iinc 1 1, 3, 0, []) (List.mem_of_getElem? (i := 38) rfl)) (j := 0) rfl (by omega) (zp_r0 (by omega) (by omega)) rfl rfl ?_
              refine zp_goto (tgt := 17) (pc := 62) hx hb (zd_X2_sleep (62, .goto (-45), 3, 0, []) (List.mem_of_getElem? (i := 39) rfl)) rfl ?_
              refine zp_load (pc := 17) hx hb (zd_X2_sleep (17, .iload_n 1, 1, 0, []) (List.mem_of_getElem? (i := 11) rfl)) rfl (j := 0) rfl ?_
              refine zp_const (pc := 18) hx hb (zd_X2_sleep (18, .bipush 6, 2, 0, []) (List.mem_of_getElem? (i := 12) rfl)) rfl rfl ?_
              refine zp_icmp (pc := 20) (tgt := 65) hx hb (zd_X2_sleep (20, .if_icmp .ge 45, 3, 0, []) (List.mem_of_getElem? (i := 13) rfl)) rfl (fun (hc392ξ : 6 ≤ (6 : Int)) => ?_) (fun (hc392ξ : ¬ (6 ≤ (6 : Int))) => ?_)
              · refine zp_vret (pc := 65) hx hb hEξ hQξ hU5ξ rfl (by decide) (zd_X2_sleep (65, .return_, 1, 0, []) (List.mem_of_getElem? (i := 40) rfl)) (j := 0) rfl ?_
                rw [hpsξ]
                refine ⟨rfl, ?_⟩
                have hffξ : zf_slp7 V = (0, (zp_set (zp_set (zp_set (zp_set (zp_set (zp_set (zp_set (zp_set (zp_set (zp_set (zp_set (zp_set (zp_set (zp_set V 7 6 ((V 7 6) + 1)) 7 5 (-1)) 53 (2000 + 0) (max 0 ((V 53 (2000 + 0)) - 1))) 54 (2000 + 0) (max 0 ((V 54 (2000 + 0)) - 1))) 53 (2000 + 1) (max 0 ((V 53 (2000 + 1)) - 1))) 54 (2000 + 1) (max 0 ((V 54 (2000 + 1)) - 1))) 53 (2000 + 2) (max 0 ((V 53 (2000 + 2)) - 1))) 54 (2000 + 2) (max 0 ((V 54 (2000 + 2)) - 1))) 53 (2000 + 3) (max 0 ((V 53 (2000 + 3)) - 1))) 54 (2000 + 3) (max 0 ((V 54 (2000 + 3)) - 1))) 53 (2000 + 4) (max 0 ((V 53 (2000 + 4)) - 1))) 54 (2000 + 4) (max 0 ((V 54 (2000 + 4)) - 1))) 53 (2000 + 5) (max 0 ((V 53 (2000 + 5)) - 1))) 54 (2000 + 5) (max 0 ((V 54 (2000 + 5)) - 1)))) := rfl
                show zMVc A Y F (zf_slp7 V).2 u.1 (zp_set (zp_set (zp_set (zp_set (zp_set (zp_set (zp_set (zp_set (zp_set (zp_set (zp_set (zp_set (zp_set (zp_set (zp_n u.2.1) (A 7) 6 ((V 7 6) + 1)) (A 7) 5 (-1)) (A 53) (2000 + 0) (max 0 ((V 53 (2000 + 0)) - 1))) (A 54) (2000 + 0) (max 0 ((V 54 (2000 + 0)) - 1))) (A 53) (2000 + 1) (max 0 ((V 53 (2000 + 1)) - 1))) (A 54) (2000 + 1) (max 0 ((V 54 (2000 + 1)) - 1))) (A 53) (2000 + 2) (max 0 ((V 53 (2000 + 2)) - 1))) (A 54) (2000 + 2) (max 0 ((V 54 (2000 + 2)) - 1))) (A 53) (2000 + 3) (max 0 ((V 53 (2000 + 3)) - 1))) (A 54) (2000 + 3) (max 0 ((V 54 (2000 + 3)) - 1))) (A 53) (2000 + 4) (max 0 ((V 53 (2000 + 4)) - 1))) (A 54) (2000 + 4) (max 0 ((V 54 (2000 + 4)) - 1))) (A 53) (2000 + 5) (max 0 ((V 53 (2000 + 5)) - 1))) (A 54) (2000 + 5) (max 0 ((V 54 (2000 + 5)) - 1)))
                rw [hffξ]
                exact ⟨(zp_set (zp_set (zp_set (zp_set (zp_set (zp_set (zp_set (zp_set (zp_set (zp_set (zp_set (zp_set (zp_set (zp_set M 7 6 ((V 7 6) + 1)) 7 5 (-1)) 53 (2000 + 0) (max 0 ((V 53 (2000 + 0)) - 1))) 54 (2000 + 0) (max 0 ((V 54 (2000 + 0)) - 1))) 53 (2000 + 1) (max 0 ((V 53 (2000 + 1)) - 1))) 54 (2000 + 1) (max 0 ((V 54 (2000 + 1)) - 1))) 53 (2000 + 2) (max 0 ((V 53 (2000 + 2)) - 1))) 54 (2000 + 2) (max 0 ((V 54 (2000 + 2)) - 1))) 53 (2000 + 3) (max 0 ((V 53 (2000 + 3)) - 1))) 54 (2000 + 3) (max 0 ((V 54 (2000 + 3)) - 1))) 53 (2000 + 4) (max 0 ((V 53 (2000 + 4)) - 1))) 54 (2000 + 4) (max 0 ((V 54 (2000 + 4)) - 1))) 53 (2000 + 5) (max 0 ((V 53 (2000 + 5)) - 1))) 54 (2000 + 5) (max 0 ((V 54 (2000 + 5)) - 1))), (zM_setE (zM_setE (zM_setE (zM_setE (zM_setE (zM_setE (zM_setE (zM_setE (zM_setE (zM_setE (zM_setE (zM_setE (zM_set (zM_set hMξ (hYbξ _ (List.mem_of_getElem? (i := 7) rfl)) (zFx hFxξ (o := 7) (k := 6) (by decide) (by decide))) (hYbξ _ (List.mem_of_getElem? (i := 7) rfl)) (zFx hFxξ (o := 7) (k := 5) (by decide) (by decide))) (hYbξ _ (List.mem_of_getElem? (i := 31) rfl))) (hYbξ _ (List.mem_of_getElem? (i := 32) rfl))) (hYbξ _ (List.mem_of_getElem? (i := 31) rfl))) (hYbξ _ (List.mem_of_getElem? (i := 32) rfl))) (hYbξ _ (List.mem_of_getElem? (i := 31) rfl))) (hYbξ _ (List.mem_of_getElem? (i := 32) rfl))) (hYbξ _ (List.mem_of_getElem? (i := 31) rfl))) (hYbξ _ (List.mem_of_getElem? (i := 32) rfl))) (hYbξ _ (List.mem_of_getElem? (i := 31) rfl))) (hYbξ _ (List.mem_of_getElem? (i := 32) rfl))) (hYbξ _ (List.mem_of_getElem? (i := 31) rfl))) (hYbξ _ (List.mem_of_getElem? (i := 32) rfl))), (zV_set (zV_set (zV_set (zV_set (zV_set (zV_set (zV_set (zV_set (zV_set (zV_set (zV_set (zV_set (zV_set (zV_set hVξ)))))))))))))), trivial⟩
              · exfalso
                omega
theorem zf_slp7_f {V : Nat → Nat → Int} {o k : Nat} (h9ξ : o ∉ ([7, 53, 54] : List Nat)) : (zf_slp7 V).2 o k = V o k := by
  unfold zf_slp7
  show (zp_set (zp_set (zp_set (zp_set (zp_set (zp_set (zp_set (zp_set (zp_set (zp_set (zp_set (zp_set (zp_set (zp_set V 7 6 ((V 7 6) + 1)) 7 5 (-1)) 53 (2000 + 0) (max 0 ((V 53 (2000 + 0)) - 1))) 54 (2000 + 0) (max 0 ((V 54 (2000 + 0)) - 1))) 53 (2000 + 1) (max 0 ((V 53 (2000 + 1)) - 1))) 54 (2000 + 1) (max 0 ((V 54 (2000 + 1)) - 1))) 53 (2000 + 2) (max 0 ((V 53 (2000 + 2)) - 1))) 54 (2000 + 2) (max 0 ((V 54 (2000 + 2)) - 1))) 53 (2000 + 3) (max 0 ((V 53 (2000 + 3)) - 1))) 54 (2000 + 3) (max 0 ((V 54 (2000 + 3)) - 1))) 53 (2000 + 4) (max 0 ((V 53 (2000 + 4)) - 1))) 54 (2000 + 4) (max 0 ((V 54 (2000 + 4)) - 1))) 53 (2000 + 5) (max 0 ((V 53 (2000 + 5)) - 1))) 54 (2000 + 5) (max 0 ((V 54 (2000 + 5)) - 1))) o k = V o k
  exact ((zp_set_ne (Or.inl (zc_nin h9ξ (by decide)))).trans ((zp_set_ne (Or.inl (zc_nin h9ξ (by decide)))).trans ((zp_set_ne (Or.inl (zc_nin h9ξ (by decide)))).trans ((zp_set_ne (Or.inl (zc_nin h9ξ (by decide)))).trans ((zp_set_ne (Or.inl (zc_nin h9ξ (by decide)))).trans ((zp_set_ne (Or.inl (zc_nin h9ξ (by decide)))).trans ((zp_set_ne (Or.inl (zc_nin h9ξ (by decide)))).trans ((zp_set_ne (Or.inl (zc_nin h9ξ (by decide)))).trans ((zp_set_ne (Or.inl (zc_nin h9ξ (by decide)))).trans ((zp_set_ne (Or.inl (zc_nin h9ξ (by decide)))).trans ((zp_set_ne (Or.inl (zc_nin h9ξ (by decide)))).trans ((zp_set_ne (Or.inl (zc_nin h9ξ (by decide)))).trans ((zp_set_ne (Or.inl (zc_nin h9ξ (by decide)))).trans (zp_set_ne (Or.inl (zc_nin h9ξ (by decide)))))))))))))))))
def zf_kep3 (V : Nat → Nat → Int) (p1ξ : Int) : Int × (Nat → Nat → Int) := if 16 ≤ (V 3 3) then (0, (zf_kpi2 (zp_set (zp_set V 3 2 (((V 3 2) + 1) % 16)) 62 (2000 + (((V 3 2) + (V 3 3)) % 16).toNat) p1ξ) (((V 3 2) + (V 3 3)) % 16).toNat).2) else (0, (zf_kpi2 (zp_set (zp_set V 3 3 ((V 3 3) + 1)) 62 (2000 + (((V 3 2) + (V 3 3)) % 16).toNat) p1ξ) (((V 3 2) + (V 3 3)) % 16).toNat).2)
def zK_kep3 : zk_K := (zt_mn 88, prog_12_method_3_code, 4, (Option.none : Option Jvm.ClassFile.FieldType), 1, 10, [(2, 11, 0, 0), (0, 0, (-2147483648), 2147483647), (2, 2, 0, 0)], [(none, [])], zUC, (2, 120, 0, 0))
def zφ_kep3 (A : Nat → Nat) (Y : List (Nat × Nat)) (F : List (Nat × Nat × Nat)) (V : Nat → Nat → Int) : (Nat → Option Nat) → (Nat → Nat → Int) → List Int → Prop := fun P G ps => zMVc A Y F V P G ∧ ps.getD 0 0 = (A 3 : Int) ∧ zMc Y F ∧ (ps.getD 2 0) = (A 2 : Int)
def zψ_kep3 (A : Nat → Nat) (Y : List (Nat × Nat)) (F : List (Nat × Nat × Nat)) (V : Nat → Nat → Int) : (Nat → Option Nat) → (Nat → Nat → Int) → List Int → (Nat → Option Nat) → (Nat → Nat → Int) → Int → Prop := fun P G ps P' G' rn => P' = P ∧ zMVc A Y F (zf_kep3 V (ps.getD 1 0)).2 P' G'
theorem zX_kep3 {l : Launch} {w : zk_W} (hWξ : zh_W w) (A : Nat → Nat) (Y : List (Nat × Nat)) (F : List (Nat × Nat × Nat)) (V : Nat → Nat → Int) : zk_metX l w zt_dv zt_TB zK_kep3 (zp_A (zφ_kep3 A Y F V)) (zp_B (zψ_kep3 A Y F V)) ∧ zk_cok w zt_TB zK_kep3 := by
  refine zp_methX (cn := "WoundTown$Undo") zp_lkallU hWξ (pl := 929) rfl (by decide +kernel) (fun p e R s m args below meth c Q u hx hb hEξ hQξ hU5ξ heffξ hnLξ hokξ hφ => ?_)
  have hwξ := hWξ.1
  obtain ⟨p0ξ, p1ξ, p2ξ, hpsξ, tk0, tk1, tk2⟩ := zp_ps3 hokξ
  have hrmξ : zk_Kr (zk_ev (zt_types, zp_lkU, zt_dv, [], [], zp_lcU, zK_kep3)) = zk_Kr zK_kep3 := rfl
  rw [hpsξ] at hφ ⊢
  have hφ : zMVc A Y F V u.1 (zp_n u.2.1) ∧ p0ξ = (A 3 : Int) ∧ zMc Y F ∧ p2ξ = (A 2 : Int) := hφ
  obtain ⟨⟨M, hMξ, hVξ, hSbξ⟩, rfl, hYFξ, rfl⟩ := hφ
  have hYF0ξ := hYFξ
  obtain ⟨hYbξ, hFbξ, hFxξ, -⟩ := hYFξ
  have hi1ξ := zp_int tk1
  show zp_J p l e R s m args below meth c Q w u [] 0 [(0, 2, (A 3 : Int)), (1, 0, p1ξ), (2, 2, (A 2 : Int))] [] u.1 (zp_n u.2.1)
  refine zp_load (pc := 0) hx hb (zd_X10_keep (0, .aload_n 0, 1, 0, []) (List.mem_of_getElem? (i := 0) rfl)) rfl (j := 0) rfl ?_
  refine zp_getf (n := (V 3 2)) (pc := 1) hx hb hEξ hwξ (zd_X10_keep (1, .getfield 24, 3, 0, []) (List.mem_of_getElem? (i := 1) rfl)) (j := 3) rfl rfl rfl (zM_P hMξ (hYbξ _ (List.mem_of_getElem? (i := 3) rfl))) ((zM_G hMξ (hYbξ _ (List.mem_of_getElem? (i := 3) rfl)) 2).trans (hVξ 3 2 (by decide))) ?_
  refine zp_kn (k := 2) (a := (A 3)) hwξ (show zp_fd 11 2 = some (10, 0, 0, 0, 15) from rfl) rfl (zM_P hMξ (hYbξ _ (List.mem_of_getElem? (i := 3) rfl))) (fun hf393ξ => ?_)
  have hf393bξ := zp_int hf393ξ
  rw [((zM_G hMξ (hYbξ _ (List.mem_of_getElem? (i := 3) rfl)) 2).trans (hVξ 3 2 (by decide)))] at hf393bξ
  clear hf393ξ
  refine zp_load (pc := 4) hx hb (zd_X10_keep (4, .aload_n 0, 1, 0, []) (List.mem_of_getElem? (i := 2) rfl)) rfl (j := 0) rfl ?_
  refine zp_getf (n := (V 3 3)) (pc := 5) hx hb hEξ hwξ (zd_X10_keep (5, .getfield 20, 3, 0, []) (List.mem_of_getElem? (i := 3) rfl)) (j := 4) rfl rfl rfl (zM_P hMξ (hYbξ _ (List.mem_of_getElem? (i := 3) rfl))) ((zM_G hMξ (hYbξ _ (List.mem_of_getElem? (i := 3) rfl)) 3).trans (hVξ 3 3 (by decide))) ?_
  refine zp_kn (k := 3) (a := (A 3)) hwξ (show zp_fd 11 3 = some (10, 0, 0, 0, 16) from rfl) rfl (zM_P hMξ (hYbξ _ (List.mem_of_getElem? (i := 3) rfl))) (fun hf394ξ => ?_)
  have hf394bξ := zp_int hf394ξ
  rw [((zM_G hMξ (hYbξ _ (List.mem_of_getElem? (i := 3) rfl)) 3).trans (hVξ 3 3 (by decide)))] at hf394bξ
  clear hf394ξ
  refine zp_add (n := ((V 3 2) + (V 3 3))) (pc := 8) hx hb (zd_X10_keep (8, .iadd, 1, 0, []) (List.mem_of_getElem? (i := 4) rfl)) (by omega) (zp_r0 (by omega) (by omega)) ?_
  refine zp_const (pc := 9) hx hb (zd_X10_keep (9, .bipush 16, 2, 0, []) (List.mem_of_getElem? (i := 5) rfl)) rfl rfl ?_
  refine zp_iremx (n := (((V 3 2) + (V 3 3)) % 16)) (pc := 11) hx hb (zd_X10_keep (11, .irem, 1, 0, []) (List.mem_of_getElem? (i := 6) rfl)) (by decide) (Int.tmod_eq_emod_of_nonneg (by omega)) (zp_r0 (by omega) (by omega)) ?_
  refine zp_store (L' := [(3, 0, (((V 3 2) + (V 3 3)) % 16)), (0, 2, (A 3 : Int)), (1, 0, p1ξ), (2, 2, (A 2 : Int))]) (pc := 12) hx hb hnLξ (zd_X10_keep (12, .istore_n 3, 1, 0, []) (List.mem_of_getElem? (i := 7) rfl)) rfl rfl rfl ?_
  refine zp_load (pc := 13) hx hb (zd_X10_keep (13, .aload_n 0, 1, 0, []) (List.mem_of_getElem? (i := 8) rfl)) rfl (j := 1) rfl ?_
  refine zp_getf (n := (V 3 3)) (pc := 14) hx hb hEξ hwξ (zd_X10_keep (14, .getfield 20, 3, 0, []) (List.mem_of_getElem? (i := 9) rfl)) (j := 4) rfl rfl rfl (zM_P hMξ (hYbξ _ (List.mem_of_getElem? (i := 3) rfl))) ((zM_G hMξ (hYbξ _ (List.mem_of_getElem? (i := 3) rfl)) 3).trans (hVξ 3 3 (by decide))) ?_
  refine zp_const (pc := 17) hx hb (zd_X10_keep (17, .bipush 16, 2, 0, []) (List.mem_of_getElem? (i := 10) rfl)) rfl rfl ?_
  refine zp_icmp (pc := 19) (tgt := 35) hx hb (zd_X10_keep (19, .if_icmp .ge 16, 3, 0, []) (List.mem_of_getElem? (i := 11) rfl)) rfl (fun (hc395ξ : 16 ≤ (V 3 3)) => ?_) (fun (hc395ξ : ¬ (16 ≤ (V 3 3))) => ?_)
  · refine zp_load (pc := 35) hx hb (zd_X10_keep (35, .aload_n 0, 1, 0, []) (List.mem_of_getElem? (i := 19) rfl)) rfl (j := 1) rfl ?_
    refine zp_load (pc := 36) hx hb (zd_X10_keep (36, .aload_n 0, 1, 0, []) (List.mem_of_getElem? (i := 20) rfl)) rfl (j := 1) rfl ?_
    refine zp_getf (n := (V 3 2)) (pc := 37) hx hb hEξ hwξ (zd_X10_keep (37, .getfield 24, 3, 0, []) (List.mem_of_getElem? (i := 21) rfl)) (j := 3) rfl rfl rfl (zM_P hMξ (hYbξ _ (List.mem_of_getElem? (i := 3) rfl))) ((zM_G hMξ (hYbξ _ (List.mem_of_getElem? (i := 3) rfl)) 2).trans (hVξ 3 2 (by decide))) ?_
    refine zp_const (pc := 40) hx hb (zd_X10_keep (40, .iconst 1, 1, 0, []) (List.mem_of_getElem? (i := 22) rfl)) rfl rfl ?_
    refine zp_add (n := ((V 3 2) + 1)) (pc := 41) hx hb (zd_X10_keep (41, .iadd, 1, 0, []) (List.mem_of_getElem? (i := 23) rfl)) (by omega) (zp_r0 (by omega) (by omega)) ?_
    refine zp_const (pc := 42) hx hb (zd_X10_keep (42, .bipush 16, 2, 0, []) (List.mem_of_getElem? (i := 24) rfl)) rfl rfl ?_
    refine zp_iremx (n := (((V 3 2) + 1) % 16)) (pc := 44) hx hb (zd_X10_keep (44, .irem, 1, 0, []) (List.mem_of_getElem? (i := 25) rfl)) (by decide) (Int.tmod_eq_emod_of_nonneg (by omega)) (zp_r0 (by omega) (by omega)) ?_
    refine zp_putf (pc := 45) hx hb hEξ hwξ heffξ (zd_X10_keep (45, .putfield 24, 3, 0, []) (List.mem_of_getElem? (i := 26) rfl)) (j := 3) rfl rfl rfl (zM_P hMξ (hYbξ _ (List.mem_of_getElem? (i := 3) rfl))) (zp_o0 (by omega) (by omega) (by omega) (by omega)) ?_
    refine zp_load (pc := 48) hx hb (zd_X10_keep (48, .aload_n 0, 1, 0, []) (List.mem_of_getElem? (i := 27) rfl)) rfl (j := 1) rfl ?_
    refine zp_getf (n := (A 62 : Int)) (pc := 49) hx hb hEξ hwξ (zd_X10_keep (49, .getfield 11, 3, 0, []) (List.mem_of_getElem? (i := 28) rfl)) (j := 1) rfl rfl rfl (zM_P hMξ (hYbξ _ (List.mem_of_getElem? (i := 3) rfl))) ((zp_set_ne (Or.inr (by decide))).trans (((zM_G hMξ (hYbξ _ (List.mem_of_getElem? (i := 3) rfl)) 0).trans (zM_F hMξ (hFbξ _ (List.mem_of_getElem? (i := 37) rfl)))))) ?_
    refine zp_load (pc := 52) hx hb (zd_X10_keep (52, .iload_n 3, 1, 0, []) (List.mem_of_getElem? (i := 29) rfl)) rfl (j := 0) rfl ?_
    refine zp_load (pc := 53) hx hb (zd_X10_keep (53, .iload_n 1, 1, 0, []) (List.mem_of_getElem? (i := 30) rfl)) rfl (j := 2) rfl ?_
    refine zp_iast (j := (((V 3 2) + (V 3 3)) % 16).toNat) (pc := 54) hx hb hwξ heffξ (zd_X10_keep (54, .iastore, 1, 0, []) (List.mem_of_getElem? (i := 31) rfl)) (show zp_ia 1 53 = some (16, 0, 0, (-2147483648), 2147483647) from rfl) (zM_P hMξ (hYbξ _ (List.mem_of_getElem? (i := 40) rfl))) (by omega) (by omega) (zp_o0 (by omega) (by omega) (by omega) (by omega)) rfl ?_
    refine zp_load (pc := 55) hx hb (zd_X10_keep (55, .aload_n 2, 1, 0, []) (List.mem_of_getElem? (i := 32) rfl)) rfl (j := 3) rfl ?_
    refine zp_load (pc := 56) hx hb (zd_X10_keep (56, .aload_n 0, 1, 0, []) (List.mem_of_getElem? (i := 33) rfl)) rfl (j := 1) rfl ?_
    refine zp_getf (n := (A 63 : Int)) (pc := 57) hx hb hEξ hwξ (zd_X10_keep (57, .getfield 17, 3, 0, []) (List.mem_of_getElem? (i := 34) rfl)) (j := 2) rfl rfl rfl (zM_P hMξ (hYbξ _ (List.mem_of_getElem? (i := 3) rfl))) ((zp_set_ne (Or.inl (zM_ne hMξ (hYbξ _ (List.mem_of_getElem? (i := 3) rfl)) (hYbξ _ (List.mem_of_getElem? (i := 40) rfl)) (by decide)))).trans ((zp_set_ne (Or.inr (by decide))).trans (((zM_G hMξ (hYbξ _ (List.mem_of_getElem? (i := 3) rfl)) 1).trans (zM_F hMξ (hFbξ _ (List.mem_of_getElem? (i := 38) rfl))))))) ?_
    refine zp_load (pc := 60) hx hb (zd_X10_keep (60, .iload_n 3, 1, 0, []) (List.mem_of_getElem? (i := 35) rfl)) rfl (j := 0) rfl ?_
    refine zp_const (pc := 61) hx hb (zd_X10_keep (61, .bipush 26, 2, 0, []) (List.mem_of_getElem? (i := 36) rfl)) rfl rfl ?_
    refine zp_mul (n := ((((V 3 2) + (V 3 3)) % 16) * 26)) (pc := 63) hx hb (zd_X10_keep (63, .imul, 1, 0, []) (List.mem_of_getElem? (i := 37) rfl)) (by omega) (zp_r0 (by omega) (by omega)) ?_
    refine zp_call (pc := 64) (how := 0) (idx := 27) (mi := 89) (S := []) hx hb hEξ hwξ heffξ hrmξ (zX_kpi2 hWξ A Y F (zp_set (zp_set V 3 2 (((V 3 2) + 1) % 16)) 62 (2000 + (((V 3 2) + (V 3 3)) % 16).toNat) p1ξ) (((V 3 2) + (V 3 3)) % 16).toNat) rfl (j := 0) rfl rfl (by decide +kernel) (zd_X10_keep (64, .invokevirtual 27, 3, 0, []) (List.mem_of_getElem? (i := 38) rfl)) [(A 2 : Int), (A 63 : Int), ((((V 3 2) + (V 3 3)) % 16) * 26)] rfl ⟨zp_o2 (zM_P hMξ (hYbξ _ (List.mem_of_getElem? (i := 2) rfl))), zp_o2 (zM_P hMξ (hYbξ _ (List.mem_of_getElem? (i := 41) rfl))), zp_o0 (by omega) (by omega) (by omega) (by omega), trivial⟩ (Nat.le_of_ble_eq_true rfl) ⟨⟨(zp_set (zp_set M 3 2 (((V 3 2) + 1) % 16)) 62 (2000 + (((V 3 2) + (V 3 3)) % 16).toNat) p1ξ), (zM_setE (zM_set hMξ (hYbξ _ (List.mem_of_getElem? (i := 3) rfl)) (zFx hFxξ (o := 3) (k := 2) (by decide) (by decide))) (hYbξ _ (List.mem_of_getElem? (i := 40) rfl))), (zV_set (zV_set hVξ)), trivial⟩, rfl, hYF0ξ, rfl, (by simp only [List.getD_cons_succ, List.getD_cons_zero]; omega), (by omega)⟩ (fun al halξ rna396ξ Pa396 Ga396 hexta396ξ hfra396ξ hoka396ξ hcsa396ξ hpsia396ξ => ?_)
    obtain rfl := List.mem_singleton.mp halξ
    obtain ⟨hPea396ξ, Ma396, hMa396ξ, hVa396ξ, hSba396ξ⟩ := hpsia396ξ
    subst hPea396ξ
    clear hexta396ξ hfra396ξ hcsa396ξ hoka396ξ
    have hVa396ξ : ∀ o k, zNc o → Ma396 o k = (zf_kpi2 (zp_set (zp_set V 3 2 (((V 3 2) + 1) % 16)) 62 (2000 + (((V 3 2) + (V 3 3)) % 16).toNat) p1ξ) (((V 3 2) + (V 3 3)) % 16).toNat).2 o k := hVa396ξ
    refine zp_vret (pc := 67) hx hb hEξ hQξ hU5ξ rfl (by decide) (zd_X10_keep (67, .return_, 1, 0, []) (List.mem_of_getElem? (i := 39) rfl)) (j := 0) rfl ?_
    rw [hpsξ]
    refine ⟨rfl, ?_⟩
    have hffξ : zf_kep3 V p1ξ = (0, (zf_kpi2 (zp_set (zp_set V 3 2 (((V 3 2) + 1) % 16)) 62 (2000 + (((V 3 2) + (V 3 3)) % 16).toNat) p1ξ) (((V 3 2) + (V 3 3)) % 16).toNat).2) := by
      unfold zf_kep3
      rw [if_pos hc395ξ]
    show zMVc A Y F (zf_kep3 V p1ξ).2 u.1 Ga396
    rw [hffξ]
    exact ⟨Ma396, hMa396ξ, hVa396ξ, trivial⟩
  · refine zp_load (pc := 22) hx hb (zd_X10_keep (22, .aload_n 0, 1, 0, []) (List.mem_of_getElem? (i := 12) rfl)) rfl (j := 1) rfl ?_
    refine zp_dup (pc := 23) hx hb (zd_X10_keep (23, .dup, 1, 0, []) (List.mem_of_getElem? (i := 13) rfl)) (show (2 : Nat) ≠ 1 by decide) ?_
    refine zp_getf (n := (V 3 3)) (pc := 24) hx hb hEξ hwξ (zd_X10_keep (24, .getfield 20, 3, 0, []) (List.mem_of_getElem? (i := 14) rfl)) (j := 4) rfl rfl rfl (zM_P hMξ (hYbξ _ (List.mem_of_getElem? (i := 3) rfl))) ((zM_G hMξ (hYbξ _ (List.mem_of_getElem? (i := 3) rfl)) 3).trans (hVξ 3 3 (by decide))) ?_
    refine zp_const (pc := 27) hx hb (zd_X10_keep (27, .iconst 1, 1, 0, []) (List.mem_of_getElem? (i := 15) rfl)) rfl rfl ?_
    refine zp_add (n := ((V 3 3) + 1)) (pc := 28) hx hb (zd_X10_keep (28, .iadd, 1, 0, []) (List.mem_of_getElem? (i := 16) rfl)) (by omega) (zp_r0 (by omega) (by omega)) ?_
    refine zp_putf (pc := 29) hx hb hEξ hwξ heffξ (zd_X10_keep (29, .putfield 20, 3, 0, []) (List.mem_of_getElem? (i := 17) rfl)) (j := 4) rfl rfl rfl (zM_P hMξ (hYbξ _ (List.mem_of_getElem? (i := 3) rfl))) (zp_o0 (by omega) (by omega) (by omega) (by omega)) ?_
    refine zp_goto (tgt := 48) (pc := 32) hx hb (zd_X10_keep (32, .goto 16, 3, 0, []) (List.mem_of_getElem? (i := 18) rfl)) rfl ?_
    refine zp_load (pc := 48) hx hb (zd_X10_keep (48, .aload_n 0, 1, 0, []) (List.mem_of_getElem? (i := 27) rfl)) rfl (j := 1) rfl ?_
    refine zp_getf (n := (A 62 : Int)) (pc := 49) hx hb hEξ hwξ (zd_X10_keep (49, .getfield 11, 3, 0, []) (List.mem_of_getElem? (i := 28) rfl)) (j := 1) rfl rfl rfl (zM_P hMξ (hYbξ _ (List.mem_of_getElem? (i := 3) rfl))) ((zp_set_ne (Or.inr (by decide))).trans (((zM_G hMξ (hYbξ _ (List.mem_of_getElem? (i := 3) rfl)) 0).trans (zM_F hMξ (hFbξ _ (List.mem_of_getElem? (i := 37) rfl)))))) ?_
    refine zp_load (pc := 52) hx hb (zd_X10_keep (52, .iload_n 3, 1, 0, []) (List.mem_of_getElem? (i := 29) rfl)) rfl (j := 0) rfl ?_
    refine zp_load (pc := 53) hx hb (zd_X10_keep (53, .iload_n 1, 1, 0, []) (List.mem_of_getElem? (i := 30) rfl)) rfl (j := 2) rfl ?_
    refine zp_iast (j := (((V 3 2) + (V 3 3)) % 16).toNat) (pc := 54) hx hb hwξ heffξ (zd_X10_keep (54, .iastore, 1, 0, []) (List.mem_of_getElem? (i := 31) rfl)) (show zp_ia 1 53 = some (16, 0, 0, (-2147483648), 2147483647) from rfl) (zM_P hMξ (hYbξ _ (List.mem_of_getElem? (i := 40) rfl))) (by omega) (by omega) (zp_o0 (by omega) (by omega) (by omega) (by omega)) rfl ?_
    refine zp_load (pc := 55) hx hb (zd_X10_keep (55, .aload_n 2, 1, 0, []) (List.mem_of_getElem? (i := 32) rfl)) rfl (j := 3) rfl ?_
    refine zp_load (pc := 56) hx hb (zd_X10_keep (56, .aload_n 0, 1, 0, []) (List.mem_of_getElem? (i := 33) rfl)) rfl (j := 1) rfl ?_
    refine zp_getf (n := (A 63 : Int)) (pc := 57) hx hb hEξ hwξ (zd_X10_keep (57, .getfield 17, 3, 0, []) (List.mem_of_getElem? (i := 34) rfl)) (j := 2) rfl rfl rfl (zM_P hMξ (hYbξ _ (List.mem_of_getElem? (i := 3) rfl))) ((zp_set_ne (Or.inl (zM_ne hMξ (hYbξ _ (List.mem_of_getElem? (i := 3) rfl)) (hYbξ _ (List.mem_of_getElem? (i := 40) rfl)) (by decide)))).trans ((zp_set_ne (Or.inr (by decide))).trans (((zM_G hMξ (hYbξ _ (List.mem_of_getElem? (i := 3) rfl)) 1).trans (zM_F hMξ (hFbξ _ (List.mem_of_getElem? (i := 38) rfl))))))) ?_
    refine zp_load (pc := 60) hx hb (zd_X10_keep (60, .iload_n 3, 1, 0, []) (List.mem_of_getElem? (i := 35) rfl)) rfl (j := 0) rfl ?_
    refine zp_const (pc := 61) hx hb (zd_X10_keep (61, .bipush 26, 2, 0, []) (List.mem_of_getElem? (i := 36) rfl)) rfl rfl ?_
    refine zp_mul (n := ((((V 3 2) + (V 3 3)) % 16) * 26)) (pc := 63) hx hb (zd_X10_keep (63, .imul, 1, 0, []) (List.mem_of_getElem? (i := 37) rfl)) (by omega) (zp_r0 (by omega) (by omega)) ?_
    refine zp_call (pc := 64) (how := 0) (idx := 27) (mi := 89) (S := []) hx hb hEξ hwξ heffξ hrmξ (zX_kpi2 hWξ A Y F (zp_set (zp_set V 3 3 ((V 3 3) + 1)) 62 (2000 + (((V 3 2) + (V 3 3)) % 16).toNat) p1ξ) (((V 3 2) + (V 3 3)) % 16).toNat) rfl (j := 0) rfl rfl (by decide +kernel) (zd_X10_keep (64, .invokevirtual 27, 3, 0, []) (List.mem_of_getElem? (i := 38) rfl)) [(A 2 : Int), (A 63 : Int), ((((V 3 2) + (V 3 3)) % 16) * 26)] rfl ⟨zp_o2 (zM_P hMξ (hYbξ _ (List.mem_of_getElem? (i := 2) rfl))), zp_o2 (zM_P hMξ (hYbξ _ (List.mem_of_getElem? (i := 41) rfl))), zp_o0 (by omega) (by omega) (by omega) (by omega), trivial⟩ (Nat.le_of_ble_eq_true rfl) ⟨⟨(zp_set (zp_set M 3 3 ((V 3 3) + 1)) 62 (2000 + (((V 3 2) + (V 3 3)) % 16).toNat) p1ξ), (zM_setE (zM_set hMξ (hYbξ _ (List.mem_of_getElem? (i := 3) rfl)) (zFx hFxξ (o := 3) (k := 3) (by decide) (by decide))) (hYbξ _ (List.mem_of_getElem? (i := 40) rfl))), (zV_set (zV_set hVξ)), trivial⟩, rfl, hYF0ξ, rfl, (by simp only [List.getD_cons_succ, List.getD_cons_zero]; omega), (by omega)⟩ (fun al halξ rna397ξ Pa397 Ga397 hexta397ξ hfra397ξ hoka397ξ hcsa397ξ hpsia397ξ => ?_)
    obtain rfl := List.mem_singleton.mp halξ
    obtain ⟨hPea397ξ, Ma397, hMa397ξ, hVa397ξ, hSba397ξ⟩ := hpsia397ξ
    subst hPea397ξ
    clear hexta397ξ hfra397ξ hcsa397ξ hoka397ξ
    have hVa397ξ : ∀ o k, zNc o → Ma397 o k = (zf_kpi2 (zp_set (zp_set V 3 3 ((V 3 3) + 1)) 62 (2000 + (((V 3 2) + (V 3 3)) % 16).toNat) p1ξ) (((V 3 2) + (V 3 3)) % 16).toNat).2 o k := hVa397ξ
    refine zp_vret (pc := 67) hx hb hEξ hQξ hU5ξ rfl (by decide) (zd_X10_keep (67, .return_, 1, 0, []) (List.mem_of_getElem? (i := 39) rfl)) (j := 0) rfl ?_
    rw [hpsξ]
    refine ⟨rfl, ?_⟩
    have hffξ : zf_kep3 V p1ξ = (0, (zf_kpi2 (zp_set (zp_set V 3 3 ((V 3 3) + 1)) 62 (2000 + (((V 3 2) + (V 3 3)) % 16).toNat) p1ξ) (((V 3 2) + (V 3 3)) % 16).toNat).2) := by
      unfold zf_kep3
      rw [if_neg hc395ξ]
    show zMVc A Y F (zf_kep3 V p1ξ).2 u.1 Ga397
    rw [hffξ]
    exact ⟨Ma397, hMa397ξ, hVa397ξ, trivial⟩
theorem zf_kep3_f {V : Nat → Nat → Int} {p1ξ : Int} {o k : Nat} (h9ξ : o ∉ ([3, 62, 63] : List Nat)) : (zf_kep3 V p1ξ).2 o k = V o k := by
  unfold zf_kep3
  by_cases hd2ξ : 16 ≤ (V 3 3)
  · rw [if_pos hd2ξ]
    show (zf_kpi2 (zp_set (zp_set V 3 2 (((V 3 2) + 1) % 16)) 62 (2000 + (((V 3 2) + (V 3 3)) % 16).toNat) p1ξ) (((V 3 2) + (V 3 3)) % 16).toNat).2 o k = V o k
    exact ((zf_kpi2_f (zc_sub h9ξ (by decide))).trans ((zp_set_ne (Or.inl (zc_nin h9ξ (by decide)))).trans (zp_set_ne (Or.inl (zc_nin h9ξ (by decide))))))
  · rw [if_neg hd2ξ]
    show (zf_kpi2 (zp_set (zp_set V 3 3 ((V 3 3) + 1)) 62 (2000 + (((V 3 2) + (V 3 3)) % 16).toNat) p1ξ) (((V 3 2) + (V 3 3)) % 16).toNat).2 o k = V o k
    exact ((zf_kpi2_f (zc_sub h9ξ (by decide))).trans ((zp_set_ne (Or.inl (zc_nin h9ξ (by decide)))).trans (zp_set_ne (Or.inl (zc_nin h9ξ (by decide))))))
def zf_tkb3 (V : Nat → Nat → Int) : Int × (Nat → Nat → Int) := if ¬ (V 3 3) = 0 then ((V 62 (2000 + (((V 3 2) + ((V 3 3) - 1)) % 16).toNat)), (zf_tkf2 (zp_set V 3 3 ((V 3 3) - 1)) (((V 3 2) + ((V 3 3) - 1)) % 16).toNat).2) else ((-1), V)
def zK_tkb3 : zk_K := (zt_mn 126, prog_12_method_4_code, 3, (Option.some Jvm.ClassFile.FieldType.int), 1, 10, [(2, 11, 0, 0), (2, 2, 0, 0)], [(some (0, 0, (-2147483648), 2147483647), [])], zUC, (2, 120, 0, 0))
def zφ_tkb3 (A : Nat → Nat) (Y : List (Nat × Nat)) (F : List (Nat × Nat × Nat)) (V : Nat → Nat → Int) : (Nat → Option Nat) → (Nat → Nat → Int) → List Int → Prop := fun P G ps => zMVc A Y F V P G ∧ ps.getD 0 0 = (A 3 : Int) ∧ zMc Y F ∧ (ps.getD 1 0) = (A 2 : Int)
def zψ_tkb3 (A : Nat → Nat) (Y : List (Nat × Nat)) (F : List (Nat × Nat × Nat)) (V : Nat → Nat → Int) : (Nat → Option Nat) → (Nat → Nat → Int) → List Int → (Nat → Option Nat) → (Nat → Nat → Int) → Int → Prop := fun P G ps P' G' rn => P' = P ∧ zMVc A Y F (zf_tkb3 V).2 P' G' ∧ rn = (zf_tkb3 V).1
theorem zX_tkb3 {l : Launch} {w : zk_W} (hWξ : zh_W w) (A : Nat → Nat) (Y : List (Nat × Nat)) (F : List (Nat × Nat × Nat)) (V : Nat → Nat → Int) : zk_metX l w zt_dv zt_TB zK_tkb3 (zp_A (zφ_tkb3 A Y F V)) (zp_B (zψ_tkb3 A Y F V)) ∧ zk_cok w zt_TB zK_tkb3 := by
  refine zp_methX (cn := "WoundTown$Undo") zp_lkallU hWξ (pl := 1086) rfl (by decide +kernel) (fun p e R s m args below meth c Q u hx hb hEξ hQξ hU5ξ heffξ hnLξ hokξ hφ => ?_)
  have hwξ := hWξ.1
  obtain ⟨p0ξ, p1ξ, hpsξ, tk0, tk1⟩ := zp_ps2 hokξ
  have hrmξ : zk_Kr (zk_ev (zt_types, zp_lkU, zt_dv, [], [], zp_lcU, zK_tkb3)) = zk_Kr zK_tkb3 := rfl
  rw [hpsξ] at hφ ⊢
  have hφ : zMVc A Y F V u.1 (zp_n u.2.1) ∧ p0ξ = (A 3 : Int) ∧ zMc Y F ∧ p1ξ = (A 2 : Int) := hφ
  obtain ⟨⟨M, hMξ, hVξ, hSbξ⟩, rfl, hYFξ, rfl⟩ := hφ
  have hYF0ξ := hYFξ
  obtain ⟨hYbξ, hFbξ, hFxξ, -⟩ := hYFξ
  show zp_J p l e R s m args below meth c Q w u [] 0 [(0, 2, (A 3 : Int)), (1, 2, (A 2 : Int))] [] u.1 (zp_n u.2.1)
  refine zp_load (pc := 0) hx hb (zd_X10_takeBack (0, .aload_n 0, 1, 0, []) (List.mem_of_getElem? (i := 0) rfl)) rfl (j := 0) rfl ?_
  refine zp_getf (n := (V 3 3)) (pc := 1) hx hb hEξ hwξ (zd_X10_takeBack (1, .getfield 20, 3, 0, []) (List.mem_of_getElem? (i := 1) rfl)) (j := 4) rfl rfl rfl (zM_P hMξ (hYbξ _ (List.mem_of_getElem? (i := 3) rfl))) ((zM_G hMξ (hYbξ _ (List.mem_of_getElem? (i := 3) rfl)) 3).trans (hVξ 3 3 (by decide))) ?_
  refine zp_kn (k := 3) (a := (A 3)) hwξ (show zp_fd 11 3 = some (10, 0, 0, 0, 16) from rfl) rfl (zM_P hMξ (hYbξ _ (List.mem_of_getElem? (i := 3) rfl))) (fun hf398ξ => ?_)
  have hf398bξ := zp_int hf398ξ
  rw [((zM_G hMξ (hYbξ _ (List.mem_of_getElem? (i := 3) rfl)) 3).trans (hVξ 3 3 (by decide)))] at hf398bξ
  clear hf398ξ
  refine zp_if (pc := 4) (tgt := 9) hx hb (zd_X10_takeBack (4, .ifCond .ne 5, 3, 0, []) (List.mem_of_getElem? (i := 2) rfl)) rfl (fun (hc399ξ : ¬ (V 3 3) = 0) => ?_) (fun (hc399ξ : ¬ (¬ (V 3 3) = 0)) => ?_)
  · refine zp_load (pc := 9) hx hb (zd_X10_takeBack (9, .aload_n 0, 1, 0, []) (List.mem_of_getElem? (i := 5) rfl)) rfl (j := 0) rfl ?_
    refine zp_dup (pc := 10) hx hb (zd_X10_takeBack (10, .dup, 1, 0, []) (List.mem_of_getElem? (i := 6) rfl)) (show (2 : Nat) ≠ 1 by decide) ?_
    refine zp_getf (n := (V 3 3)) (pc := 11) hx hb hEξ hwξ (zd_X10_takeBack (11, .getfield 20, 3, 0, []) (List.mem_of_getElem? (i := 7) rfl)) (j := 4) rfl rfl rfl (zM_P hMξ (hYbξ _ (List.mem_of_getElem? (i := 3) rfl))) ((zM_G hMξ (hYbξ _ (List.mem_of_getElem? (i := 3) rfl)) 3).trans (hVξ 3 3 (by decide))) ?_
    refine zp_const (pc := 14) hx hb (zd_X10_takeBack (14, .iconst 1, 1, 0, []) (List.mem_of_getElem? (i := 8) rfl)) rfl rfl ?_
    refine zp_sub (n := ((V 3 3) - 1)) (pc := 15) hx hb (zd_X10_takeBack (15, .isub, 1, 0, []) (List.mem_of_getElem? (i := 9) rfl)) (by omega) (zp_r0 (by omega) (by omega)) ?_
    refine zp_putf (pc := 16) hx hb hEξ hwξ heffξ (zd_X10_takeBack (16, .putfield 20, 3, 0, []) (List.mem_of_getElem? (i := 10) rfl)) (j := 4) rfl rfl rfl (zM_P hMξ (hYbξ _ (List.mem_of_getElem? (i := 3) rfl))) (zp_o0 (by omega) (by omega) (by omega) (by omega)) ?_
    refine zp_load (pc := 19) hx hb (zd_X10_takeBack (19, .aload_n 0, 1, 0, []) (List.mem_of_getElem? (i := 11) rfl)) rfl (j := 0) rfl ?_
    refine zp_getf (n := (V 3 2)) (pc := 20) hx hb hEξ hwξ (zd_X10_takeBack (20, .getfield 24, 3, 0, []) (List.mem_of_getElem? (i := 12) rfl)) (j := 3) rfl rfl rfl (zM_P hMξ (hYbξ _ (List.mem_of_getElem? (i := 3) rfl))) ((zp_set_ne (Or.inr (by decide))).trans (((zM_G hMξ (hYbξ _ (List.mem_of_getElem? (i := 3) rfl)) 2).trans (hVξ 3 2 (by decide))))) ?_
    refine zp_kn (k := 2) (a := (A 3)) hwξ (show zp_fd 11 2 = some (10, 0, 0, 0, 15) from rfl) rfl (zM_P hMξ (hYbξ _ (List.mem_of_getElem? (i := 3) rfl))) (fun hf400ξ => ?_)
    have hf400bξ := zp_int hf400ξ
    rw [((zp_set_ne (Or.inr (by decide))).trans (((zM_G hMξ (hYbξ _ (List.mem_of_getElem? (i := 3) rfl)) 2).trans (hVξ 3 2 (by decide)))))] at hf400bξ
    clear hf400ξ
    refine zp_load (pc := 23) hx hb (zd_X10_takeBack (23, .aload_n 0, 1, 0, []) (List.mem_of_getElem? (i := 13) rfl)) rfl (j := 0) rfl ?_
    refine zp_getf (n := ((V 3 3) - 1)) (pc := 24) hx hb hEξ hwξ (zd_X10_takeBack (24, .getfield 20, 3, 0, []) (List.mem_of_getElem? (i := 14) rfl)) (j := 4) rfl rfl rfl (zM_P hMξ (hYbξ _ (List.mem_of_getElem? (i := 3) rfl))) zp_set_self ?_
    refine zp_add (n := ((V 3 2) + ((V 3 3) - 1))) (pc := 27) hx hb (zd_X10_takeBack (27, .iadd, 1, 0, []) (List.mem_of_getElem? (i := 15) rfl)) (by omega) (zp_r0 (by omega) (by omega)) ?_
    refine zp_const (pc := 28) hx hb (zd_X10_takeBack (28, .bipush 16, 2, 0, []) (List.mem_of_getElem? (i := 16) rfl)) rfl rfl ?_
    refine zp_iremx (n := (((V 3 2) + ((V 3 3) - 1)) % 16)) (pc := 30) hx hb (zd_X10_takeBack (30, .irem, 1, 0, []) (List.mem_of_getElem? (i := 17) rfl)) (by decide) (Int.tmod_eq_emod_of_nonneg (by omega)) (zp_r0 (by omega) (by omega)) ?_
    refine zp_store (L' := [(2, 0, (((V 3 2) + ((V 3 3) - 1)) % 16)), (0, 2, (A 3 : Int)), (1, 2, (A 2 : Int))]) (pc := 31) hx hb hnLξ (zd_X10_takeBack (31, .istore_n 2, 1, 0, []) (List.mem_of_getElem? (i := 18) rfl)) rfl rfl rfl ?_
    refine zp_load (pc := 32) hx hb (zd_X10_takeBack (32, .aload_n 1, 1, 0, []) (List.mem_of_getElem? (i := 19) rfl)) rfl (j := 2) rfl ?_
    refine zp_load (pc := 33) hx hb (zd_X10_takeBack (33, .aload_n 0, 1, 0, []) (List.mem_of_getElem? (i := 20) rfl)) rfl (j := 1) rfl ?_
    refine zp_getf (n := (A 63 : Int)) (pc := 34) hx hb hEξ hwξ (zd_X10_takeBack (34, .getfield 17, 3, 0, []) (List.mem_of_getElem? (i := 21) rfl)) (j := 2) rfl rfl rfl (zM_P hMξ (hYbξ _ (List.mem_of_getElem? (i := 3) rfl))) ((zp_set_ne (Or.inr (by decide))).trans (((zM_G hMξ (hYbξ _ (List.mem_of_getElem? (i := 3) rfl)) 1).trans (zM_F hMξ (hFbξ _ (List.mem_of_getElem? (i := 38) rfl)))))) ?_
    refine zp_load (pc := 37) hx hb (zd_X10_takeBack (37, .iload_n 2, 1, 0, []) (List.mem_of_getElem? (i := 22) rfl)) rfl (j := 0) rfl ?_
    refine zp_const (pc := 38) hx hb (zd_X10_takeBack (38, .bipush 26, 2, 0, []) (List.mem_of_getElem? (i := 23) rfl)) rfl rfl ?_
    refine zp_mul (n := ((((V 3 2) + ((V 3 3) - 1)) % 16) * 26)) (pc := 40) hx hb (zd_X10_takeBack (40, .imul, 1, 0, []) (List.mem_of_getElem? (i := 24) rfl)) (by omega) (zp_r0 (by omega) (by omega)) ?_
    refine zp_call (pc := 41) (how := 0) (idx := 31) (mi := 127) (S := []) hx hb hEξ hwξ heffξ hrmξ (zX_tkf2 hWξ A Y F (zp_set V 3 3 ((V 3 3) - 1)) (((V 3 2) + ((V 3 3) - 1)) % 16).toNat) rfl (j := 1) rfl rfl (by decide +kernel) (zd_X10_takeBack (41, .invokevirtual 31, 3, 0, []) (List.mem_of_getElem? (i := 25) rfl)) [(A 2 : Int), (A 63 : Int), ((((V 3 2) + ((V 3 3) - 1)) % 16) * 26)] rfl ⟨zp_o2 (zM_P hMξ (hYbξ _ (List.mem_of_getElem? (i := 2) rfl))), zp_o2 (zM_P hMξ (hYbξ _ (List.mem_of_getElem? (i := 41) rfl))), zp_o0 (by omega) (by omega) (by omega) (by omega), trivial⟩ (Nat.le_of_ble_eq_true rfl) ⟨⟨(zp_set M 3 3 ((V 3 3) - 1)), (zM_set hMξ (hYbξ _ (List.mem_of_getElem? (i := 3) rfl)) (zFx hFxξ (o := 3) (k := 3) (by decide) (by decide))), (zV_set hVξ), trivial⟩, rfl, hYF0ξ, rfl, (by simp only [List.getD_cons_succ, List.getD_cons_zero]; omega), (by omega)⟩ (fun al halξ rna401ξ Pa401 Ga401 hexta401ξ hfra401ξ hoka401ξ hcsa401ξ hpsia401ξ => ?_)
    obtain rfl := List.mem_singleton.mp halξ
    obtain ⟨hPea401ξ, Ma401, hMa401ξ, hVa401ξ, hSba401ξ⟩ := hpsia401ξ
    subst hPea401ξ
    clear hexta401ξ hfra401ξ hcsa401ξ hoka401ξ
    have hVa401ξ : ∀ o k, zNc o → Ma401 o k = (zf_tkf2 (zp_set V 3 3 ((V 3 3) - 1)) (((V 3 2) + ((V 3 3) - 1)) % 16).toNat).2 o k := hVa401ξ
    refine zp_load (pc := 44) hx hb (zd_X10_takeBack (44, .aload_n 0, 1, 0, []) (List.mem_of_getElem? (i := 26) rfl)) rfl (j := 1) rfl ?_
    refine zp_getf (n := (A 62 : Int)) (pc := 45) hx hb hEξ hwξ (zd_X10_takeBack (45, .getfield 11, 3, 0, []) (List.mem_of_getElem? (i := 27) rfl)) (j := 1) rfl rfl rfl (zM_P hMa401ξ (hYbξ _ (List.mem_of_getElem? (i := 3) rfl))) ((zM_G hMa401ξ (hYbξ _ (List.mem_of_getElem? (i := 3) rfl)) 0).trans (zM_F hMa401ξ (hFbξ _ (List.mem_of_getElem? (i := 37) rfl)))) ?_
    refine zp_load (pc := 48) hx hb (zd_X10_takeBack (48, .iload_n 2, 1, 0, []) (List.mem_of_getElem? (i := 28) rfl)) rfl (j := 0) rfl ?_
    refine zp_iald (j := (((V 3 2) + ((V 3 3) - 1)) % 16).toNat) (v := (V 62 (2000 + (((V 3 2) + ((V 3 3) - 1)) % 16).toNat))) (pc := 49) hx hb hwξ (zd_X10_takeBack (49, .iaload, 1, 0, []) (List.mem_of_getElem? (i := 29) rfl)) (show zp_ia 1 53 = some (16, 0, 0, (-2147483648), 2147483647) from rfl) (zM_P hMa401ξ (hYbξ _ (List.mem_of_getElem? (i := 40) rfl))) (by omega) (by omega) (((zM_G hMa401ξ (hYbξ _ (List.mem_of_getElem? (i := 40) rfl)) (2000 + (((V 3 2) + ((V 3 3) - 1)) % 16).toNat)).trans (hVa401ξ 62 (2000 + (((V 3 2) + ((V 3 3) - 1)) % 16).toNat) (by decide))).trans (Eq.trans (zf_tkf2_f (by decide)) ((zp_set_ne (Or.inl (by decide))).trans (rfl)))) (fun hk402ξ => ?_)
    have hk402bξ := zp_int hk402ξ
    clear hk402ξ
    refine zp_iret (pc := 50) (n := (V 62 (2000 + (((V 3 2) + ((V 3 3) - 1)) % 16).toNat))) hx hb hEξ hQξ hU5ξ rfl (by decide) (zd_X10_takeBack (50, .ireturn, 1, 0, []) (List.mem_of_getElem? (i := 30) rfl)) (j := 0) rfl (zp_o0 (by omega) (by omega) (by omega) (by omega)) ?_
    rw [hpsξ]
    refine ⟨rfl, ?_⟩
    have hffξ : zf_tkb3 V = ((V 62 (2000 + (((V 3 2) + ((V 3 3) - 1)) % 16).toNat)), (zf_tkf2 (zp_set V 3 3 ((V 3 3) - 1)) (((V 3 2) + ((V 3 3) - 1)) % 16).toNat).2) := by
      unfold zf_tkb3
      rw [if_pos hc399ξ]
    show zMVc A Y F (zf_tkb3 V).2 u.1 Ga401 ∧ (V 62 (2000 + (((V 3 2) + ((V 3 3) - 1)) % 16).toNat)) = (zf_tkb3 V).1
    rw [hffξ]
    exact ⟨⟨Ma401, hMa401ξ, hVa401ξ, trivial⟩, rfl⟩
  · refine zp_const (pc := 7) hx hb (zd_X10_takeBack (7, .iconst (-1), 1, 0, []) (List.mem_of_getElem? (i := 3) rfl)) rfl rfl ?_
    refine zp_iret (pc := 8) (n := (-1)) hx hb hEξ hQξ hU5ξ rfl (by decide) (zd_X10_takeBack (8, .ireturn, 1, 0, []) (List.mem_of_getElem? (i := 4) rfl)) (j := 0) rfl (zp_o0 (by omega) (by omega) (by omega) (by omega)) ?_
    rw [hpsξ]
    refine ⟨rfl, ?_⟩
    have hffξ : zf_tkb3 V = ((-1), V) := by
      unfold zf_tkb3
      rw [if_neg hc399ξ]
    show zMVc A Y F (zf_tkb3 V).2 u.1 (zp_n u.2.1) ∧ (-1) = (zf_tkb3 V).1
    rw [hffξ]
    exact ⟨⟨M, hMξ, hVξ, trivial⟩, rfl⟩
theorem zf_tkb3_f {V : Nat → Nat → Int} {o k : Nat} (h9ξ : o ∉ ([2, 3, 50, 51, 52] : List Nat)) : (zf_tkb3 V).2 o k = V o k := by
  unfold zf_tkb3
  by_cases hd2ξ : ¬ (V 3 3) = 0
  · rw [if_pos hd2ξ]
    show (zf_tkf2 (zp_set V 3 3 ((V 3 3) - 1)) (((V 3 2) + ((V 3 3) - 1)) % 16).toNat).2 o k = V o k
    exact ((zf_tkf2_f (zc_sub h9ξ (by decide))).trans (zp_set_ne (Or.inl (zc_nin h9ξ (by decide)))))
  · rw [if_neg hd2ξ]
def zf_undc (V : Nat → Nat → Int) : Int × (Nat → Nat → Int) := if ¬ ((zf_tkb3 V).1) = (-1) then (((zf_ans (zf_tkb3 V).2 ((zf_tkb3 V).1)).1), (zf_ans (zf_tkb3 V).2 ((zf_tkb3 V).1)).2) else (((zf_rfs (zf_tkb3 V).2 (-3)).1), (zf_rfs (zf_tkb3 V).2 (-3)).2)
def zK_undc : zk_K := (zt_mn 125, prog_1_method_30_code, 2, (Option.some Jvm.ClassFile.FieldType.int), 1, 11, [(2, 12, 0, 0)], [(some (0, 0, (-2147483648), 2147483647), [])], zUC, (3, 180, 0, 0))
def zφ_undc (A : Nat → Nat) (Y : List (Nat × Nat)) (F : List (Nat × Nat × Nat)) (V : Nat → Nat → Int) : (Nat → Option Nat) → (Nat → Nat → Int) → List Int → Prop := fun P G ps => zMVc A Y F V P G ∧ ps.getD 0 0 = (A 0 : Int) ∧ zMc Y F
def zψ_undc (A : Nat → Nat) (Y : List (Nat × Nat)) (F : List (Nat × Nat × Nat)) (V : Nat → Nat → Int) : (Nat → Option Nat) → (Nat → Nat → Int) → List Int → (Nat → Option Nat) → (Nat → Nat → Int) → Int → Prop := fun P G ps P' G' rn => P' = P ∧ zMVc A Y F (zf_undc V).2 P' G' ∧ rn = (zf_undc V).1
theorem zX_undc {l : Launch} {w : zk_W} (hWξ : zh_W w) (A : Nat → Nat) (Y : List (Nat × Nat)) (F : List (Nat × Nat × Nat)) (V : Nat → Nat → Int) : zk_metX l w zt_dv zt_TB zK_undc (zp_A (zφ_undc A Y F V)) (zp_B (zψ_undc A Y F V)) ∧ zk_cok w zt_TB zK_undc := by
  refine zp_methX (cn := "WoundTown") zp_lkallW hWξ (pl := 1082) rfl (by decide +kernel) (fun p e R s m args below meth c Q u hx hb hEξ hQξ hU5ξ heffξ hnLξ hokξ hφ => ?_)
  have hwξ := hWξ.1
  obtain ⟨p0ξ, hpsξ, tk0⟩ := zp_ps1 hokξ
  have hrmξ : zk_Kr (zk_ev (zt_types, zp_lkW, zt_dv, [], [], zp_lcW, zK_undc)) = zk_Kr zK_undc := rfl
  rw [hpsξ] at hφ ⊢
  have hφ : zMVc A Y F V u.1 (zp_n u.2.1) ∧ p0ξ = (A 0 : Int) ∧ zMc Y F := hφ
  obtain ⟨⟨M, hMξ, hVξ, hSbξ⟩, rfl, hYFξ⟩ := hφ
  have hYF0ξ := hYFξ
  obtain ⟨hYbξ, hFbξ, hFxξ, -⟩ := hYFξ
  show zp_J p l e R s m args below meth c Q w u [] 0 [(0, 2, (A 0 : Int))] [] u.1 (zp_n u.2.1)
  refine zp_load (pc := 0) hx hb (zd_X11_undo (0, .aload_n 0, 1, 0, []) (List.mem_of_getElem? (i := 0) rfl)) rfl (j := 0) rfl ?_
  refine zp_getf (n := (A 3 : Int)) (pc := 1) hx hb hEξ hwξ (zd_X11_undo (1, .getfield 23, 3, 0, []) (List.mem_of_getElem? (i := 1) rfl)) (j := 52) rfl rfl rfl (zM_P hMξ (hYbξ _ (List.mem_of_getElem? (i := 0) rfl))) ((zM_G hMξ (hYbξ _ (List.mem_of_getElem? (i := 0) rfl)) 2).trans (zM_F hMξ (hFbξ _ (List.mem_of_getElem? (i := 2) rfl)))) ?_
  refine zp_load (pc := 4) hx hb (zd_X11_undo (4, .aload_n 0, 1, 0, []) (List.mem_of_getElem? (i := 2) rfl)) rfl (j := 0) rfl ?_
  refine zp_getf (n := (A 1 : Int)) (pc := 5) hx hb hEξ hwξ (zd_X11_undo (5, .getfield 10, 3, 0, []) (List.mem_of_getElem? (i := 3) rfl)) (j := 50) rfl rfl rfl (zM_P hMξ (hYbξ _ (List.mem_of_getElem? (i := 0) rfl))) ((zM_G hMξ (hYbξ _ (List.mem_of_getElem? (i := 0) rfl)) 0).trans (zM_F hMξ (hFbξ _ (List.mem_of_getElem? (i := 0) rfl)))) ?_
  refine zp_getf (n := (A 2 : Int)) (pc := 8) hx hb hEξ hwξ (zd_X11_undo (8, .getfield 135, 3, 0, []) (List.mem_of_getElem? (i := 4) rfl)) (j := 24) rfl rfl rfl (zM_P hMξ (hYbξ _ (List.mem_of_getElem? (i := 1) rfl))) ((zM_G hMξ (hYbξ _ (List.mem_of_getElem? (i := 1) rfl)) 18).trans (zM_F hMξ (hFbξ _ (List.mem_of_getElem? (i := 24) rfl)))) ?_
  refine zp_call (pc := 11) (how := 0) (idx := 338) (mi := 126) (S := []) hx hb hEξ hwξ heffξ hrmξ (zX_tkb3 hWξ A Y F V) rfl (j := 44) rfl rfl (by decide +kernel) (zd_X11_undo (11, .invokevirtual 338, 3, 0, []) (List.mem_of_getElem? (i := 5) rfl)) [(A 3 : Int), (A 2 : Int)] rfl ⟨zp_o2 (zM_P hMξ (hYbξ _ (List.mem_of_getElem? (i := 3) rfl))), zp_o2 (zM_P hMξ (hYbξ _ (List.mem_of_getElem? (i := 2) rfl))), trivial⟩ (Nat.le_of_ble_eq_true rfl) ⟨⟨M, hMξ, hVξ, trivial⟩, rfl, hYF0ξ, rfl⟩ (fun al halξ rna403ξ Pa403 Ga403 hexta403ξ hfra403ξ hoka403ξ hcsa403ξ hpsia403ξ => ?_)
  obtain rfl := List.mem_singleton.mp halξ
  have hra403ξ := zp_int (hoka403ξ _ rfl).1
  obtain ⟨hPea403ξ, ⟨Ma403, hMa403ξ, hVa403ξ, hSba403ξ⟩, hta403ξ⟩ := hpsia403ξ
  subst hPea403ξ
  clear hexta403ξ hfra403ξ hcsa403ξ hoka403ξ
  have hVa403ξ : ∀ o k, zNc o → Ma403 o k = (zf_tkb3 V).2 o k := hVa403ξ
  have hta403ξ : rna403ξ = ((zf_tkb3 V).1) := hta403ξ
  have hta403ξ := (Eq.symm hta403ξ)
  subst hta403ξ
  refine zp_store (L' := [(1, 0, ((zf_tkb3 V).1)), (0, 2, (A 0 : Int))]) (pc := 14) hx hb hnLξ (zd_X11_undo (14, .istore_n 1, 1, 0, []) (List.mem_of_getElem? (i := 6) rfl)) rfl rfl rfl ?_
  refine zp_load (pc := 15) hx hb (zd_X11_undo (15, .iload_n 1, 1, 0, []) (List.mem_of_getElem? (i := 7) rfl)) rfl (j := 0) rfl ?_
  refine zp_const (pc := 16) hx hb (zd_X11_undo (16, .iconst (-1), 1, 0, []) (List.mem_of_getElem? (i := 8) rfl)) rfl rfl ?_
  refine zp_icmp (pc := 17) (tgt := 29) hx hb (zd_X11_undo (17, .if_icmp .ne 12, 3, 0, []) (List.mem_of_getElem? (i := 9) rfl)) rfl (fun (hc404ξ : ¬ ((zf_tkb3 V).1) = (-1)) => ?_) (fun (hc404ξ : ¬ (¬ ((zf_tkb3 V).1) = (-1))) => ?_)
  · refine zp_load (pc := 29) hx hb (zd_X11_undo (29, .aload_n 0, 1, 0, []) (List.mem_of_getElem? (i := 14) rfl)) rfl (j := 1) rfl ?_
    refine zp_load (pc := 30) hx hb (zd_X11_undo (30, .iload_n 1, 1, 0, []) (List.mem_of_getElem? (i := 15) rfl)) rfl (j := 0) rfl ?_
    refine zp_call (pc := 31) (how := 0) (idx := 118) (mi := 17) (S := []) hx hb hEξ hwξ heffξ hrmξ (zX_ans hWξ A Y F (zf_tkb3 V).2) rfl (j := 12) rfl rfl (by decide +kernel) (zd_X11_undo (31, .invokevirtual 118, 3, 0, []) (List.mem_of_getElem? (i := 16) rfl)) [(A 0 : Int), ((zf_tkb3 V).1)] rfl ⟨zp_o2 (zM_P hMa403ξ (hYbξ _ (List.mem_of_getElem? (i := 0) rfl))), zp_o0 (by omega) (by omega) (by omega) (by omega), trivial⟩ (Nat.le_of_ble_eq_true rfl) ⟨⟨Ma403, hMa403ξ, hVa403ξ, trivial⟩, rfl, hYF0ξ⟩ (fun al halξ rna405ξ Pa405 Ga405 hexta405ξ hfra405ξ hoka405ξ hcsa405ξ hpsia405ξ => ?_)
    obtain rfl := List.mem_singleton.mp halξ
    have hra405ξ := zp_int (hoka405ξ _ rfl).1
    obtain ⟨hPea405ξ, ⟨Ma405, hMa405ξ, hVa405ξ, hSba405ξ⟩, hta405ξ⟩ := hpsia405ξ
    subst hPea405ξ
    clear hexta405ξ hfra405ξ hcsa405ξ hoka405ξ
    have hVa405ξ : ∀ o k, zNc o → Ma405 o k = (zf_ans (zf_tkb3 V).2 ((zf_tkb3 V).1)).2 o k := hVa405ξ
    have hta405ξ : rna405ξ = ((zf_ans (zf_tkb3 V).2 ((zf_tkb3 V).1)).1) := hta405ξ
    have hta405ξ := (Eq.symm hta405ξ)
    subst hta405ξ
    refine zp_iret (pc := 34) (n := ((zf_ans (zf_tkb3 V).2 ((zf_tkb3 V).1)).1)) hx hb hEξ hQξ hU5ξ rfl (by decide) (zd_X11_undo (34, .ireturn, 1, 0, []) (List.mem_of_getElem? (i := 17) rfl)) (j := 0) rfl (zp_o0 (by omega) (by omega) (by omega) (by omega)) ?_
    rw [hpsξ]
    refine ⟨rfl, ?_⟩
    have hffξ : zf_undc V = (((zf_ans (zf_tkb3 V).2 ((zf_tkb3 V).1)).1), (zf_ans (zf_tkb3 V).2 ((zf_tkb3 V).1)).2) := by
      unfold zf_undc
      rw [if_pos hc404ξ]
    show zMVc A Y F (zf_undc V).2 u.1 Ga405 ∧ ((zf_ans (zf_tkb3 V).2 ((zf_tkb3 V).1)).1) = (zf_undc V).1
    rw [hffξ]
    exact ⟨⟨Ma405, hMa405ξ, hVa405ξ, trivial⟩, rfl⟩
  · refine zp_load (pc := 20) hx hb (zd_X11_undo (20, .aload_n 0, 1, 0, []) (List.mem_of_getElem? (i := 10) rfl)) rfl (j := 1) rfl ?_
    refine zp_const (pc := 21) hx hb (zd_X11_undo (21, .bipush (-3), 2, 0, []) (List.mem_of_getElem? (i := 11) rfl)) rfl rfl ?_
    refine zp_call (pc := 23) (how := 0) (idx := 111) (mi := 16) (S := []) hx hb hEξ hwξ heffξ hrmξ (zX_rfs hWξ A Y F (zf_tkb3 V).2) rfl (j := 11) rfl rfl (by decide +kernel) (zd_X11_undo (23, .invokevirtual 111, 3, 0, []) (List.mem_of_getElem? (i := 12) rfl)) [(A 0 : Int), (-3)] rfl ⟨zp_o2 (zM_P hMa403ξ (hYbξ _ (List.mem_of_getElem? (i := 0) rfl))), zp_o0 (by omega) (by omega) (by omega) (by omega), trivial⟩ (Nat.le_of_ble_eq_true rfl) ⟨⟨Ma403, hMa403ξ, hVa403ξ, trivial⟩, rfl, hYF0ξ⟩ (fun al halξ rna406ξ Pa406 Ga406 hexta406ξ hfra406ξ hoka406ξ hcsa406ξ hpsia406ξ => ?_)
    obtain rfl := List.mem_singleton.mp halξ
    have hra406ξ := zp_int (hoka406ξ _ rfl).1
    obtain ⟨hPea406ξ, ⟨Ma406, hMa406ξ, hVa406ξ, hSba406ξ⟩, hta406ξ⟩ := hpsia406ξ
    subst hPea406ξ
    clear hexta406ξ hfra406ξ hcsa406ξ hoka406ξ
    have hVa406ξ : ∀ o k, zNc o → Ma406 o k = (zf_rfs (zf_tkb3 V).2 (-3)).2 o k := hVa406ξ
    have hta406ξ : rna406ξ = ((zf_rfs (zf_tkb3 V).2 (-3)).1) := hta406ξ
    have hta406ξ := (Eq.symm hta406ξ)
    subst hta406ξ
    refine zp_goto (tgt := 34) (pc := 26) hx hb (zd_X11_undo (26, .goto 8, 3, 0, []) (List.mem_of_getElem? (i := 13) rfl)) rfl ?_
    refine zp_iret (pc := 34) (n := ((zf_rfs (zf_tkb3 V).2 (-3)).1)) hx hb hEξ hQξ hU5ξ rfl (by decide) (zd_X11_undo (34, .ireturn, 1, 0, []) (List.mem_of_getElem? (i := 17) rfl)) (j := 0) rfl (zp_o0 (by omega) (by omega) (by omega) (by omega)) ?_
    rw [hpsξ]
    refine ⟨rfl, ?_⟩
    have hffξ : zf_undc V = (((zf_rfs (zf_tkb3 V).2 (-3)).1), (zf_rfs (zf_tkb3 V).2 (-3)).2) := by
      unfold zf_undc
      rw [if_neg hc404ξ]
    show zMVc A Y F (zf_undc V).2 u.1 Ga406 ∧ ((zf_rfs (zf_tkb3 V).2 (-3)).1) = (zf_undc V).1
    rw [hffξ]
    exact ⟨⟨Ma406, hMa406ξ, hVa406ξ, trivial⟩, rfl⟩
def zf_mbyc (V : Nat → Nat → Int) (p1ξ : Int) : Int × (Nat → Nat → Int) := if 1 ≤ p1ξ ∧ p1ξ ≤ 9999 then if (V 2 5) = (-1) then ((min 9999 ((V 2 3) + p1ξ)), (zp_set (zp_set (zf_kep3 V 3).2 2 3 (min 9999 ((V 2 3) + p1ξ))) 2 4 0)) else ((-3), V) else ((-1), V)
def zK_mbyc : zk_K := (zt_mn 114, prog_1_method_29_code, 3, (Option.some Jvm.ClassFile.FieldType.int), 1, 11, [(2, 12, 0, 0), (0, 0, (-2147483648), 2147483647)], [(some (0, 0, (-2147483648), 2147483647), [])], zUC, (3, 180, 0, 0))
def zφ_mbyc (A : Nat → Nat) (Y : List (Nat × Nat)) (F : List (Nat × Nat × Nat)) (V : Nat → Nat → Int) : (Nat → Option Nat) → (Nat → Nat → Int) → List Int → Prop := fun P G ps => zMVc A Y F V P G ∧ ps.getD 0 0 = (A 0 : Int) ∧ zMc Y F ∧ 0 ≤ V 2 3 ∧ V 2 3 ≤ 9999
def zψ_mbyc (A : Nat → Nat) (Y : List (Nat × Nat)) (F : List (Nat × Nat × Nat)) (V : Nat → Nat → Int) : (Nat → Option Nat) → (Nat → Nat → Int) → List Int → (Nat → Option Nat) → (Nat → Nat → Int) → Int → Prop := fun P G ps P' G' rn => P' = P ∧ zMVc A Y F (zf_mbyc V (ps.getD 1 0)).2 P' G' ∧ rn = (zf_mbyc V (ps.getD 1 0)).1
theorem zX_mbyc {l : Launch} {w : zk_W} (hWξ : zh_W w) (A : Nat → Nat) (Y : List (Nat × Nat)) (F : List (Nat × Nat × Nat)) (V : Nat → Nat → Int) : zk_metX l w zt_dv zt_TB zK_mbyc (zp_A (zφ_mbyc A Y F V)) (zp_B (zψ_mbyc A Y F V)) ∧ zk_cok w zt_TB zK_mbyc := by
  refine zp_methX (cn := "WoundTown") zp_lkallW hWξ (pl := 1037) rfl (by decide +kernel) (fun p e R s m args below meth c Q u hx hb hEξ hQξ hU5ξ heffξ hnLξ hokξ hφ => ?_)
  have hwξ := hWξ.1
  obtain ⟨p0ξ, p1ξ, hpsξ, tk0, tk1⟩ := zp_ps2 hokξ
  have hrmξ : zk_Kr (zk_ev (zt_types, zp_lkW, zt_dv, [], [], zp_lcW, zK_mbyc)) = zk_Kr zK_mbyc := rfl
  rw [hpsξ] at hφ ⊢
  have hφ : zMVc A Y F V u.1 (zp_n u.2.1) ∧ p0ξ = (A 0 : Int) ∧ zMc Y F ∧ 0 ≤ V 2 3 ∧ V 2 3 ≤ 9999 := hφ
  obtain ⟨⟨M, hMξ, hVξ, hSbξ⟩, rfl, hYFξ, hlf0ξ, hlf1ξ⟩ := hφ
  have hYF0ξ := hYFξ
  obtain ⟨hYbξ, hFbξ, hFxξ, -⟩ := hYFξ
  have hi1ξ := zp_int tk1
  show zp_J p l e R s m args below meth c Q w u [] 0 [(0, 2, (A 0 : Int)), (1, 0, p1ξ)] [] u.1 (zp_n u.2.1)
  refine zp_load (pc := 0) hx hb (zd_X11_mendBy (0, .aload_n 0, 1, 0, []) (List.mem_of_getElem? (i := 0) rfl)) rfl (j := 0) rfl ?_
  refine zp_getf (n := (A 1 : Int)) (pc := 1) hx hb hEξ hwξ (zd_X11_mendBy (1, .getfield 10, 3, 0, []) (List.mem_of_getElem? (i := 1) rfl)) (j := 50) rfl rfl rfl (zM_P hMξ (hYbξ _ (List.mem_of_getElem? (i := 0) rfl))) ((zM_G hMξ (hYbξ _ (List.mem_of_getElem? (i := 0) rfl)) 0).trans (zM_F hMξ (hFbξ _ (List.mem_of_getElem? (i := 0) rfl)))) ?_
  refine zp_getf (n := (A 2 : Int)) (pc := 4) hx hb hEξ hwξ (zd_X11_mendBy (4, .getfield 135, 3, 0, []) (List.mem_of_getElem? (i := 2) rfl)) (j := 24) rfl rfl rfl (zM_P hMξ (hYbξ _ (List.mem_of_getElem? (i := 1) rfl))) ((zM_G hMξ (hYbξ _ (List.mem_of_getElem? (i := 1) rfl)) 18).trans (zM_F hMξ (hFbξ _ (List.mem_of_getElem? (i := 24) rfl)))) ?_
  refine zp_store (L' := [(2, 2, (A 2 : Int)), (0, 2, (A 0 : Int)), (1, 0, p1ξ)]) (pc := 7) hx hb hnLξ (zd_X11_mendBy (7, .astore_n 2, 1, 0, []) (List.mem_of_getElem? (i := 3) rfl)) rfl rfl rfl ?_
  refine zp_load (pc := 8) hx hb (zd_X11_mendBy (8, .iload_n 1, 1, 0, []) (List.mem_of_getElem? (i := 4) rfl)) rfl (j := 2) rfl ?_
  refine zp_const (pc := 9) hx hb (zd_X11_mendBy (9, .iconst 1, 1, 0, []) (List.mem_of_getElem? (i := 5) rfl)) rfl rfl ?_
  refine zp_const (pc := 10) hx hb (zd_X11_mendBy (10, .sipush 9999, 3, 0, []) (List.mem_of_getElem? (i := 6) rfl)) rfl rfl ?_
  refine zp_call (pc := 13) (how := 1) (idx := 107) (mi := 15) (S := []) hx hb hEξ hwξ heffξ hrmξ (zX_iwn hWξ) rfl (j := 10) rfl rfl (by decide +kernel) (zd_X11_mendBy (13, .invokestatic 107, 3, 0, []) (List.mem_of_getElem? (i := 7) rfl)) [p1ξ, 1, 9999] rfl ⟨zp_o0 (by omega) (by omega) (by omega) (by omega), zp_o0 (by omega) (by omega) (by omega) (by omega), zp_o0 (by omega) (by omega) (by omega) (by omega), trivial⟩ (Nat.le_of_ble_eq_true rfl) trivial (fun al halξ rnn407ξ Pn407 Gn407 hextn407ξ hfrn407ξ hokn407ξ hcsn407ξ hpsin407ξ => ?_)
  obtain rfl := List.mem_singleton.mp halξ
  have hrn407ξ := zp_int (hokn407ξ _ rfl).1
  obtain ⟨hPen407ξ, hGen407ξ, htn407ξ⟩ := hpsin407ξ
  rw [hPen407ξ, hGen407ξ]
  clear hextn407ξ hfrn407ξ hcsn407ξ hPen407ξ hGen407ξ
  have htn407ξ : rnn407ξ = 1 ↔ 1 ≤ p1ξ ∧ p1ξ ≤ 9999 := htn407ξ
  refine zp_if (pc := 16) (tgt := 21) hx hb (zd_X11_mendBy (16, .ifCond .ne 5, 3, 0, []) (List.mem_of_getElem? (i := 8) rfl)) rfl (fun (hc408ξ : ¬ rnn407ξ = 0) => ?_) (fun (hc408ξ : ¬ (¬ rnn407ξ = 0)) => ?_)
  · have hbt409ξ := (Iff.mp htn407ξ) (by omega)
    refine zp_load (pc := 21) hx hb (zd_X11_mendBy (21, .aload_n 2, 1, 0, []) (List.mem_of_getElem? (i := 11) rfl)) rfl (j := 0) rfl ?_
    refine zp_getf (n := (V 2 5)) (pc := 22) hx hb hEξ hwξ (zd_X11_mendBy (22, .getfield 280, 3, 0, []) (List.mem_of_getElem? (i := 12) rfl)) (j := 7) rfl rfl rfl (zM_P hMξ (hYbξ _ (List.mem_of_getElem? (i := 2) rfl))) ((zM_G hMξ (hYbξ _ (List.mem_of_getElem? (i := 2) rfl)) 5).trans (hVξ 2 5 (by decide))) ?_
    refine zp_kn (k := 5) (a := (A 2)) hwξ (show zp_fd 2 5 = some (2, 0, 0, (-2147483648), 2147483647) from rfl) rfl (zM_P hMξ (hYbξ _ (List.mem_of_getElem? (i := 2) rfl))) (fun hf411ξ => ?_)
    have hf411bξ := zp_int hf411ξ
    rw [((zM_G hMξ (hYbξ _ (List.mem_of_getElem? (i := 2) rfl)) 5).trans (hVξ 2 5 (by decide)))] at hf411bξ
    clear hf411ξ
    refine zp_const (pc := 25) hx hb (zd_X11_mendBy (25, .iconst (-1), 1, 0, []) (List.mem_of_getElem? (i := 13) rfl)) rfl rfl ?_
    refine zp_icmp (pc := 26) (tgt := 32) hx hb (zd_X11_mendBy (26, .if_icmp .eq 6, 3, 0, []) (List.mem_of_getElem? (i := 14) rfl)) rfl (fun (hc412ξ : (V 2 5) = (-1)) => ?_) (fun (hc412ξ : ¬ ((V 2 5) = (-1))) => ?_)
    · refine zp_load (pc := 32) hx hb (zd_X11_mendBy (32, .aload_n 0, 1, 0, []) (List.mem_of_getElem? (i := 17) rfl)) rfl (j := 1) rfl ?_
      refine zp_getf (n := (A 3 : Int)) (pc := 33) hx hb hEξ hwξ (zd_X11_mendBy (33, .getfield 23, 3, 0, []) (List.mem_of_getElem? (i := 18) rfl)) (j := 52) rfl rfl rfl (zM_P hMξ (hYbξ _ (List.mem_of_getElem? (i := 0) rfl))) ((zM_G hMξ (hYbξ _ (List.mem_of_getElem? (i := 0) rfl)) 2).trans (zM_F hMξ (hFbξ _ (List.mem_of_getElem? (i := 2) rfl)))) ?_
      refine zp_const (pc := 36) hx hb (zd_X11_mendBy (36, .iconst 3, 1, 0, []) (List.mem_of_getElem? (i := 19) rfl)) rfl rfl ?_
      refine zp_load (pc := 37) hx hb (zd_X11_mendBy (37, .aload_n 2, 1, 0, []) (List.mem_of_getElem? (i := 20) rfl)) rfl (j := 0) rfl ?_
      refine zp_call (pc := 38) (how := 0) (idx := 316) (mi := 88) (S := []) hx hb hEξ hwξ heffξ hrmξ (zX_kep3 hWξ A Y F V) rfl (j := 33) rfl rfl (by decide +kernel) (zd_X11_mendBy (38, .invokevirtual 316, 3, 0, []) (List.mem_of_getElem? (i := 21) rfl)) [(A 3 : Int), 3, (A 2 : Int)] rfl ⟨zp_o2 (zM_P hMξ (hYbξ _ (List.mem_of_getElem? (i := 3) rfl))), zp_o0 (by omega) (by omega) (by omega) (by omega), zp_o2 (zM_P hMξ (hYbξ _ (List.mem_of_getElem? (i := 2) rfl))), trivial⟩ (Nat.le_of_ble_eq_true rfl) ⟨⟨M, hMξ, hVξ, trivial⟩, rfl, hYF0ξ, rfl⟩ (fun al halξ rna413ξ Pa413 Ga413 hexta413ξ hfra413ξ hoka413ξ hcsa413ξ hpsia413ξ => ?_)
      obtain rfl := List.mem_singleton.mp halξ
      obtain ⟨hPea413ξ, Ma413, hMa413ξ, hVa413ξ, hSba413ξ⟩ := hpsia413ξ
      subst hPea413ξ
      clear hexta413ξ hfra413ξ hcsa413ξ hoka413ξ
      have hVa413ξ : ∀ o k, zNc o → Ma413 o k = (zf_kep3 V 3).2 o k := hVa413ξ
      refine zp_load (pc := 41) hx hb (zd_X11_mendBy (41, .aload_n 2, 1, 0, []) (List.mem_of_getElem? (i := 22) rfl)) rfl (j := 0) rfl ?_
      refine zp_const (pc := 42) hx hb (zd_X11_mendBy (42, .sipush 9999, 3, 0, []) (List.mem_of_getElem? (i := 23) rfl)) rfl rfl ?_
      refine zp_load (pc := 45) hx hb (zd_X11_mendBy (45, .aload_n 2, 1, 0, []) (List.mem_of_getElem? (i := 24) rfl)) rfl (j := 0) rfl ?_
      refine zp_getf (n := (V 2 3)) (pc := 46) hx hb hEξ hwξ (zd_X11_mendBy (46, .getfield 283, 3, 0, []) (List.mem_of_getElem? (i := 25) rfl)) (j := 5) rfl rfl rfl (zM_P hMa413ξ (hYbξ _ (List.mem_of_getElem? (i := 2) rfl))) (((zM_G hMa413ξ (hYbξ _ (List.mem_of_getElem? (i := 2) rfl)) 3).trans (hVa413ξ 2 3 (by decide))).trans (zf_kep3_f (by decide))) ?_
      refine zp_kn (k := 3) (a := (A 2)) hwξ (show zp_fd 2 3 = some (2, 0, 0, (-2147483648), 2147483647) from rfl) rfl (zM_P hMa413ξ (hYbξ _ (List.mem_of_getElem? (i := 2) rfl))) (fun hf414ξ => ?_)
      have hf414bξ := zp_int hf414ξ
      rw [(((zM_G hMa413ξ (hYbξ _ (List.mem_of_getElem? (i := 2) rfl)) 3).trans (hVa413ξ 2 3 (by decide))).trans (zf_kep3_f (by decide)))] at hf414bξ
      clear hf414ξ
      refine zp_load (pc := 49) hx hb (zd_X11_mendBy (49, .iload_n 1, 1, 0, []) (List.mem_of_getElem? (i := 26) rfl)) rfl (j := 2) rfl ?_
      refine zp_add (n := ((V 2 3) + p1ξ)) (pc := 50) hx hb (zd_X11_mendBy (50, .iadd, 1, 0, []) (List.mem_of_getElem? (i := 27) rfl)) (by omega) (zp_r0 (by omega) (by omega)) ?_
      refine zp_mm (n := (min 9999 ((V 2 3) + p1ξ))) (S := [(2, (A 2 : Int))]) (pc := 51) hx hb hEξ hrmξ (zd_X11_mendBy (51, .invokestatic 335, 3, 0, []) (List.mem_of_getElem? (i := 28) rfl)) (j := 72) rfl (Or.inr ⟨rfl, by omega⟩) ⟨by decide, Nat.le_of_ble_eq_true rfl⟩ ?_
      refine zp_putf (pc := 54) hx hb hEξ hwξ heffξ (zd_X11_mendBy (54, .putfield 283, 3, 0, []) (List.mem_of_getElem? (i := 29) rfl)) (j := 5) rfl rfl rfl (zM_P hMa413ξ (hYbξ _ (List.mem_of_getElem? (i := 2) rfl))) (zp_o0 (by omega) (by omega) (by omega) (by omega)) ?_
      refine zp_load (pc := 57) hx hb (zd_X11_mendBy (57, .aload_n 2, 1, 0, []) (List.mem_of_getElem? (i := 30) rfl)) rfl (j := 0) rfl ?_
      refine zp_const (pc := 58) hx hb (zd_X11_mendBy (58, .iconst 0, 1, 0, []) (List.mem_of_getElem? (i := 31) rfl)) rfl rfl ?_
      refine zp_putf (pc := 59) hx hb hEξ hwξ heffξ (zd_X11_mendBy (59, .putfield 308, 3, 0, []) (List.mem_of_getElem? (i := 32) rfl)) (j := 6) rfl rfl rfl (zM_P hMa413ξ (hYbξ _ (List.mem_of_getElem? (i := 2) rfl))) (zp_o0 (by decide) (by decide) (by decide) (by decide)) ?_
      refine zp_load (pc := 62) hx hb (zd_X11_mendBy (62, .aload_n 2, 1, 0, []) (List.mem_of_getElem? (i := 33) rfl)) rfl (j := 0) rfl ?_
      refine zp_getf (n := (min 9999 ((V 2 3) + p1ξ))) (pc := 63) hx hb hEξ hwξ (zd_X11_mendBy (63, .getfield 283, 3, 0, []) (List.mem_of_getElem? (i := 34) rfl)) (j := 5) rfl rfl rfl (zM_P hMa413ξ (hYbξ _ (List.mem_of_getElem? (i := 2) rfl))) ((zp_set_ne (Or.inr (by decide))).trans (zp_set_self)) ?_
      refine zp_iret (pc := 66) (n := (min 9999 ((V 2 3) + p1ξ))) hx hb hEξ hQξ hU5ξ rfl (by decide) (zd_X11_mendBy (66, .ireturn, 1, 0, []) (List.mem_of_getElem? (i := 35) rfl)) (j := 0) rfl (zp_o0 (by omega) (by omega) (by omega) (by omega)) ?_
      rw [hpsξ]
      refine ⟨rfl, ?_⟩
      have hffξ : zf_mbyc V p1ξ = ((min 9999 ((V 2 3) + p1ξ)), (zp_set (zp_set (zf_kep3 V 3).2 2 3 (min 9999 ((V 2 3) + p1ξ))) 2 4 0)) := by
        unfold zf_mbyc
        rw [if_pos ((Iff.mp htn407ξ) (by omega)), if_pos hc412ξ]
      show zMVc A Y F (zf_mbyc V p1ξ).2 u.1 (zp_set (zp_set Ga413 (A 2) 3 (min 9999 ((V 2 3) + p1ξ))) (A 2) 4 0) ∧ (min 9999 ((V 2 3) + p1ξ)) = (zf_mbyc V p1ξ).1
      rw [hffξ]
      exact ⟨⟨(zp_set (zp_set Ma413 2 3 (min 9999 ((V 2 3) + p1ξ))) 2 4 0), (zM_set (zM_set hMa413ξ (hYbξ _ (List.mem_of_getElem? (i := 2) rfl)) (zFx hFxξ (o := 2) (k := 3) (by decide) (by decide))) (hYbξ _ (List.mem_of_getElem? (i := 2) rfl)) (zFx hFxξ (o := 2) (k := 4) (by decide) (by decide))), (zV_set (zV_set hVa413ξ)), trivial⟩, rfl⟩
    · refine zp_const (pc := 29) hx hb (zd_X11_mendBy (29, .bipush (-3), 2, 0, []) (List.mem_of_getElem? (i := 15) rfl)) rfl rfl ?_
      refine zp_iret (pc := 31) (n := (-3)) hx hb hEξ hQξ hU5ξ rfl (by decide) (zd_X11_mendBy (31, .ireturn, 1, 0, []) (List.mem_of_getElem? (i := 16) rfl)) (j := 0) rfl (zp_o0 (by omega) (by omega) (by omega) (by omega)) ?_
      rw [hpsξ]
      refine ⟨rfl, ?_⟩
      have hffξ : zf_mbyc V p1ξ = ((-3), V) := by
        unfold zf_mbyc
        rw [if_pos ((Iff.mp htn407ξ) (by omega)), if_neg hc412ξ]
      show zMVc A Y F (zf_mbyc V p1ξ).2 u.1 (zp_n u.2.1) ∧ (-3) = (zf_mbyc V p1ξ).1
      rw [hffξ]
      exact ⟨⟨M, hMξ, hVξ, trivial⟩, rfl⟩
  · have hbf410ξ : ¬ (1 ≤ p1ξ ∧ p1ξ ≤ 9999) := fun h9ξ => absurd ((Iff.mpr htn407ξ) h9ξ) (by omega)
    refine zp_const (pc := 19) hx hb (zd_X11_mendBy (19, .iconst (-1), 1, 0, []) (List.mem_of_getElem? (i := 9) rfl)) rfl rfl ?_
    refine zp_iret (pc := 20) (n := (-1)) hx hb hEξ hQξ hU5ξ rfl (by decide) (zd_X11_mendBy (20, .ireturn, 1, 0, []) (List.mem_of_getElem? (i := 10) rfl)) (j := 0) rfl (zp_o0 (by omega) (by omega) (by omega) (by omega)) ?_
    rw [hpsξ]
    refine ⟨rfl, ?_⟩
    have hffξ : zf_mbyc V p1ξ = ((-1), V) := by
      unfold zf_mbyc
      rw [if_neg (fun h9ξ => absurd ((Iff.mpr htn407ξ) h9ξ) (by omega))]
    show zMVc A Y F (zf_mbyc V p1ξ).2 u.1 (zp_n u.2.1) ∧ (-1) = (zf_mbyc V p1ξ).1
    rw [hffξ]
    exact ⟨⟨M, hMξ, hVξ, trivial⟩, rfl⟩
theorem zf_mbyc_f {V : Nat → Nat → Int} {p1ξ : Int} {o k : Nat} (h9ξ : o ∉ ([2, 3, 62, 63] : List Nat)) : (zf_mbyc V p1ξ).2 o k = V o k := by
  unfold zf_mbyc
  by_cases hd2ξ : 1 ≤ p1ξ ∧ p1ξ ≤ 9999
  · rw [if_pos hd2ξ]
    by_cases hd4ξ : (V 2 5) = (-1)
    · rw [if_pos hd4ξ]
      show (zp_set (zp_set (zf_kep3 V 3).2 2 3 (min 9999 ((V 2 3) + p1ξ))) 2 4 0) o k = V o k
      exact ((zp_set_ne (Or.inl (zc_nin h9ξ (by decide)))).trans ((zp_set_ne (Or.inl (zc_nin h9ξ (by decide)))).trans (zf_kep3_f (zc_sub h9ξ (by decide)))))
    · rw [if_neg hd4ξ]
  · rw [if_neg hd2ξ]
def zf_menc (V : Nat → Nat → Int) (p1ξ : Int) : Int × (Nat → Nat → Int) := (((zf_stc (zf_mbyc V p1ξ).2 ((zf_mbyc V p1ξ).1)).1), (zf_stc (zf_mbyc V p1ξ).2 ((zf_mbyc V p1ξ).1)).2)
def zK_menc : zk_K := (zt_mn 124, prog_1_method_28_code, 2, (Option.some Jvm.ClassFile.FieldType.int), 1, 11, [(2, 12, 0, 0), (0, 0, (-2147483648), 2147483647)], [(some (0, 0, (-2147483648), 2147483647), [])], zUC, (4, 240, 0, 0))
def zφ_menc (A : Nat → Nat) (Y : List (Nat × Nat)) (F : List (Nat × Nat × Nat)) (V : Nat → Nat → Int) : (Nat → Option Nat) → (Nat → Nat → Int) → List Int → Prop := fun P G ps => zMVc A Y F V P G ∧ ps.getD 0 0 = (A 0 : Int) ∧ zMc Y F ∧ 0 ≤ V 2 3 ∧ V 2 3 ≤ 9999
def zψ_menc (A : Nat → Nat) (Y : List (Nat × Nat)) (F : List (Nat × Nat × Nat)) (V : Nat → Nat → Int) : (Nat → Option Nat) → (Nat → Nat → Int) → List Int → (Nat → Option Nat) → (Nat → Nat → Int) → Int → Prop := fun P G ps P' G' rn => P' = P ∧ zMVc A Y F (zf_menc V (ps.getD 1 0)).2 P' G' ∧ rn = (zf_menc V (ps.getD 1 0)).1
theorem zX_menc {l : Launch} {w : zk_W} (hWξ : zh_W w) (A : Nat → Nat) (Y : List (Nat × Nat)) (F : List (Nat × Nat × Nat)) (V : Nat → Nat → Int) : zk_metX l w zt_dv zt_TB zK_menc (zp_A (zφ_menc A Y F V)) (zp_B (zψ_menc A Y F V)) ∧ zk_cok w zt_TB zK_menc := by
  refine zp_methX (cn := "WoundTown") zp_lkallW hWξ (pl := 1078) rfl (by decide +kernel) (fun p e R s m args below meth c Q u hx hb hEξ hQξ hU5ξ heffξ hnLξ hokξ hφ => ?_)
  have hwξ := hWξ.1
  obtain ⟨p0ξ, p1ξ, hpsξ, tk0, tk1⟩ := zp_ps2 hokξ
  have hrmξ : zk_Kr (zk_ev (zt_types, zp_lkW, zt_dv, [], [], zp_lcW, zK_menc)) = zk_Kr zK_menc := rfl
  rw [hpsξ] at hφ ⊢
  have hφ : zMVc A Y F V u.1 (zp_n u.2.1) ∧ p0ξ = (A 0 : Int) ∧ zMc Y F ∧ 0 ≤ V 2 3 ∧ V 2 3 ≤ 9999 := hφ
  obtain ⟨⟨M, hMξ, hVξ, hSbξ⟩, rfl, hYFξ, hlf0ξ, hlf1ξ⟩ := hφ
  have hYF0ξ := hYFξ
  obtain ⟨hYbξ, hFbξ, hFxξ, -⟩ := hYFξ
  have hi1ξ := zp_int tk1
  show zp_J p l e R s m args below meth c Q w u [] 0 [(0, 2, (A 0 : Int)), (1, 0, p1ξ)] [] u.1 (zp_n u.2.1)
  refine zp_load (pc := 0) hx hb (zd_X11_mend (0, .aload_n 0, 1, 0, []) (List.mem_of_getElem? (i := 0) rfl)) rfl (j := 0) rfl ?_
  refine zp_load (pc := 1) hx hb (zd_X11_mend (1, .aload_n 0, 1, 0, []) (List.mem_of_getElem? (i := 1) rfl)) rfl (j := 0) rfl ?_
  refine zp_load (pc := 2) hx hb (zd_X11_mend (2, .iload_n 1, 1, 0, []) (List.mem_of_getElem? (i := 2) rfl)) rfl (j := 1) rfl ?_
  refine zp_call (pc := 3) (how := 0) (idx := 277) (mi := 114) (S := [(2, (A 0 : Int))]) hx hb hEξ hwξ heffξ hrmξ (zX_mbyc hWξ A Y F V) rfl (j := 41) rfl rfl (by decide +kernel) (zd_X11_mend (3, .invokevirtual 277, 3, 0, []) (List.mem_of_getElem? (i := 3) rfl)) [(A 0 : Int), p1ξ] rfl ⟨zp_o2 (zM_P hMξ (hYbξ _ (List.mem_of_getElem? (i := 0) rfl))), zp_o0 (by omega) (by omega) (by omega) (by omega), trivial⟩ (Nat.le_of_ble_eq_true rfl) ⟨⟨M, hMξ, hVξ, trivial⟩, rfl, hYF0ξ, ((show 0 ≤ V 2 3 ∧ V 2 3 ≤ 9999 by omega)).1, ((show 0 ≤ V 2 3 ∧ V 2 3 ≤ 9999 by omega)).2⟩ (fun al halξ rna415ξ Pa415 Ga415 hexta415ξ hfra415ξ hoka415ξ hcsa415ξ hpsia415ξ => ?_)
  obtain rfl := List.mem_singleton.mp halξ
  have hra415ξ := zp_int (hoka415ξ _ rfl).1
  obtain ⟨hPea415ξ, ⟨Ma415, hMa415ξ, hVa415ξ, hSba415ξ⟩, hta415ξ⟩ := hpsia415ξ
  subst hPea415ξ
  clear hexta415ξ hfra415ξ hcsa415ξ hoka415ξ
  have hVa415ξ : ∀ o k, zNc o → Ma415 o k = (zf_mbyc V p1ξ).2 o k := hVa415ξ
  have hta415ξ : rna415ξ = ((zf_mbyc V p1ξ).1) := hta415ξ
  have hta415ξ := (Eq.symm hta415ξ)
  subst hta415ξ
  refine zp_call (pc := 6) (how := 0) (idx := 305) (mi := 121) (S := []) hx hb hEξ hwξ heffξ hrmξ (zX_stc hWξ A Y F (zf_mbyc V p1ξ).2) rfl (j := 43) rfl rfl (by decide +kernel) (zd_X11_mend (6, .invokevirtual 305, 3, 0, []) (List.mem_of_getElem? (i := 4) rfl)) [(A 0 : Int), ((zf_mbyc V p1ξ).1)] rfl ⟨zp_o2 (zM_P hMa415ξ (hYbξ _ (List.mem_of_getElem? (i := 0) rfl))), zp_o0 (by omega) (by omega) (by omega) (by omega), trivial⟩ (Nat.le_of_ble_eq_true rfl) ⟨⟨Ma415, hMa415ξ, hVa415ξ, trivial⟩, rfl, hYF0ξ⟩ (fun al halξ rna416ξ Pa416 Ga416 hexta416ξ hfra416ξ hoka416ξ hcsa416ξ hpsia416ξ => ?_)
  obtain rfl := List.mem_singleton.mp halξ
  have hra416ξ := zp_int (hoka416ξ _ rfl).1
  obtain ⟨hPea416ξ, ⟨Ma416, hMa416ξ, hVa416ξ, hSba416ξ⟩, hta416ξ⟩ := hpsia416ξ
  subst hPea416ξ
  clear hexta416ξ hfra416ξ hcsa416ξ hoka416ξ
  have hVa416ξ : ∀ o k, zNc o → Ma416 o k = (zf_stc (zf_mbyc V p1ξ).2 ((zf_mbyc V p1ξ).1)).2 o k := hVa416ξ
  have hta416ξ : rna416ξ = ((zf_stc (zf_mbyc V p1ξ).2 ((zf_mbyc V p1ξ).1)).1) := hta416ξ
  have hta416ξ := (Eq.symm hta416ξ)
  subst hta416ξ
  refine zp_iret (pc := 9) (n := ((zf_stc (zf_mbyc V p1ξ).2 ((zf_mbyc V p1ξ).1)).1)) hx hb hEξ hQξ hU5ξ rfl (by decide) (zd_X11_mend (9, .ireturn, 1, 0, []) (List.mem_of_getElem? (i := 5) rfl)) (j := 0) rfl (zp_o0 (by omega) (by omega) (by omega) (by omega)) ?_
  rw [hpsξ]
  refine ⟨rfl, ?_⟩
  have hffξ : zf_menc V p1ξ = (((zf_stc (zf_mbyc V p1ξ).2 ((zf_mbyc V p1ξ).1)).1), (zf_stc (zf_mbyc V p1ξ).2 ((zf_mbyc V p1ξ).1)).2) := rfl
  show zMVc A Y F (zf_menc V p1ξ).2 u.1 Ga416 ∧ ((zf_stc (zf_mbyc V p1ξ).2 ((zf_mbyc V p1ξ).1)).1) = (zf_menc V p1ξ).1
  rw [hffξ]
  exact ⟨⟨Ma416, hMa416ξ, hVa416ξ, trivial⟩, rfl⟩