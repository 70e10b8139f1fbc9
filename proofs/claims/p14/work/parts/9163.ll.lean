/-! part ll: the class over logical cells: lasts, odds -/
/-- all but the going that is tried -/
noncomputable def zN8 (o : Nat) : Prop := o ≠ 8 ∧ o ≠ 56 ∧ o ≠ 57 ∧ o ≠ 58
theorem zRc8_1 {V : Nat → Nat → Int} : zRc (zf_kf8_2 V).2 8 56 = zRc V 2 50 := by
  have e50 : ∀ j, j < 6 → (zf_kf8_2 V).2 56 (2000 + j) = V 50 (2000 + j) := fun j hjξ => by
    unfold zf_kf8_2
    dsimp only
    rw [zp_set_ne (Or.inl (by decide)), zp_set_ne (Or.inl (by decide)), zp_set_ne (Or.inl (by decide)), zp_set_ne (Or.inl (by decide)), zc_cp_o (by decide), zc_cp_o (by decide), zc_cp_e (by omega) (by omega), show 0 + (j - 0) = j by omega]
  have e51 : ∀ j, j < 6 → (zf_kf8_2 V).2 57 (2000 + j) = V 51 (2000 + j) := fun j hjξ => by
    unfold zf_kf8_2
    dsimp only
    rw [zp_set_ne (Or.inl (by decide)), zp_set_ne (Or.inl (by decide)), zp_set_ne (Or.inl (by decide)), zp_set_ne (Or.inl (by decide)), zc_cp_o (by decide), zc_cp_e (by omega) (by omega), zc_cp_o (by decide), show 0 + (j - 0) = j by omega]
  have e52 : ∀ j, j < 10 → (zf_kf8_2 V).2 58 (2000 + j) = V 52 (2000 + j) := fun j hjξ => by
    unfold zf_kf8_2
    dsimp only
    rw [zp_set_ne (Or.inl (by decide)), zp_set_ne (Or.inl (by decide)), zp_set_ne (Or.inl (by decide)), zp_set_ne (Or.inl (by decide)), zc_cp_e (by omega) (by omega), zc_cp_o (by decide), zc_cp_o (by decide), show 0 + (j - 0) = j by omega]
  have e3 : (zf_kf8_2 V).2 8 3 = V 2 3 := by
    unfold zf_kf8_2
    dsimp only
    rw [zp_set_ne (Or.inr (by decide)), zp_set_ne (Or.inr (by decide)), zp_set_ne (Or.inr (by decide)), zp_set_self]
  have e4 : (zf_kf8_2 V).2 8 4 = V 2 4 := by
    unfold zf_kf8_2
    dsimp only
    rw [zp_set_ne (Or.inr (by decide)), zp_set_ne (Or.inr (by decide)), zp_set_self]
  have e5 : (zf_kf8_2 V).2 8 5 = V 2 5 := by
    unfold zf_kf8_2
    dsimp only
    rw [zp_set_ne (Or.inr (by decide)), zp_set_self]
  have e6 : (zf_kf8_2 V).2 8 6 = V 2 6 := by (unfold zf_kf8_2; dsimp only; exact zp_set_self)
  have eo : ∀ o k, zN8 o → (zf_kf8_2 V).2 o k = V o k := fun o k hoξ => zf_kf8_2_f (fun hmξ => by
    have h9ξ : o = 8 ∨ o = 56 ∨ o = 57 ∨ o = 58 := by simpa using hmξ
    unfold zN8 at hoξ
    omega)
  funext j
  unfold zRc
  refine zite (fun c1 => ?_) (fun c1 => ?_)
  · refine zite (fun _ => eo _ _ (by unfold zN8; omega)) (fun _ => ?_)
    refine zite (fun _ => eo _ _ (by unfold zN8; omega)) (fun _ => ?_)
    refine zite (fun _ => eo _ _ (by unfold zN8; omega)) (fun _ => ?_)
    refine zite (fun _ => eo _ _ (by unfold zN8; omega)) (fun _ => ?_)
    refine zite (fun _ => eo _ _ (by unfold zN8; omega)) (fun _ => ?_)
    refine zite (fun _ => e6) (fun _ => ?_)
    refine zite (fun _ => eo _ _ (by unfold zN8; omega)) (fun _ => ?_)
    refine zite (fun _ => eo _ _ (by unfold zN8; omega)) (fun _ => ?_)
    refine zite (fun _ => e3) (fun _ => ?_)
    exact zite (fun _ => e4) (fun _ => e5)
  · refine zite (fun c2 => ?_) (fun c2 => ?_)
    · refine zite (fun _ => e50 _ (by omega)) (fun _ => ?_)
      exact zite (fun _ => eo _ _ (by unfold zN8; omega)) (fun _ => e51 _ (by omega))
    · refine zite (fun c3 => e52 _ (by omega)) (fun c3 => ?_)
      refine zite (fun c4 => eo _ _ (by unfold zN8; omega)) (fun c4 => ?_)
      exact zite (fun c5 => eo _ _ (by unfold zN8; omega)) (fun c5 => eo _ _ (by unfold zN8; omega))
/-- a day further -/
theorem zRc8_s {V : Nat → Nat → Int} {R : Nat → Int} {x w : Int} {k : Nat} (h : zRc V 8 56 = zy_R R x k) : zRc (zp_set (zf_wea8 V w).2 8 6 (V 8 6 + 1)) 8 56 = zy_R R (max 0 (x - w)) (k + 1) ∧ zRc (zf_wea8 V w).2 8 56 = zy_R R (max 0 (x - w)) k := by
  have h3ξ : V 8 3 = x := by
    have e : zRc V 8 56 8 = zy_R R x k 8 := by rw [h]
    have e2 : zy_R R x k 8 = x := (yu_ne (by decide)).trans yu_at
    exact e.trans e2
  have h6ξ : V 8 6 = R 5 + (k : Int) := by
    have e : zRc V 8 56 5 = zy_R R x k 5 := by rw [h]
    have e2 : zy_R R x k 5 = R 5 + (k : Int) := yu_at
    exact e.trans e2
  have hjξ : ∀ j, zRc V 8 56 j = zy_R R x k j := fun j => by rw [h]
  have ko : ∀ (V' : Nat → Nat → Int), (∀ o i, o ≠ 8 ∨ (i ≠ 3 ∧ i ≠ 6) → V' o i = V o i) → ∀ j, j ≠ 5 → j ≠ 8 → zRc V' 8 56 j = zRc V 8 56 j := fun V' hVξ j n5 n8 => by
    unfold zRc
    refine zite (fun c1 => ?_) (fun c1 => ?_)
    · refine zite (fun _ => hVξ _ _ (Or.inl (by decide))) (fun _ => ?_)
      refine zite (fun _ => hVξ _ _ (Or.inl (by decide))) (fun _ => ?_)
      refine zite (fun _ => hVξ _ _ (Or.inl (by decide))) (fun _ => ?_)
      refine zite (fun _ => hVξ _ _ (Or.inl (by decide))) (fun _ => ?_)
      refine zite (fun _ => hVξ _ _ (Or.inl (by decide))) (fun _ => ?_)
      refine zite (fun c => absurd c n5) (fun _ => ?_)
      refine zite (fun _ => hVξ _ _ (Or.inl (by decide))) (fun _ => ?_)
      refine zite (fun _ => hVξ _ _ (Or.inl (by decide))) (fun _ => ?_)
      refine zite (fun c => absurd c n8) (fun _ => ?_)
      exact zite (fun _ => hVξ _ _ (Or.inr (by decide))) (fun _ => hVξ _ _ (Or.inr (by decide)))
    · refine zite (fun c2 => ?_) (fun c2 => ?_)
      · refine zite (fun _ => hVξ _ _ (Or.inl (by decide))) (fun _ => ?_)
        exact zite (fun _ => hVξ _ _ (Or.inl (by decide))) (fun _ => hVξ _ _ (Or.inl (by decide)))
      · refine zite (fun c3 => hVξ _ _ (Or.inl (by decide))) (fun c3 => ?_)
        refine zite (fun c4 => hVξ _ _ (Or.inl (by omega))) (fun c4 => ?_)
        exact zite (fun c5 => hVξ _ _ (Or.inl (by decide))) (fun c5 => hVξ _ _ (Or.inl (by omega)))
  have w8 : ∀ o i, o ≠ 8 ∨ (i ≠ 3 ∧ i ≠ 6) → (zf_wea8 V w).2 o i = V o i := fun o i hoξ => zp_set_ne (by omega)
  have w83 : (zf_wea8 V w).2 8 3 = max 0 (x - w) := by
    show zp_set V 8 3 (max 0 (V 8 3 - w)) 8 3 = _
    rw [zp_set_self, h3ξ]
  have w86 : (zf_wea8 V w).2 8 6 = R 5 + (k : Int) := by (unfold zf_wea8; dsimp only; exact (zp_set_ne (Or.inr (by decide))).trans h6ξ)
  refine ⟨?_, ?_⟩
  · funext j
    by_cases n5 : j = 5
    · subst n5
      show zp_set (zf_wea8 V w).2 8 6 (V 8 6 + 1) 8 6 = _
      rw [zp_set_self, h6ξ]
      have e2 : zy_R R (max 0 (x - w)) (k + 1) 5 = R 5 + ((k + 1 : Nat) : Int) := yu_at
      rw [e2]
      omega
    · by_cases n8 : j = 8
      · subst n8
        show zp_set (zf_wea8 V w).2 8 6 (V 8 6 + 1) 8 3 = _
        rw [zp_set_ne (Or.inr (by decide)), w83]
        exact ((yu_ne (by decide)).trans yu_at).symm
      · rw [ko _ (fun o i hoξ => (zp_set_ne (by omega)).trans (w8 o i hoξ)) j n5 n8, hjξ j]
        unfold zy_R
        rw [yu_ne n5, yu_ne n8, yu_ne n5, yu_ne n8]
  · funext j
    by_cases n5 : j = 5
    · subst n5
      show (zf_wea8 V w).2 8 6 = _
      rw [w86]
      exact yu_at.symm
    · by_cases n8 : j = 8
      · subst n8
        show (zf_wea8 V w).2 8 3 = _
        rw [w83]
        exact ((yu_ne (by decide)).trans yu_at).symm
      · rw [ko _ w8 j n5 n8, hjξ j]
        unfold zy_R
        rw [yu_ne n5, yu_ne n8, yu_ne n5, yu_ne n8]
theorem zy_R_0 {R : Nat → Int} : zy_R R (R 8) 0 = R := by
  funext j
  unfold zy_R
  by_cases n5 : j = 5
  · subst n5
    rw [yu_at]
    omega
  · rw [yu_ne n5]
    by_cases n8 : j = 8
    · subst n8
      exact yu_at
    · exact yu_ne n8
noncomputable def zK_lasc : zk_K := (zt_mn 149, prog_1_method_37_code, 3, (Option.some Jvm.ClassFile.FieldType.int), 1, 11, [(2, 12, 0, 0), (0, 0, (-2147483648), 2147483647)], [(some (0, 0, (-2147483648), 2147483647), [])], zUC, (4, 240, 0, 0))
noncomputable def zφ_lasc (A : Nat → Nat) (Y : List (Nat × Nat)) (F : List (Nat × Nat × Nat)) (V : Nat → Nat → Int) (Lwξ : List yK) : (Nat → Option Nat) → (Nat → Nat → Int) → List Int → Prop := fun P G ps => zMVc A Y F V P G ∧ ps.getD 0 0 = (A 0 : Int) ∧ zMc Y F ∧ zLF A Y F V Lwξ ∧ (0 ≤ V 2 3 ∧ V 2 3 ≤ 9999) ∧ (0 ≤ V 2 6 ∧ V 2 6 ≤ 9999)
noncomputable def zψ_lasc (A : Nat → Nat) (Y : List (Nat × Nat)) (F : List (Nat × Nat × Nat)) (V : Nat → Nat → Int) (Lwξ : List yK) : (Nat → Option Nat) → (Nat → Nat → Int) → List Int → (Nat → Option Nat) → (Nat → Nat → Int) → Int → Prop := fun P G ps P' G' rn => P' = P ∧ ∃ V' : Nat → Nat → Int, zMVc A Y F V' P' G' ∧ (∀ o k, zN8 o → V' o k = V o k) ∧ rn = (if 0 ≤ (ps.getD 1 0) ∧ (ps.getD 1 0) ≤ 12 then zv_la (zRc V 2 50) Lwξ (ps.getD 1 0) else -1)
theorem zX_lasc {l : Launch} {w : zk_W} (hWξ : zh_W w) (A : Nat → Nat) (Y : List (Nat × Nat)) (F : List (Nat × Nat × Nat)) (V : Nat → Nat → Int) (Lwξ : List yK) : zk_metX l w zt_dv zt_TB zK_lasc (zp_A (zφ_lasc A Y F V Lwξ)) (zp_B (zψ_lasc A Y F V Lwξ)) ∧ zk_cok w zt_TB zK_lasc := by
  refine zp_methX (cn := "WoundTown") zp_lkallW hWξ (pl := 1191) rfl (by decide +kernel) (fun p e R s m args below meth c Q u hx hb hEξ hQξ hU5ξ heffξ hnLξ hokξ hφ => ?_)
  have hwξ := hWξ.1
  obtain ⟨p0ξ, p1ξ, hpsξ, tk0, tk1⟩ := zp_ps2 hokξ
  have hrmξ : zk_Kr (zk_ev (zt_types, zp_lkW, zt_dv, [], [], zp_lcW, zK_lasc)) = zk_Kr zK_lasc := rfl
  rw [hpsξ] at hφ ⊢
  have hφ : zMVc A Y F V u.1 (zp_n u.2.1) ∧ p0ξ = (A 0 : Int) ∧ zMc Y F ∧ zLF A Y F V Lwξ ∧ (0 ≤ V 2 3 ∧ V 2 3 ≤ 9999) ∧ (0 ≤ V 2 6 ∧ V 2 6 ≤ 9999) := hφ
  obtain ⟨⟨M, hMξ, hVξ, hSbξ⟩, rfl, hYFξ, hlwξ, ⟨hlf0ξ, hlf1ξ⟩, ⟨hdy0ξ, hdy1ξ⟩⟩ := hφ
  have hYF0ξ := hYFξ
  obtain ⟨hYbξ, hFbξ, hFxξ, -⟩ := hYFξ
  have hi1ξ := zp_int tk1
  show zp_J p l e R s m args below meth c Q w u [] 0 [(0, 2, (A 0 : Int)), (1, 0, p1ξ)] [] u.1 (zp_n u.2.1)
  refine zp_load (pc := 0) hx hb (zd_X11_lasts (0, .iload_n 1, 1, 0, []) (List.mem_of_getElem? (i := 0) rfl)) rfl (j := 1) rfl ?_
  refine zp_call (pc := 1) (how := 1) (idx := 292) (mi := 86) (S := []) hx hb hEξ hwξ heffξ hrmξ (zX_art hWξ) rfl (j := 31) rfl rfl (by decide +kernel) (zd_X11_lasts (1, .invokestatic 292, 3, 0, []) (List.mem_of_getElem? (i := 1) rfl)) [p1ξ] rfl ⟨zp_o0 (by omega) (by omega) (by omega) (by omega), trivial⟩ (Nat.le_of_ble_eq_true rfl) trivial (fun al halξ rnn591ξ Pn591 Gn591 hextn591ξ hfrn591ξ hokn591ξ hcsn591ξ hpsin591ξ => ?_)
  obtain rfl := List.mem_singleton.mp halξ
  have hrn591ξ := zp_int (hokn591ξ _ rfl).1
  obtain ⟨hPen591ξ, hGen591ξ, htn591ξ⟩ := hpsin591ξ
  rw [hPen591ξ, hGen591ξ]
  clear hextn591ξ hfrn591ξ hcsn591ξ hPen591ξ hGen591ξ
  have htn591ξ : rnn591ξ = 1 ↔ 0 ≤ p1ξ ∧ p1ξ ≤ 12 := htn591ξ
  refine zp_if (pc := 4) (tgt := 9) hx hb (zd_X11_lasts (4, .ifCond .ne 5, 3, 0, []) (List.mem_of_getElem? (i := 2) rfl)) rfl (fun (hc592ξ : ¬ rnn591ξ = 0) => ?_) (fun (hc592ξ : ¬ (¬ rnn591ξ = 0)) => ?_)
  · have hbt593ξ := (Iff.mp htn591ξ) (by omega)
    refine zp_load (pc := 9) hx hb (zd_X11_lasts (9, .aload_n 0, 1, 0, []) (List.mem_of_getElem? (i := 5) rfl)) rfl (j := 0) rfl ?_
    refine zp_getf (n := (A 1 : Int)) (pc := 10) hx hb hEξ hwξ (zd_X11_lasts (10, .getfield 10, 3, 0, []) (List.mem_of_getElem? (i := 6) rfl)) (j := 50) rfl rfl rfl (zM_P hMξ (hYbξ _ (List.mem_of_getElem? (i := 0) rfl))) ((zM_G hMξ (hYbξ _ (List.mem_of_getElem? (i := 0) rfl)) 0).trans (zM_F hMξ (hFbξ _ (List.mem_of_getElem? (i := 0) rfl)))) ?_
    refine zp_getf (n := (A 2 : Int)) (pc := 13) hx hb hEξ hwξ (zd_X11_lasts (13, .getfield 135, 3, 0, []) (List.mem_of_getElem? (i := 7) rfl)) (j := 24) rfl rfl rfl (zM_P hMξ (hYbξ _ (List.mem_of_getElem? (i := 1) rfl))) ((zM_G hMξ (hYbξ _ (List.mem_of_getElem? (i := 1) rfl)) 18).trans (zM_F hMξ (hFbξ _ (List.mem_of_getElem? (i := 24) rfl)))) ?_
    refine zp_getf (n := (V 2 4)) (pc := 16) hx hb hEξ hwξ (zd_X11_lasts (16, .getfield 308, 3, 0, []) (List.mem_of_getElem? (i := 8) rfl)) (j := 6) rfl rfl rfl (zM_P hMξ (hYbξ _ (List.mem_of_getElem? (i := 2) rfl))) ((zM_G hMξ (hYbξ _ (List.mem_of_getElem? (i := 2) rfl)) 4).trans (hVξ 2 4 (by decide))) ?_
    refine zp_kn (k := 4) (a := (A 2)) hwξ (show zp_fd 2 4 = some (2, 0, 0, 0, 1) from rfl) rfl (zM_P hMξ (hYbξ _ (List.mem_of_getElem? (i := 2) rfl))) (fun hf595ξ => ?_)
    have hf595bξ := zp_int hf595ξ
    rw [((zM_G hMξ (hYbξ _ (List.mem_of_getElem? (i := 2) rfl)) 4).trans (hVξ 2 4 (by decide)))] at hf595bξ
    clear hf595ξ
    refine zp_if (pc := 19) (tgt := 24) hx hb (zd_X11_lasts (19, .ifCond .eq 5, 3, 0, []) (List.mem_of_getElem? (i := 9) rfl)) rfl (fun (hc596ξ : (V 2 4) = 0) => ?_) (fun (hc596ξ : ¬ ((V 2 4) = 0)) => ?_)
    · refine zp_load (pc := 24) hx hb (zd_X11_lasts (24, .aload_n 0, 1, 0, []) (List.mem_of_getElem? (i := 12) rfl)) rfl (j := 0) rfl ?_
      refine zp_getf (n := (A 8 : Int)) (pc := 25) hx hb hEξ hwξ (zd_X11_lasts (25, .getfield 101, 3, 0, []) (List.mem_of_getElem? (i := 13) rfl)) (j := 66) rfl rfl rfl (zM_P hMξ (hYbξ _ (List.mem_of_getElem? (i := 0) rfl))) ((zM_G hMξ (hYbξ _ (List.mem_of_getElem? (i := 0) rfl)) 16).trans (zM_F hMξ (hFbξ _ (List.mem_of_getElem? (i := 11) rfl)))) ?_
      refine zp_load (pc := 28) hx hb (zd_X11_lasts (28, .aload_n 0, 1, 0, []) (List.mem_of_getElem? (i := 14) rfl)) rfl (j := 0) rfl ?_
      refine zp_getf (n := (A 1 : Int)) (pc := 29) hx hb hEξ hwξ (zd_X11_lasts (29, .getfield 10, 3, 0, []) (List.mem_of_getElem? (i := 15) rfl)) (j := 50) rfl rfl rfl (zM_P hMξ (hYbξ _ (List.mem_of_getElem? (i := 0) rfl))) ((zM_G hMξ (hYbξ _ (List.mem_of_getElem? (i := 0) rfl)) 0).trans (zM_F hMξ (hFbξ _ (List.mem_of_getElem? (i := 0) rfl)))) ?_
      refine zp_getf (n := (A 2 : Int)) (pc := 32) hx hb hEξ hwξ (zd_X11_lasts (32, .getfield 135, 3, 0, []) (List.mem_of_getElem? (i := 16) rfl)) (j := 24) rfl rfl rfl (zM_P hMξ (hYbξ _ (List.mem_of_getElem? (i := 1) rfl))) ((zM_G hMξ (hYbξ _ (List.mem_of_getElem? (i := 1) rfl)) 18).trans (zM_F hMξ (hFbξ _ (List.mem_of_getElem? (i := 24) rfl)))) ?_
      refine zp_call (pc := 35) (how := 0) (idx := 226) (mi := 80) (S := []) hx hb hEξ hwξ heffξ hrmξ (zX_kf8_2 hWξ A Y F V) rfl (j := 25) rfl rfl (by decide +kernel) (zd_X11_lasts (35, .invokevirtual 226, 3, 0, []) (List.mem_of_getElem? (i := 17) rfl)) [(A 8 : Int), (A 2 : Int)] rfl ⟨zp_o2 (zM_P hMξ (hYbξ _ (List.mem_of_getElem? (i := 8) rfl))), zp_o2 (zM_P hMξ (hYbξ _ (List.mem_of_getElem? (i := 2) rfl))), trivial⟩ (Nat.le_of_ble_eq_true rfl) ⟨⟨M, hMξ, hVξ, trivial⟩, rfl, hYF0ξ, rfl⟩ (fun al halξ rna597ξ Pa597 Ga597 hexta597ξ hfra597ξ hoka597ξ hcsa597ξ hpsia597ξ => ?_)
      obtain rfl := List.mem_singleton.mp halξ
      obtain ⟨hPea597ξ, Ma597, hMa597ξ, hVa597ξ, hSba597ξ⟩ := hpsia597ξ
      subst hPea597ξ
      clear hexta597ξ hfra597ξ hcsa597ξ hoka597ξ
      have hVa597ξ : ∀ o k, zNc o → Ma597 o k = (zf_kf8_2 V).2 o k := hVa597ξ
      refine zp_const (pc := 38) hx hb (zd_X11_lasts (38, .iconst 0, 1, 0, []) (List.mem_of_getElem? (i := 18) rfl)) rfl rfl ?_
      refine zp_store (L' := [(2, 0, 0), (0, 2, (A 0 : Int)), (1, 0, p1ξ)]) (pc := 39) hx hb hnLξ (zd_X11_lasts (39, .istore_n 2, 1, 0, []) (List.mem_of_getElem? (i := 19) rfl)) rfl rfl rfl ?_
      obtain ⟨V0, hV0ξ⟩ : ∃ V0 : Nat → Nat → Int, V0 = V := ⟨V, rfl⟩
      subst hV0ξ
      have hp12ξ : 0 ≤ p1ξ ∧ p1ξ ≤ 12 := by omega
      have hsnξ : V0 2 4 = 0 := by omega
      have loop : ∀ (r9ξ k9ξ : Nat) (V M : Nat → Nat → Int) (G : Nat → Nat → Int), r9ξ + k9ξ = 999 → zM A Y F M u.1 G → (∀ o k, zNc o → M o k = V o k) → (∀ o k, zN8 o → V o k = V0 o k) → zLF A Y F V Lwξ → zRc V 8 56 = zy_R (zRc V0 2 50) (zy_lf (zRc V0 2 50) Lwξ p1ξ k9ξ) k9ξ → zy_la (zRc V0 2 50) Lwξ p1ξ 999 0 = zy_la (zRc V0 2 50) Lwξ p1ξ r9ξ k9ξ → zp_J p l e R s m args below meth c Q w u [] 40 [(2, 0, (k9ξ : Int)), (0, 2, (A 0 : Int)), (1, 0, p1ξ)] [] u.1 G := by
        intro r9ξ
        induction r9ξ with
        | zero =>
          intro k9ξ V M G hrξ hMξ hVξ hFξ hlwξ hRξ hlaξ
          have hlfbξ := zy_lfb (R := (zRc V0 2 50)) (L := Lwξ) hp12ξ.1 hp12ξ.2 ⟨hlf0ξ, hlf1ξ⟩ k9ξ
          have h83ξ : V 8 3 = zy_lf (zRc V0 2 50) Lwξ p1ξ k9ξ := by
            have h9ξ : zRc V 8 56 8 = zy_R (zRc V0 2 50) (zy_lf (zRc V0 2 50) Lwξ p1ξ k9ξ) k9ξ 8 := by rw [hRξ]
            exact (Eq.trans h9ξ) ((yu_ne (by decide)).trans yu_at)
          have h86ξ : V 8 6 = V0 2 6 + (k9ξ : Int) := by
            have h9ξ : zRc V 8 56 5 = zy_R (zRc V0 2 50) (zy_lf (zRc V0 2 50) Lwξ p1ξ k9ξ) k9ξ 5 := by rw [hRξ]
            have h8ξ : zy_R (zRc V0 2 50) (zy_lf (zRc V0 2 50) Lwξ p1ξ k9ξ) k9ξ 5 = V0 2 6 + (k9ξ : Int) := yu_at
            exact (Eq.trans h9ξ) h8ξ
          have hx83ξ : 0 ≤ V 8 3 ∧ V 8 3 ≤ 9999 := by rw [h83ξ]; exact hlfbξ
          have hx86ξ : 0 ≤ V 8 6 ∧ V 8 6 ≤ 20000 := by omega
          refine zp_load (pc := 40) hx hb (zd_X11_lasts (40, .iload_n 2, 1, 0, []) (List.mem_of_getElem? (i := 20) rfl)) rfl (j := 0) rfl ?_
          refine zp_const (pc := 41) hx hb (zd_X11_lasts (41, .sipush 999, 3, 0, []) (List.mem_of_getElem? (i := 21) rfl)) rfl rfl ?_
          refine zp_icmp (pc := 44) (tgt := 108) hx hb (zd_X11_lasts (44, .if_icmp .ge 64, 3, 0, []) (List.mem_of_getElem? (i := 22) rfl)) rfl (fun (hc598ξ : 999 ≤ (k9ξ : Int)) => ?_) (fun (hc598ξ : ¬ (999 ≤ (k9ξ : Int))) => ?_)
          · refine zp_const (pc := 108) hx hb (zd_X11_lasts (108, .iconst (-1), 1, 0, []) (List.mem_of_getElem? (i := 52) rfl)) rfl rfl ?_
            refine zp_iret (pc := 109) (n := (-1)) hx hb hEξ hQξ hU5ξ rfl (by decide) (zd_X11_lasts (109, .ireturn, 1, 0, []) (List.mem_of_getElem? (i := 53) rfl)) (j := 0) rfl (zp_o0 (by omega) (by omega) (by omega) (by omega)) ?_
            rw [hpsξ]
            refine ⟨rfl, ?_⟩
            refine ⟨V, ⟨M, hMξ, hVξ, trivial⟩, hFξ, ?_⟩
            show (-1) = (if 0 ≤ p1ξ ∧ p1ξ ≤ 12 then zv_la (zRc V0 2 50) Lwξ p1ξ else -1)
            rw [if_pos hp12ξ]
            unfold zv_la
            rw [if_pos (show zRc V0 2 50 9 = 0 from hsnξ), hlaξ]
            rfl
          · exfalso
            omega
        | succ r9ξ ih =>
          intro k9ξ V M G hrξ hMξ hVξ hFξ hlwξ hRξ hlaξ
          have hlfbξ := zy_lfb (R := (zRc V0 2 50)) (L := Lwξ) hp12ξ.1 hp12ξ.2 ⟨hlf0ξ, hlf1ξ⟩ k9ξ
          have h83ξ : V 8 3 = zy_lf (zRc V0 2 50) Lwξ p1ξ k9ξ := by
            have h9ξ : zRc V 8 56 8 = zy_R (zRc V0 2 50) (zy_lf (zRc V0 2 50) Lwξ p1ξ k9ξ) k9ξ 8 := by rw [hRξ]
            exact (Eq.trans h9ξ) ((yu_ne (by decide)).trans yu_at)
          have h86ξ : V 8 6 = V0 2 6 + (k9ξ : Int) := by
            have h9ξ : zRc V 8 56 5 = zy_R (zRc V0 2 50) (zy_lf (zRc V0 2 50) Lwξ p1ξ k9ξ) k9ξ 5 := by rw [hRξ]
            have h8ξ : zy_R (zRc V0 2 50) (zy_lf (zRc V0 2 50) Lwξ p1ξ k9ξ) k9ξ 5 = V0 2 6 + (k9ξ : Int) := yu_at
            exact (Eq.trans h9ξ) h8ξ
          have hx83ξ : 0 ≤ V 8 3 ∧ V 8 3 ≤ 9999 := by rw [h83ξ]; exact hlfbξ
          have hx86ξ : 0 ≤ V 8 6 ∧ V 8 6 ≤ 20000 := by omega
          refine zp_load (pc := 40) hx hb (zd_X11_lasts (40, .iload_n 2, 1, 0, []) (List.mem_of_getElem? (i := 20) rfl)) rfl (j := 0) rfl ?_
          refine zp_const (pc := 41) hx hb (zd_X11_lasts (41, .sipush 999, 3, 0, []) (List.mem_of_getElem? (i := 21) rfl)) rfl rfl ?_
          refine zp_icmp (pc := 44) (tgt := 108) hx hb (zd_X11_lasts (44, .if_icmp .ge 64, 3, 0, []) (List.mem_of_getElem? (i := 22) rfl)) rfl (fun (hc599ξ : 999 ≤ (k9ξ : Int)) => ?_) (fun (hc599ξ : ¬ (999 ≤ (k9ξ : Int))) => ?_)
          · exfalso
            omega
          · refine zp_load (pc := 47) hx hb (zd_X11_lasts (47, .aload_n 0, 1, 0, []) (List.mem_of_getElem? (i := 23) rfl)) rfl (j := 1) rfl ?_
            refine zp_getf (n := (A 4 : Int)) (pc := 48) hx hb hEξ hwξ (zd_X11_lasts (48, .getfield 30, 3, 0, []) (List.mem_of_getElem? (i := 24) rfl)) (j := 53) rfl rfl rfl (zM_P hMξ (hYbξ _ (List.mem_of_getElem? (i := 0) rfl))) ((zM_G hMξ (hYbξ _ (List.mem_of_getElem? (i := 0) rfl)) 3).trans (zM_F hMξ (hFbξ _ (List.mem_of_getElem? (i := 3) rfl)))) ?_
            refine zp_load (pc := 51) hx hb (zd_X11_lasts (51, .aload_n 0, 1, 0, []) (List.mem_of_getElem? (i := 25) rfl)) rfl (j := 1) rfl ?_
            refine zp_getf (n := (A 1 : Int)) (pc := 52) hx hb hEξ hwξ (zd_X11_lasts (52, .getfield 10, 3, 0, []) (List.mem_of_getElem? (i := 26) rfl)) (j := 50) rfl rfl rfl (zM_P hMξ (hYbξ _ (List.mem_of_getElem? (i := 0) rfl))) ((zM_G hMξ (hYbξ _ (List.mem_of_getElem? (i := 0) rfl)) 0).trans (zM_F hMξ (hFbξ _ (List.mem_of_getElem? (i := 0) rfl)))) ?_
            refine zp_load (pc := 55) hx hb (zd_X11_lasts (55, .aload_n 0, 1, 0, []) (List.mem_of_getElem? (i := 27) rfl)) rfl (j := 1) rfl ?_
            refine zp_getf (n := (A 8 : Int)) (pc := 56) hx hb hEξ hwξ (zd_X11_lasts (56, .getfield 101, 3, 0, []) (List.mem_of_getElem? (i := 28) rfl)) (j := 66) rfl rfl rfl (zM_P hMξ (hYbξ _ (List.mem_of_getElem? (i := 0) rfl))) ((zM_G hMξ (hYbξ _ (List.mem_of_getElem? (i := 0) rfl)) 16).trans (zM_F hMξ (hFbξ _ (List.mem_of_getElem? (i := 11) rfl)))) ?_
            refine zp_load (pc := 59) hx hb (zd_X11_lasts (59, .iload_n 1, 1, 0, []) (List.mem_of_getElem? (i := 29) rfl)) rfl (j := 2) rfl ?_
            refine zp_call (pc := 60) (how := 0) (idx := 295) (mi := 90) (S := []) hx hb hEξ hwξ heffξ hrmξ (zX_abt8 hWξ A Y F V Lwξ) rfl (j := 34) rfl rfl (by decide +kernel) (zd_X11_lasts (60, .invokevirtual 295, 3, 0, []) (List.mem_of_getElem? (i := 30) rfl)) [(A 4 : Int), (A 1 : Int), (A 8 : Int), p1ξ] rfl ⟨zp_o2 (zM_P hMξ (hYbξ _ (List.mem_of_getElem? (i := 4) rfl))), zp_o2 (zM_P hMξ (hYbξ _ (List.mem_of_getElem? (i := 1) rfl))), zp_o2 (zM_P hMξ (hYbξ _ (List.mem_of_getElem? (i := 8) rfl))), zp_o0 (by omega) (by omega) (by omega) (by omega), trivial⟩ (Nat.le_of_ble_eq_true rfl) ⟨⟨M, hMξ, hVξ, trivial⟩, rfl, hYF0ξ, rfl, rfl, hlwξ⟩ (fun al halξ rnab600ξ Pab600 Gab600 hextab600ξ hfrab600ξ hokab600ξ hcsab600ξ hpsiab600ξ => ?_)
            obtain rfl := List.mem_singleton.mp halξ
            obtain ⟨hPeab600ξ, Mab600, hMab600ξ, hVab600ξ, hAbab600ξ⟩ := hpsiab600ξ
            have hAbab600ξ : zAb A Y F V Lwξ (zRc V 8 56) p1ξ Mab600 := hAbab600ξ
            subst hPeab600ξ
            clear hextab600ξ hfrab600ξ hokab600ξ hcsab600ξ
            refine zp_load (pc := 63) hx hb (zd_X11_lasts (63, .aload_n 0, 1, 0, []) (List.mem_of_getElem? (i := 31) rfl)) rfl (j := 1) rfl ?_
            refine zp_getf (n := (A 8 : Int)) (pc := 64) hx hb hEξ hwξ (zd_X11_lasts (64, .getfield 101, 3, 0, []) (List.mem_of_getElem? (i := 32) rfl)) (j := 66) rfl rfl rfl (zM_P hMab600ξ (hYbξ _ (List.mem_of_getElem? (i := 0) rfl))) ((zM_G hMab600ξ (hYbξ _ (List.mem_of_getElem? (i := 0) rfl)) 16).trans (zM_F hMab600ξ (hFbξ _ (List.mem_of_getElem? (i := 11) rfl)))) ?_
            refine zp_load (pc := 67) hx hb (zd_X11_lasts (67, .aload_n 0, 1, 0, []) (List.mem_of_getElem? (i := 33) rfl)) rfl (j := 1) rfl ?_
            refine zp_getf (n := (A 4 : Int)) (pc := 68) hx hb hEξ hwξ (zd_X11_lasts (68, .getfield 30, 3, 0, []) (List.mem_of_getElem? (i := 34) rfl)) (j := 53) rfl rfl rfl (zM_P hMab600ξ (hYbξ _ (List.mem_of_getElem? (i := 0) rfl))) ((zM_G hMab600ξ (hYbξ _ (List.mem_of_getElem? (i := 0) rfl)) 3).trans (zM_F hMab600ξ (hFbξ _ (List.mem_of_getElem? (i := 3) rfl)))) ?_
            have hlr601ξ := zg_lawM hMab600ξ hYF0ξ hVab600ξ hAbab600ξ (pw := (-1)) (hrξ := (-1)) (p := (-1)) (o := (-1)) (l := (-1)) (by omega) (by omega) (by omega) (by omega) (by omega) (by rfl) (by rfl)
            have habr601ξ := (hAbab600ξ).1.1
            refine zp_call (pc := 71) (how := 0) (idx := 299) (mi := 92) (S := [(2, (A 8 : Int))]) hx hb hEξ hwξ heffξ hrmξ (zX_we_ hWξ (A 66) (fun j => Mab600 66 (2000 + j)) (zg_ew (zRc V 8 56) zd_S0 p1ξ (-1) (-1) (-1)) Lwξ) rfl (j := 35) rfl rfl (by decide +kernel) (zd_X11_lasts (71, .invokevirtual 299, 3, 0, []) (List.mem_of_getElem? (i := 35) rfl)) [(A 4 : Int)] rfl ⟨zp_o2 (zM_P hMab600ξ (hYbξ _ (List.mem_of_getElem? (i := 4) rfl))), trivial⟩ (Nat.le_of_ble_eq_true rfl) ⟨hlr601ξ, (show 0 ≤ Mab600 66 (2000 + 0) by omega), (show Mab600 66 (2000 + 0) ≤ 1000 by omega)⟩ (fun al halξ rnr601ξ Pr601 Gr601 hextr601ξ hfrr601ξ hokr601ξ hcsr601ξ hpsir601ξ => ?_)
            obtain rfl := List.mem_singleton.mp halξ
            have hrr601ξ := zp_int (hokr601ξ _ rfl).1
            obtain ⟨hPer601ξ, hWnr601ξ, htr601ξ⟩ := hpsir601ξ
            obtain ⟨Mr601, hMr601ξ, hMkr601ξ, hM6r601ξ⟩ := zM_rul hMab600ξ hYF0ξ hfrr601ξ hextr601ξ
            subst hPer601ξ
            have hVr601ξ : ∀ o k, zNc o → Mr601 o k = V o k := fun o k hkξ => (hMkr601ξ o k (fun e => hkξ (by rw [e]; decide)) (fun e => hkξ (by rw [e]; decide))).trans (hVab600ξ o k hkξ)
            have hAbr601ξ := zAb_n (hAbab600ξ) (fun j => (hM6r601ξ (2000 + j)).trans (hWnr601ξ j)) hlr601ξ.1.2.2.2.2.1 (hMkr601ξ 4 2 (by decide) (by decide))
            clear hextr601ξ hfrr601ξ hokr601ξ hcsr601ξ hlr601ξ
            have htr601ξ : rnr601ξ = (zy_we (zg_ew (zRc V 8 56) zd_S0 p1ξ (-1) (-1) (-1)) Lwξ p1ξ) := by
              have h9ξ : rnr601ξ = zy_we (zg_ew (zRc V 8 56) zd_S0 p1ξ (-1) (-1) (-1)) Lwξ (Mab600 66 (2000 + 0)) := htr601ξ
              rw [habr601ξ] at h9ξ
              exact h9ξ
            have hbr601ξ : 0 ≤ (zy_wR (zRc V 8 56) Lwξ p1ξ) ∧ (zy_wR (zRc V 8 56) Lwξ p1ξ) ≤ 999 := zy_wRb (by omega) (by omega)
            have htr601ξ : rnr601ξ = (zy_wR (zRc V 8 56) Lwξ p1ξ) := htr601ξ
            have htr601ξ := (Eq.symm htr601ξ)
            subst htr601ξ
            have hs1ξ := zRc8_s (V := V) (w := (zy_wR (zRc V 8 56) Lwξ p1ξ)) hRξ
            have hlf9ξ : max 0 (zy_lf (zRc V0 2 50) Lwξ p1ξ k9ξ - (zy_wR (zRc V 8 56) Lwξ p1ξ)) = zy_lf (zRc V0 2 50) Lwξ p1ξ (k9ξ + 1) := by rw [hRξ]; rfl
            rw [hlf9ξ] at hs1ξ
            refine zp_call (pc := 74) (how := 0) (idx := 387) (mi := 100) (S := []) hx hb hEξ hwξ heffξ hrmξ (zX_wea8 hWξ A Y F V) rfl (j := 55) rfl rfl (by decide +kernel) (zd_X11_lasts (74, .invokevirtual 387, 3, 0, []) (List.mem_of_getElem? (i := 36) rfl)) [(A 8 : Int), (zy_wR (zRc V 8 56) Lwξ p1ξ)] rfl ⟨zp_o2 (zM_P hMr601ξ (hYbξ _ (List.mem_of_getElem? (i := 8) rfl))), zp_o0 (by omega) (by omega) (by omega) (by omega), trivial⟩ (Nat.le_of_ble_eq_true rfl) ⟨⟨Mr601, hMr601ξ, hVr601ξ, trivial⟩, rfl, hYF0ξ, ((show 0 ≤ V 8 3 ∧ V 8 3 ≤ 9999 by omega)).1, ((show 0 ≤ V 8 3 ∧ V 8 3 ≤ 9999 by omega)).2, (show 0 ≤ (zy_wR (zRc V 8 56) Lwξ p1ξ) by omega), (show (zy_wR (zRc V 8 56) Lwξ p1ξ) ≤ 999 by omega)⟩ (fun al halξ rna602ξ Pa602 Ga602 hexta602ξ hfra602ξ hoka602ξ hcsa602ξ hpsia602ξ => ?_)
            obtain rfl := List.mem_singleton.mp halξ
            obtain ⟨hPea602ξ, Ma602, hMa602ξ, hVa602ξ, hSba602ξ⟩ := hpsia602ξ
            subst hPea602ξ
            clear hexta602ξ hfra602ξ hcsa602ξ hoka602ξ
            have hVa602ξ : ∀ o k, zNc o → Ma602 o k = (zf_wea8 V (zy_wR (zRc V 8 56) Lwξ p1ξ)).2 o k := hVa602ξ
            have hw83ξ : (zf_wea8 V (zy_wR (zRc V 8 56) Lwξ p1ξ)).2 8 3 = zy_lf (zRc V0 2 50) Lwξ p1ξ (k9ξ + 1) := by
              have h9ξ : zRc (zf_wea8 V (zy_wR (zRc V 8 56) Lwξ p1ξ)).2 8 56 8 = zy_R (zRc V0 2 50) (zy_lf (zRc V0 2 50) Lwξ p1ξ (k9ξ + 1)) k9ξ 8 := by rw [hs1ξ.2]
              exact (Eq.trans h9ξ) ((yu_ne (by decide)).trans yu_at)
            have hw86ξ : (zf_wea8 V (zy_wR (zRc V 8 56) Lwξ p1ξ)).2 8 6 = V 8 6 := by (unfold zf_wea8; dsimp only; exact zp_set_ne (Or.inr (by decide)))
            have hlfb1ξ := zy_lfb (R := (zRc V0 2 50)) (L := Lwξ) hp12ξ.1 hp12ξ.2 ⟨hlf0ξ, hlf1ξ⟩ (k9ξ + 1)
            refine zp_load (pc := 77) hx hb (zd_X11_lasts (77, .aload_n 0, 1, 0, []) (List.mem_of_getElem? (i := 37) rfl)) rfl (j := 1) rfl ?_
            refine zp_getf (n := (A 8 : Int)) (pc := 78) hx hb hEξ hwξ (zd_X11_lasts (78, .getfield 101, 3, 0, []) (List.mem_of_getElem? (i := 38) rfl)) (j := 66) rfl rfl rfl (zM_P hMa602ξ (hYbξ _ (List.mem_of_getElem? (i := 0) rfl))) ((zM_G hMa602ξ (hYbξ _ (List.mem_of_getElem? (i := 0) rfl)) 16).trans (zM_F hMa602ξ (hFbξ _ (List.mem_of_getElem? (i := 11) rfl)))) ?_
            refine zp_getf (n := (zy_lf (zRc V0 2 50) Lwξ p1ξ (k9ξ + 1))) (pc := 81) hx hb hEξ hwξ (zd_X11_lasts (81, .getfield 283, 3, 0, []) (List.mem_of_getElem? (i := 39) rfl)) (j := 5) rfl rfl rfl (zM_P hMa602ξ (hYbξ _ (List.mem_of_getElem? (i := 8) rfl))) (((zM_G hMa602ξ (hYbξ _ (List.mem_of_getElem? (i := 8) rfl)) 3).trans (hVa602ξ 8 3 (by decide))).trans hw83ξ) ?_
            refine zp_if (pc := 84) (tgt := 89) hx hb (zd_X11_lasts (84, .ifCond .ne 5, 3, 0, []) (List.mem_of_getElem? (i := 40) rfl)) rfl (fun (hc603ξ : ¬ (zy_lf (zRc V0 2 50) Lwξ p1ξ (k9ξ + 1)) = 0) => ?_) (fun (hc603ξ : ¬ (¬ (zy_lf (zRc V0 2 50) Lwξ p1ξ (k9ξ + 1)) = 0)) => ?_)
            · refine zp_load (pc := 89) hx hb (zd_X11_lasts (89, .aload_n 0, 1, 0, []) (List.mem_of_getElem? (i := 43) rfl)) rfl (j := 1) rfl ?_
              refine zp_getf (n := (A 8 : Int)) (pc := 90) hx hb hEξ hwξ (zd_X11_lasts (90, .getfield 101, 3, 0, []) (List.mem_of_getElem? (i := 44) rfl)) (j := 66) rfl rfl rfl (zM_P hMa602ξ (hYbξ _ (List.mem_of_getElem? (i := 0) rfl))) ((zM_G hMa602ξ (hYbξ _ (List.mem_of_getElem? (i := 0) rfl)) 16).trans (zM_F hMa602ξ (hFbξ _ (List.mem_of_getElem? (i := 11) rfl)))) ?_
              refine zp_dup (pc := 93) hx hb (zd_X11_lasts (93, .dup, 1, 0, []) (List.mem_of_getElem? (i := 45) rfl)) (show (2 : Nat) ≠ 1 by decide) ?_
              refine zp_getf (n := (V 8 6)) (pc := 94) hx hb hEξ hwξ (zd_X11_lasts (94, .getfield 178, 3, 0, []) (List.mem_of_getElem? (i := 46) rfl)) (j := 8) rfl rfl rfl (zM_P hMa602ξ (hYbξ _ (List.mem_of_getElem? (i := 8) rfl))) (((zM_G hMa602ξ (hYbξ _ (List.mem_of_getElem? (i := 8) rfl)) 6).trans (hVa602ξ 8 6 (by decide))).trans hw86ξ) ?_
              refine zp_const (pc := 97) hx hb (zd_X11_lasts (97, .iconst 1, 1, 0, []) (List.mem_of_getElem? (i := 47) rfl)) rfl rfl ?_
              refine zp_add (n := ((V 8 6) + 1)) (pc := 98) hx hb (zd_X11_lasts (98, .iadd, 1, 0, []) (List.mem_of_getElem? (i := 48) rfl)) (by omega) (zp_r0 (by omega) (by omega)) ?_
              refine zp_putf (pc := 99) hx hb hEξ hwξ heffξ (zd_X11_lasts (99, .putfield 178, 3, 0, []) (List.mem_of_getElem? (i := 49) rfl)) (j := 8) rfl rfl rfl (zM_P hMa602ξ (hYbξ _ (List.mem_of_getElem? (i := 8) rfl))) (zp_o0 (by omega) (by omega) (by omega) (by omega)) ?_
              refine zp_iinc (L' := [(2, 0, ((k9ξ : Int) + 1)), (0, 2, (A 0 : Int)), (1, 0, p1ξ)]) (n := ((k9ξ : Int) + 1)) (pc := 102) hx hb hnLξ (zd_X11_lasts (102, .iinc 2 1, 3, 0, []) (List.mem_of_getElem? (i := 50) rfl)) (j := 0) rfl (by omega) (zp_r0 (by omega) (by omega)) rfl rfl ?_
              refine zp_goto (tgt := 40) (pc := 105) hx hb (zd_X11_lasts (105, .goto (-65), 3, 0, []) (List.mem_of_getElem? (i := 51) rfl)) rfl ?_
              refine zp_drop (L' := [(2, 0, ((k9ξ : Int) + 1)), (0, 2, (A 0 : Int)), (1, 0, p1ξ)]) (by simp) ?_
              refine ih (k9ξ + 1) (zp_set (zf_wea8 V (zy_wR (zRc V 8 56) Lwξ p1ξ)).2 8 6 ((V 8 6) + 1)) (zp_set Ma602 8 6 ((V 8 6) + 1)) (zp_set Ga602 (A 8) 6 ((V 8 6) + 1)) (by omega) (zM_set hMa602ξ (hYbξ _ (List.mem_of_getElem? (i := 8) rfl)) (zFx hFxξ (o := 8) (k := 6) (by decide) (by decide))) (zV_set hVa602ξ) (fun o k hoξ => ?_) ?_ ?_ ?_
              · rw [zp_set_ne (Or.inl hoξ.1), zf_wea8_f (fun hmξ => by have h9ξ : o = 8 := (by simpa using hmξ); exact hoξ.1 h9ξ)]
                exact hFξ o k hoξ
              · exact zLF_f hlwξ (fun o k h8ξ => (zp_set_ne (Or.inl (by omega))).trans (zf_wea8_f (fun hmξ => by have h9ξ : o = 8 := (by simpa using hmξ); omega)))
              · exact hs1ξ.1
              · rw [hlaξ, zy_la, if_neg (by omega)]
            · refine zp_load (pc := 87) hx hb (zd_X11_lasts (87, .iload_n 2, 1, 0, []) (List.mem_of_getElem? (i := 41) rfl)) rfl (j := 0) rfl ?_
              refine zp_iret (pc := 88) (n := (k9ξ : Int)) hx hb hEξ hQξ hU5ξ rfl (by decide) (zd_X11_lasts (88, .ireturn, 1, 0, []) (List.mem_of_getElem? (i := 42) rfl)) (j := 0) rfl (zp_o0 (by omega) (by omega) (by omega) (by omega)) ?_
              rw [hpsξ]
              refine ⟨rfl, ?_⟩
              refine ⟨_, ⟨Ma602, hMa602ξ, hVa602ξ, trivial⟩, fun o k hoξ => (zf_wea8_f (fun hmξ => by have h9ξ : o = 8 := (by simpa using hmξ); unfold zN8 at hoξ; omega)).trans (hFξ o k hoξ), ?_⟩
              show (k9ξ : Int) = (if 0 ≤ p1ξ ∧ p1ξ ≤ 12 then zv_la (zRc V0 2 50) Lwξ p1ξ else -1)
              rw [if_pos hp12ξ]
              unfold zv_la
              rw [if_pos (show zRc V0 2 50 9 = 0 from hsnξ), hlaξ, zy_la, if_pos (by omega)]
      refine zp_drop (L' := [(2, 0, 0), (0, 2, (A 0 : Int)), (1, 0, p1ξ)]) (by simp) ?_
      refine loop 999 0 (zf_kf8_2 V0).2 Ma597 Ga597 (by omega) hMa597ξ hVa597ξ (fun o k hoξ => ?_) ?_ ?_ rfl
      · exact zf_kf8_2_f (fun hmξ => by have h9ξ : o = 8 ∨ o = 56 ∨ o = 57 ∨ o = 58 := (by simpa using hmξ); unfold zN8 at hoξ; omega)
      · exact zLF_f hlwξ (fun o k h8ξ => zf_kf8_2_f (fun hmξ => by have h9ξ : o = 8 ∨ o = 56 ∨ o = 57 ∨ o = 58 := (by simpa using hmξ); omega))
      · rw [zRc8_1]
        exact zy_R_0.symm
    · refine zp_const (pc := 22) hx hb (zd_X11_lasts (22, .iconst 0, 1, 0, []) (List.mem_of_getElem? (i := 10) rfl)) rfl rfl ?_
      refine zp_iret (pc := 23) (n := 0) hx hb hEξ hQξ hU5ξ rfl (by decide) (zd_X11_lasts (23, .ireturn, 1, 0, []) (List.mem_of_getElem? (i := 11) rfl)) (j := 0) rfl (zp_o0 (by omega) (by omega) (by omega) (by omega)) ?_
      rw [hpsξ]
      refine ⟨rfl, ?_⟩
      refine ⟨V, ⟨M, hMξ, hVξ, trivial⟩, fun o k _ => rfl, ?_⟩
      show 0 = (if 0 ≤ p1ξ ∧ p1ξ ≤ 12 then zv_la (zRc V 2 50) Lwξ p1ξ else -1)
      rw [if_pos (show 0 ≤ p1ξ ∧ p1ξ ≤ 12 by omega)]
      unfold zv_la
      rw [if_neg (show ¬ zRc V 2 50 9 = 0 from fun h9ξ => by have h8ξ : V 2 4 = 0 := h9ξ; omega)]
  · have hbf594ξ : ¬ (0 ≤ p1ξ ∧ p1ξ ≤ 12) := fun h9ξ => absurd ((Iff.mpr htn591ξ) h9ξ) (by omega)
    refine zp_const (pc := 7) hx hb (zd_X11_lasts (7, .iconst (-1), 1, 0, []) (List.mem_of_getElem? (i := 3) rfl)) rfl rfl ?_
    refine zp_iret (pc := 8) (n := (-1)) hx hb hEξ hQξ hU5ξ rfl (by decide) (zd_X11_lasts (8, .ireturn, 1, 0, []) (List.mem_of_getElem? (i := 4) rfl)) (j := 0) rfl (zp_o0 (by omega) (by omega) (by omega) (by omega)) ?_
    rw [hpsξ]
    refine ⟨rfl, ?_⟩
    refine ⟨V, ⟨M, hMξ, hVξ, trivial⟩, fun o k _ => rfl, ?_⟩
    show (-1) = (if 0 ≤ p1ξ ∧ p1ξ ≤ 12 then zv_la (zRc V 2 50) Lwξ p1ξ else -1)
    rw [if_neg (show ¬ (0 ≤ p1ξ ∧ p1ξ ≤ 12) by omega)]
noncomputable def zK_oddc : zk_K := (zt_mn 150, prog_1_method_38_code, 6, (Option.some Jvm.ClassFile.FieldType.long), 1, 11, [(2, 12, 0, 0), (0, 0, (-2147483648), 2147483647), (0, 0, (-2147483648), 2147483647)], [(some (1, 0, (-9223372036854775808), 9223372036854775807), [])], zUC, (4, 240, 0, 0))
noncomputable def zφ_oddc (A : Nat → Nat) (Y : List (Nat × Nat)) (F : List (Nat × Nat × Nat)) (V : Nat → Nat → Int) (Lwξ : List yK) : (Nat → Option Nat) → (Nat → Nat → Int) → List Int → Prop := fun P G ps => zMVc A Y F V P G ∧ ps.getD 0 0 = (A 0 : Int) ∧ zMc Y F ∧ zLF A Y F V Lwξ ∧ (0 ≤ V 2 3 ∧ V 2 3 ≤ 9999) ∧ (0 ≤ V 2 6 ∧ V 2 6 ≤ 9999)
noncomputable def zψ_oddc (A : Nat → Nat) (Y : List (Nat × Nat)) (F : List (Nat × Nat × Nat)) (V : Nat → Nat → Int) (Lwξ : List yK) : (Nat → Option Nat) → (Nat → Nat → Int) → List Int → (Nat → Option Nat) → (Nat → Nat → Int) → Int → Prop := fun P G ps P' G' rn => P' = P ∧ ∃ V' : Nat → Nat → Int, zMVc A Y F V' P' G' ∧ (∀ o k, zN8 o → V' o k = V o k) ∧ rn = (if (0 ≤ (ps.getD 1 0) ∧ (ps.getD 1 0) ≤ 12) ∧ 0 ≤ (ps.getD 2 0) ∧ (ps.getD 2 0) ≤ 60 then zy_od (zRc V 2 50) Lwξ (ps.getD 1 0) (ps.getD 2 0).toNat else -1)
theorem zX_oddc {l : Launch} {w : zk_W} (hWξ : zh_W w) (A : Nat → Nat) (Y : List (Nat × Nat)) (F : List (Nat × Nat × Nat)) (V : Nat → Nat → Int) (Lwξ : List yK) : zk_metX l w zt_dv zt_TB zK_oddc (zp_A (zφ_oddc A Y F V Lwξ)) (zp_B (zψ_oddc A Y F V Lwξ)) ∧ zk_cok w zt_TB zK_oddc := by
  refine zp_methX (cn := "WoundTown") zp_lkallW hWξ (pl := 1196) rfl (by decide +kernel) (fun p e R s m args below meth c Q u hx hb hEξ hQξ hU5ξ heffξ hnLξ hokξ hφ => ?_)
  have hwξ := hWξ.1
  obtain ⟨p0ξ, p1ξ, p2ξ, hpsξ, tk0, tk1, tk2⟩ := zp_ps3 hokξ
  have hrmξ : zk_Kr (zk_ev (zt_types, zp_lkW, zt_dv, [], [], zp_lcW, zK_oddc)) = zk_Kr zK_oddc := rfl
  rw [hpsξ] at hφ ⊢
  have hφ : zMVc A Y F V u.1 (zp_n u.2.1) ∧ p0ξ = (A 0 : Int) ∧ zMc Y F ∧ zLF A Y F V Lwξ ∧ (0 ≤ V 2 3 ∧ V 2 3 ≤ 9999) ∧ (0 ≤ V 2 6 ∧ V 2 6 ≤ 9999) := hφ
  obtain ⟨⟨M, hMξ, hVξ, hSbξ⟩, rfl, hYFξ, hlwξ, ⟨hlf0ξ, hlf1ξ⟩, ⟨hdy0ξ, hdy1ξ⟩⟩ := hφ
  have hYF0ξ := hYFξ
  obtain ⟨hYbξ, hFbξ, hFxξ, -⟩ := hYFξ
  have hi1ξ := zp_int tk1
  have hi2ξ := zp_int tk2
  show zp_J p l e R s m args below meth c Q w u [] 0 [(0, 2, (A 0 : Int)), (1, 0, p1ξ), (2, 0, p2ξ)] [] u.1 (zp_n u.2.1)
  refine zp_load (pc := 0) hx hb (zd_X11_odds (0, .iload_n 1, 1, 0, []) (List.mem_of_getElem? (i := 0) rfl)) rfl (j := 1) rfl ?_
  refine zp_call (pc := 1) (how := 1) (idx := 292) (mi := 86) (S := []) hx hb hEξ hwξ heffξ hrmξ (zX_art hWξ) rfl (j := 31) rfl rfl (by decide +kernel) (zd_X11_odds (1, .invokestatic 292, 3, 0, []) (List.mem_of_getElem? (i := 1) rfl)) [p1ξ] rfl ⟨zp_o0 (by omega) (by omega) (by omega) (by omega), trivial⟩ (Nat.le_of_ble_eq_true rfl) trivial (fun al halξ rnn604ξ Pn604 Gn604 hextn604ξ hfrn604ξ hokn604ξ hcsn604ξ hpsin604ξ => ?_)
  obtain rfl := List.mem_singleton.mp halξ
  have hrn604ξ := zp_int (hokn604ξ _ rfl).1
  obtain ⟨hPen604ξ, hGen604ξ, htn604ξ⟩ := hpsin604ξ
  rw [hPen604ξ, hGen604ξ]
  clear hextn604ξ hfrn604ξ hcsn604ξ hPen604ξ hGen604ξ
  have htn604ξ : rnn604ξ = 1 ↔ 0 ≤ p1ξ ∧ p1ξ ≤ 12 := htn604ξ
  refine zp_if (pc := 4) (tgt := 17) hx hb (zd_X11_odds (4, .ifCond .eq 13, 3, 0, []) (List.mem_of_getElem? (i := 2) rfl)) rfl (fun (hc605ξ : rnn604ξ = 0) => ?_) (fun (hc605ξ : ¬ (rnn604ξ = 0)) => ?_)
  · have hbf606ξ : ¬ (0 ≤ p1ξ ∧ p1ξ ≤ 12) := fun h9ξ => absurd ((Iff.mpr htn604ξ) h9ξ) (by omega)
    refine zp_ldc2 (pc := 17) hx hb hEξ (zd_X11_odds (17, .ldc2_w 390, 3, 0, []) (List.mem_of_getElem? (i := 8) rfl)) (j := 73) rfl ?_
    refine zp_lret (pc := 20) (n := (-1)) hx hb hEξ hQξ hU5ξ rfl (by decide) (zd_X11_odds (20, .lreturn, 1, 0, []) (List.mem_of_getElem? (i := 9) rfl)) (j := 0) rfl (zp_o1 (by first | assumption | exact zp_r1 (by omega) (by omega))) ?_
    rw [hpsξ]
    refine ⟨rfl, ?_⟩
    refine ⟨V, ⟨M, hMξ, hVξ, trivial⟩, fun o k _ => rfl, ?_⟩
    show (-1) = (if (0 ≤ p1ξ ∧ p1ξ ≤ 12) ∧ 0 ≤ p2ξ ∧ p2ξ ≤ 60 then zy_od (zRc V 2 50) Lwξ p1ξ p2ξ.toNat else -1)
    rw [if_neg (show ¬ ((0 ≤ p1ξ ∧ p1ξ ≤ 12) ∧ 0 ≤ p2ξ ∧ p2ξ ≤ 60) by omega)]
  · have hbt607ξ := (Iff.mp htn604ξ) (by omega)
    refine zp_load (pc := 7) hx hb (zd_X11_odds (7, .iload_n 2, 1, 0, []) (List.mem_of_getElem? (i := 3) rfl)) rfl (j := 2) rfl ?_
    refine zp_const (pc := 8) hx hb (zd_X11_odds (8, .iconst 0, 1, 0, []) (List.mem_of_getElem? (i := 4) rfl)) rfl rfl ?_
    refine zp_const (pc := 9) hx hb (zd_X11_odds (9, .bipush 60, 2, 0, []) (List.mem_of_getElem? (i := 5) rfl)) rfl rfl ?_
    refine zp_call (pc := 11) (how := 1) (idx := 107) (mi := 15) (S := []) hx hb hEξ hwξ heffξ hrmξ (zX_iwn hWξ) rfl (j := 10) rfl rfl (by decide +kernel) (zd_X11_odds (11, .invokestatic 107, 3, 0, []) (List.mem_of_getElem? (i := 6) rfl)) [p2ξ, 0, 60] rfl ⟨zp_o0 (by omega) (by omega) (by omega) (by omega), zp_o0 (by omega) (by omega) (by omega) (by omega), zp_o0 (by omega) (by omega) (by omega) (by omega), trivial⟩ (Nat.le_of_ble_eq_true rfl) trivial (fun al halξ rnn608ξ Pn608 Gn608 hextn608ξ hfrn608ξ hokn608ξ hcsn608ξ hpsin608ξ => ?_)
    obtain rfl := List.mem_singleton.mp halξ
    have hrn608ξ := zp_int (hokn608ξ _ rfl).1
    obtain ⟨hPen608ξ, hGen608ξ, htn608ξ⟩ := hpsin608ξ
    rw [hPen608ξ, hGen608ξ]
    clear hextn608ξ hfrn608ξ hcsn608ξ hPen608ξ hGen608ξ
    have htn608ξ : rnn608ξ = 1 ↔ 0 ≤ p2ξ ∧ p2ξ ≤ 60 := htn608ξ
    refine zp_if (pc := 14) (tgt := 21) hx hb (zd_X11_odds (14, .ifCond .ne 7, 3, 0, []) (List.mem_of_getElem? (i := 7) rfl)) rfl (fun (hc609ξ : ¬ rnn608ξ = 0) => ?_) (fun (hc609ξ : ¬ (¬ rnn608ξ = 0)) => ?_)
    · have hbt610ξ := (Iff.mp htn608ξ) (by omega)
      refine zp_ldc2 (pc := 21) hx hb hEξ (zd_X11_odds (21, .ldc2_w 392, 3, 0, []) (List.mem_of_getElem? (i := 10) rfl)) (j := 74) rfl ?_
      refine zp_store (L' := [(3, 1, 1000000000000), (0, 2, (A 0 : Int)), (1, 0, p1ξ), (2, 0, p2ξ)]) (pc := 24) hx hb hnLξ (zd_X11_odds (24, .lstore_n 3, 1, 0, []) (List.mem_of_getElem? (i := 11) rfl)) rfl rfl rfl ?_
      refine zp_load (pc := 25) hx hb (zd_X11_odds (25, .aload_n 0, 1, 0, []) (List.mem_of_getElem? (i := 12) rfl)) rfl (j := 1) rfl ?_
      refine zp_getf (n := (A 8 : Int)) (pc := 26) hx hb hEξ hwξ (zd_X11_odds (26, .getfield 101, 3, 0, []) (List.mem_of_getElem? (i := 13) rfl)) (j := 66) rfl rfl rfl (zM_P hMξ (hYbξ _ (List.mem_of_getElem? (i := 0) rfl))) ((zM_G hMξ (hYbξ _ (List.mem_of_getElem? (i := 0) rfl)) 16).trans (zM_F hMξ (hFbξ _ (List.mem_of_getElem? (i := 11) rfl)))) ?_
      refine zp_load (pc := 29) hx hb (zd_X11_odds (29, .aload_n 0, 1, 0, []) (List.mem_of_getElem? (i := 14) rfl)) rfl (j := 1) rfl ?_
      refine zp_getf (n := (A 1 : Int)) (pc := 30) hx hb hEξ hwξ (zd_X11_odds (30, .getfield 10, 3, 0, []) (List.mem_of_getElem? (i := 15) rfl)) (j := 50) rfl rfl rfl (zM_P hMξ (hYbξ _ (List.mem_of_getElem? (i := 0) rfl))) ((zM_G hMξ (hYbξ _ (List.mem_of_getElem? (i := 0) rfl)) 0).trans (zM_F hMξ (hFbξ _ (List.mem_of_getElem? (i := 0) rfl)))) ?_
      refine zp_getf (n := (A 2 : Int)) (pc := 33) hx hb hEξ hwξ (zd_X11_odds (33, .getfield 135, 3, 0, []) (List.mem_of_getElem? (i := 16) rfl)) (j := 24) rfl rfl rfl (zM_P hMξ (hYbξ _ (List.mem_of_getElem? (i := 1) rfl))) ((zM_G hMξ (hYbξ _ (List.mem_of_getElem? (i := 1) rfl)) 18).trans (zM_F hMξ (hFbξ _ (List.mem_of_getElem? (i := 24) rfl)))) ?_
      refine zp_call (pc := 36) (how := 0) (idx := 226) (mi := 80) (S := []) hx hb hEξ hwξ heffξ hrmξ (zX_kf8_2 hWξ A Y F V) rfl (j := 25) rfl rfl (by decide +kernel) (zd_X11_odds (36, .invokevirtual 226, 3, 0, []) (List.mem_of_getElem? (i := 17) rfl)) [(A 8 : Int), (A 2 : Int)] rfl ⟨zp_o2 (zM_P hMξ (hYbξ _ (List.mem_of_getElem? (i := 8) rfl))), zp_o2 (zM_P hMξ (hYbξ _ (List.mem_of_getElem? (i := 2) rfl))), trivial⟩ (Nat.le_of_ble_eq_true rfl) ⟨⟨M, hMξ, hVξ, trivial⟩, rfl, hYF0ξ, rfl⟩ (fun al halξ rna612ξ Pa612 Ga612 hexta612ξ hfra612ξ hoka612ξ hcsa612ξ hpsia612ξ => ?_)
      obtain rfl := List.mem_singleton.mp halξ
      obtain ⟨hPea612ξ, Ma612, hMa612ξ, hVa612ξ, hSba612ξ⟩ := hpsia612ξ
      subst hPea612ξ
      clear hexta612ξ hfra612ξ hcsa612ξ hoka612ξ
      have hVa612ξ : ∀ o k, zNc o → Ma612 o k = (zf_kf8_2 V).2 o k := hVa612ξ
      refine zp_const (pc := 39) hx hb (zd_X11_odds (39, .iconst 0, 1, 0, []) (List.mem_of_getElem? (i := 18) rfl)) rfl rfl ?_
      refine zp_store (L' := [(5, 0, 0), (3, 1, 1000000000000), (0, 2, (A 0 : Int)), (1, 0, p1ξ), (2, 0, p2ξ)]) (pc := 40) hx hb hnLξ (zd_X11_odds (40, .istore 5, 2, 0, []) (List.mem_of_getElem? (i := 19) rfl)) rfl rfl rfl ?_
      obtain ⟨V0, hV0ξ⟩ : ∃ V0 : Nat → Nat → Int, V0 = V := ⟨V, rfl⟩
      subst hV0ξ
      have hp12ξ : 0 ≤ p1ξ ∧ p1ξ ≤ 12 := by omega
      have hp60ξ : 0 ≤ p2ξ ∧ p2ξ ≤ 60 := by omega
      have loop : ∀ (r9ξ k9ξ : Nat) (V M : Nat → Nat → Int) (G : Nat → Nat → Int), r9ξ + k9ξ = p2ξ.toNat → zM A Y F M u.1 G → (∀ o k, zNc o → M o k = V o k) → (∀ o k, zN8 o → V o k = V0 o k) → zLF A Y F V Lwξ → zRc V 8 56 = zy_R (zRc V0 2 50) (zy_lf (zRc V0 2 50) Lwξ p1ξ k9ξ) k9ξ → zp_J p l e R s m args below meth c Q w u [] 42 [(5, 0, (k9ξ : Int)), (3, 1, (zy_od (zRc V0 2 50) Lwξ p1ξ k9ξ)), (0, 2, (A 0 : Int)), (1, 0, p1ξ), (2, 0, p2ξ)] [] u.1 G := by
        intro r9ξ
        induction r9ξ with
        | zero =>
          intro k9ξ V M G hrξ hMξ hVξ hFξ hlwξ hRξ
          have hodbξ := zy_odb (R := (zRc V0 2 50)) (L := Lwξ) (t := p1ξ) k9ξ
          have hlfbξ := zy_lfb (R := (zRc V0 2 50)) (L := Lwξ) hp12ξ.1 hp12ξ.2 ⟨hlf0ξ, hlf1ξ⟩ k9ξ
          have h83ξ : V 8 3 = zy_lf (zRc V0 2 50) Lwξ p1ξ k9ξ := by
            have h9ξ : zRc V 8 56 8 = zy_R (zRc V0 2 50) (zy_lf (zRc V0 2 50) Lwξ p1ξ k9ξ) k9ξ 8 := by rw [hRξ]
            exact (Eq.trans h9ξ) ((yu_ne (by decide)).trans yu_at)
          have h86ξ : V 8 6 = V0 2 6 + (k9ξ : Int) := by
            have h9ξ : zRc V 8 56 5 = zy_R (zRc V0 2 50) (zy_lf (zRc V0 2 50) Lwξ p1ξ k9ξ) k9ξ 5 := by rw [hRξ]
            have h8ξ : zy_R (zRc V0 2 50) (zy_lf (zRc V0 2 50) Lwξ p1ξ k9ξ) k9ξ 5 = V0 2 6 + (k9ξ : Int) := yu_at
            exact (Eq.trans h9ξ) h8ξ
          have hx83ξ : 0 ≤ V 8 3 ∧ V 8 3 ≤ 9999 := by rw [h83ξ]; exact hlfbξ
          have hx86ξ : 0 ≤ V 8 6 ∧ V 8 6 ≤ 20000 := by omega
          refine zp_load (pc := 42) hx hb (zd_X11_odds (42, .iload 5, 2, 0, []) (List.mem_of_getElem? (i := 20) rfl)) rfl (j := 0) rfl ?_
          refine zp_load (pc := 44) hx hb (zd_X11_odds (44, .iload_n 2, 1, 0, []) (List.mem_of_getElem? (i := 21) rfl)) rfl (j := 4) rfl ?_
          refine zp_icmp (pc := 45) (tgt := 114) hx hb (zd_X11_odds (45, .if_icmp .ge 69, 3, 0, []) (List.mem_of_getElem? (i := 22) rfl)) rfl (fun (hc613ξ : p2ξ ≤ (k9ξ : Int)) => ?_) (fun (hc613ξ : ¬ (p2ξ ≤ (k9ξ : Int))) => ?_)
          · refine zp_load (pc := 114) hx hb (zd_X11_odds (114, .lload_n 3, 1, 0, []) (List.mem_of_getElem? (i := 57) rfl)) rfl (j := 1) rfl ?_
            refine zp_lret (pc := 115) (n := (zy_od (zRc V0 2 50) Lwξ p1ξ k9ξ)) hx hb hEξ hQξ hU5ξ rfl (by decide) (zd_X11_odds (115, .lreturn, 1, 0, []) (List.mem_of_getElem? (i := 58) rfl)) (j := 0) rfl (zp_o1 (zp_r1 (by omega) (by omega))) ?_
            rw [hpsξ]
            refine ⟨rfl, ?_⟩
            refine ⟨V, ⟨M, hMξ, hVξ, trivial⟩, hFξ, ?_⟩
            show (zy_od (zRc V0 2 50) Lwξ p1ξ k9ξ) = (if (0 ≤ p1ξ ∧ p1ξ ≤ 12) ∧ 0 ≤ p2ξ ∧ p2ξ ≤ 60 then zy_od (zRc V0 2 50) Lwξ p1ξ p2ξ.toNat else -1)
            rw [if_pos ⟨hp12ξ, hp60ξ⟩, show p2ξ.toNat = k9ξ by omega]
          · exfalso
            omega
        | succ r9ξ ih =>
          intro k9ξ V M G hrξ hMξ hVξ hFξ hlwξ hRξ
          have hodbξ := zy_odb (R := (zRc V0 2 50)) (L := Lwξ) (t := p1ξ) k9ξ
          have hlfbξ := zy_lfb (R := (zRc V0 2 50)) (L := Lwξ) hp12ξ.1 hp12ξ.2 ⟨hlf0ξ, hlf1ξ⟩ k9ξ
          have h83ξ : V 8 3 = zy_lf (zRc V0 2 50) Lwξ p1ξ k9ξ := by
            have h9ξ : zRc V 8 56 8 = zy_R (zRc V0 2 50) (zy_lf (zRc V0 2 50) Lwξ p1ξ k9ξ) k9ξ 8 := by rw [hRξ]
            exact (Eq.trans h9ξ) ((yu_ne (by decide)).trans yu_at)
          have h86ξ : V 8 6 = V0 2 6 + (k9ξ : Int) := by
            have h9ξ : zRc V 8 56 5 = zy_R (zRc V0 2 50) (zy_lf (zRc V0 2 50) Lwξ p1ξ k9ξ) k9ξ 5 := by rw [hRξ]
            have h8ξ : zy_R (zRc V0 2 50) (zy_lf (zRc V0 2 50) Lwξ p1ξ k9ξ) k9ξ 5 = V0 2 6 + (k9ξ : Int) := yu_at
            exact (Eq.trans h9ξ) h8ξ
          have hx83ξ : 0 ≤ V 8 3 ∧ V 8 3 ≤ 9999 := by rw [h83ξ]; exact hlfbξ
          have hx86ξ : 0 ≤ V 8 6 ∧ V 8 6 ≤ 20000 := by omega
          have hodb1ξ := zy_odb (R := (zRc V0 2 50)) (L := Lwξ) (t := p1ξ) (k9ξ + 1)
          refine zp_load (pc := 42) hx hb (zd_X11_odds (42, .iload 5, 2, 0, []) (List.mem_of_getElem? (i := 20) rfl)) rfl (j := 0) rfl ?_
          refine zp_load (pc := 44) hx hb (zd_X11_odds (44, .iload_n 2, 1, 0, []) (List.mem_of_getElem? (i := 21) rfl)) rfl (j := 4) rfl ?_
          refine zp_icmp (pc := 45) (tgt := 114) hx hb (zd_X11_odds (45, .if_icmp .ge 69, 3, 0, []) (List.mem_of_getElem? (i := 22) rfl)) rfl (fun (hc614ξ : p2ξ ≤ (k9ξ : Int)) => ?_) (fun (hc614ξ : ¬ (p2ξ ≤ (k9ξ : Int))) => ?_)
          · exfalso
            omega
          · refine zp_load (pc := 48) hx hb (zd_X11_odds (48, .aload_n 0, 1, 0, []) (List.mem_of_getElem? (i := 23) rfl)) rfl (j := 2) rfl ?_
            refine zp_getf (n := (A 4 : Int)) (pc := 49) hx hb hEξ hwξ (zd_X11_odds (49, .getfield 30, 3, 0, []) (List.mem_of_getElem? (i := 24) rfl)) (j := 53) rfl rfl rfl (zM_P hMξ (hYbξ _ (List.mem_of_getElem? (i := 0) rfl))) ((zM_G hMξ (hYbξ _ (List.mem_of_getElem? (i := 0) rfl)) 3).trans (zM_F hMξ (hFbξ _ (List.mem_of_getElem? (i := 3) rfl)))) ?_
            refine zp_load (pc := 52) hx hb (zd_X11_odds (52, .aload_n 0, 1, 0, []) (List.mem_of_getElem? (i := 25) rfl)) rfl (j := 2) rfl ?_
            refine zp_getf (n := (A 1 : Int)) (pc := 53) hx hb hEξ hwξ (zd_X11_odds (53, .getfield 10, 3, 0, []) (List.mem_of_getElem? (i := 26) rfl)) (j := 50) rfl rfl rfl (zM_P hMξ (hYbξ _ (List.mem_of_getElem? (i := 0) rfl))) ((zM_G hMξ (hYbξ _ (List.mem_of_getElem? (i := 0) rfl)) 0).trans (zM_F hMξ (hFbξ _ (List.mem_of_getElem? (i := 0) rfl)))) ?_
            refine zp_load (pc := 56) hx hb (zd_X11_odds (56, .aload_n 0, 1, 0, []) (List.mem_of_getElem? (i := 27) rfl)) rfl (j := 2) rfl ?_
            refine zp_getf (n := (A 8 : Int)) (pc := 57) hx hb hEξ hwξ (zd_X11_odds (57, .getfield 101, 3, 0, []) (List.mem_of_getElem? (i := 28) rfl)) (j := 66) rfl rfl rfl (zM_P hMξ (hYbξ _ (List.mem_of_getElem? (i := 0) rfl))) ((zM_G hMξ (hYbξ _ (List.mem_of_getElem? (i := 0) rfl)) 16).trans (zM_F hMξ (hFbξ _ (List.mem_of_getElem? (i := 11) rfl)))) ?_
            refine zp_load (pc := 60) hx hb (zd_X11_odds (60, .iload_n 1, 1, 0, []) (List.mem_of_getElem? (i := 29) rfl)) rfl (j := 3) rfl ?_
            refine zp_call (pc := 61) (how := 0) (idx := 295) (mi := 90) (S := []) hx hb hEξ hwξ heffξ hrmξ (zX_abt8 hWξ A Y F V Lwξ) rfl (j := 34) rfl rfl (by decide +kernel) (zd_X11_odds (61, .invokevirtual 295, 3, 0, []) (List.mem_of_getElem? (i := 30) rfl)) [(A 4 : Int), (A 1 : Int), (A 8 : Int), p1ξ] rfl ⟨zp_o2 (zM_P hMξ (hYbξ _ (List.mem_of_getElem? (i := 4) rfl))), zp_o2 (zM_P hMξ (hYbξ _ (List.mem_of_getElem? (i := 1) rfl))), zp_o2 (zM_P hMξ (hYbξ _ (List.mem_of_getElem? (i := 8) rfl))), zp_o0 (by omega) (by omega) (by omega) (by omega), trivial⟩ (Nat.le_of_ble_eq_true rfl) ⟨⟨M, hMξ, hVξ, trivial⟩, rfl, hYF0ξ, rfl, rfl, hlwξ⟩ (fun al halξ rnab615ξ Pab615 Gab615 hextab615ξ hfrab615ξ hokab615ξ hcsab615ξ hpsiab615ξ => ?_)
            obtain rfl := List.mem_singleton.mp halξ
            obtain ⟨hPeab615ξ, Mab615, hMab615ξ, hVab615ξ, hAbab615ξ⟩ := hpsiab615ξ
            have hAbab615ξ : zAb A Y F V Lwξ (zRc V 8 56) p1ξ Mab615 := hAbab615ξ
            subst hPeab615ξ
            clear hextab615ξ hfrab615ξ hokab615ξ hcsab615ξ
            refine zp_load (pc := 64) hx hb (zd_X11_odds (64, .lload_n 3, 1, 0, []) (List.mem_of_getElem? (i := 31) rfl)) rfl (j := 1) rfl ?_
            refine zp_load (pc := 65) hx hb (zd_X11_odds (65, .lload_n 3, 1, 0, []) (List.mem_of_getElem? (i := 32) rfl)) rfl (j := 1) rfl ?_
            refine zp_load (pc := 66) hx hb (zd_X11_odds (66, .aload_n 0, 1, 0, []) (List.mem_of_getElem? (i := 33) rfl)) rfl (j := 2) rfl ?_
            refine zp_getf (n := (A 4 : Int)) (pc := 67) hx hb hEξ hwξ (zd_X11_odds (67, .getfield 30, 3, 0, []) (List.mem_of_getElem? (i := 34) rfl)) (j := 53) rfl rfl rfl (zM_P hMab615ξ (hYbξ _ (List.mem_of_getElem? (i := 0) rfl))) ((zM_G hMab615ξ (hYbξ _ (List.mem_of_getElem? (i := 0) rfl)) 3).trans (zM_F hMab615ξ (hFbξ _ (List.mem_of_getElem? (i := 3) rfl)))) ?_
            have hlr616ξ := zg_lawM hMab615ξ hYF0ξ hVab615ξ hAbab615ξ (pw := (-1)) (hrξ := (-1)) (p := (-1)) (o := (-1)) (l := (-1)) (by omega) (by omega) (by omega) (by omega) (by omega) (by rfl) (by rfl)
            have habr616ξ := (hAbab615ξ).1.1
            refine zp_call (pc := 70) (how := 0) (idx := 302) (mi := 119) (S := [(1, (zy_od (zRc V0 2 50) Lwξ p1ξ k9ξ)), (1, (zy_od (zRc V0 2 50) Lwξ p1ξ k9ξ))]) hx hb hEξ hwξ heffξ hrmξ (zX_sn_ hWξ (A 66) (fun j => Mab615 66 (2000 + j)) (zg_ew (zRc V 8 56) zd_S0 p1ξ (-1) (-1) (-1)) Lwξ) rfl (j := 42) rfl rfl (by decide +kernel) (zd_X11_odds (70, .invokevirtual 302, 3, 0, []) (List.mem_of_getElem? (i := 35) rfl)) [(A 4 : Int)] rfl ⟨zp_o2 (zM_P hMab615ξ (hYbξ _ (List.mem_of_getElem? (i := 4) rfl))), trivial⟩ (Nat.le_of_ble_eq_true rfl) ⟨hlr616ξ, (show 0 ≤ Mab615 66 (2000 + 0) by omega), (show Mab615 66 (2000 + 0) ≤ 1000 by omega)⟩ (fun al halξ rnr616ξ Pr616 Gr616 hextr616ξ hfrr616ξ hokr616ξ hcsr616ξ hpsir616ξ => ?_)
            obtain rfl := List.mem_singleton.mp halξ
            have hrr616ξ := zp_int (hokr616ξ _ rfl).1
            obtain ⟨hPer616ξ, hWnr616ξ, htr616ξ⟩ := hpsir616ξ
            obtain ⟨Mr616, hMr616ξ, hMkr616ξ, hM6r616ξ⟩ := zM_rul hMab615ξ hYF0ξ hfrr616ξ hextr616ξ
            subst hPer616ξ
            have hVr616ξ : ∀ o k, zNc o → Mr616 o k = V o k := fun o k hkξ => (hMkr616ξ o k (fun e => hkξ (by rw [e]; decide)) (fun e => hkξ (by rw [e]; decide))).trans (hVab615ξ o k hkξ)
            have hAbr616ξ := zAb_n (hAbab615ξ) (fun j => (hM6r616ξ (2000 + j)).trans (hWnr616ξ j)) hlr616ξ.1.2.2.2.2.1 (hMkr616ξ 4 2 (by decide) (by decide))
            clear hextr616ξ hfrr616ξ hokr616ξ hcsr616ξ hlr616ξ
            have htr616ξ : rnr616ξ = (zy_sn (zg_ew (zRc V 8 56) zd_S0 p1ξ (-1) (-1) (-1)) Lwξ p1ξ) := by
              have h9ξ : rnr616ξ = zy_sn (zg_ew (zRc V 8 56) zd_S0 p1ξ (-1) (-1) (-1)) Lwξ (Mab615 66 (2000 + 0)) := htr616ξ
              rw [habr616ξ] at h9ξ
              exact h9ξ
            have hbr616ξ : 0 ≤ (zy_sR (zRc V 8 56) Lwξ p1ξ) ∧ (zy_sR (zRc V 8 56) Lwξ p1ξ) ≤ 100 := zy_sRb
            have htr616ξ : rnr616ξ = (zy_sR (zRc V 8 56) Lwξ p1ξ) := htr616ξ
            have htr616ξ := (Eq.symm htr616ξ)
            subst htr616ξ
            have hm1ξ := zy_m100 hodbξ (zy_sRb (R := zRc V 8 56) (L := Lwξ) (t := p1ξ))
            refine zp_i2l (pc := 73) hx hb (zd_X11_odds (73, .i2l, 1, 0, []) (List.mem_of_getElem? (i := 36) rfl)) ?_
            refine zp_lmulx (n := ((zy_od (zRc V0 2 50) Lwξ p1ξ k9ξ) * (zy_sR (zRc V 8 56) Lwξ p1ξ))) (pc := 74) hx hb (zd_X11_odds (74, .lmul, 1, 0, []) (List.mem_of_getElem? (i := 37) rfl)) rfl (zp_r1 (by omega) (by omega)) ?_
            refine zp_ldc2 (pc := 75) hx hb hEξ (zd_X11_odds (75, .ldc2_w 394, 3, 0, []) (List.mem_of_getElem? (i := 38) rfl)) (j := 75) rfl ?_
            refine zp_ldivx (n := (((zy_od (zRc V0 2 50) Lwξ p1ξ k9ξ) * (zy_sR (zRc V 8 56) Lwξ p1ξ)) / 100)) (pc := 78) hx hb (zd_X11_odds (78, .ldiv, 1, 0, []) (List.mem_of_getElem? (i := 39) rfl)) (by decide) (Int.tdiv_eq_ediv_of_nonneg hm1ξ.1) (zp_r1 (by omega) (by omega)) ?_
            refine zp_lsubx (n := (zy_od (zRc V0 2 50) Lwξ p1ξ (k9ξ + 1))) (pc := 79) hx hb (zd_X11_odds (79, .lsub, 1, 0, []) (List.mem_of_getElem? (i := 40) rfl)) (by rw [zy_od, ← hRξ]) (zp_r1 (by omega) (by omega)) ?_
            refine zp_store (L' := [(3, 1, (zy_od (zRc V0 2 50) Lwξ p1ξ (k9ξ + 1))), (5, 0, (k9ξ : Int)), (0, 2, (A 0 : Int)), (1, 0, p1ξ), (2, 0, p2ξ)]) (pc := 80) hx hb hnLξ (zd_X11_odds (80, .lstore_n 3, 1, 0, []) (List.mem_of_getElem? (i := 41) rfl)) rfl rfl rfl ?_
            refine zp_load (pc := 81) hx hb (zd_X11_odds (81, .aload_n 0, 1, 0, []) (List.mem_of_getElem? (i := 42) rfl)) rfl (j := 2) rfl ?_
            refine zp_getf (n := (A 8 : Int)) (pc := 82) hx hb hEξ hwξ (zd_X11_odds (82, .getfield 101, 3, 0, []) (List.mem_of_getElem? (i := 43) rfl)) (j := 66) rfl rfl rfl (zM_P hMr616ξ (hYbξ _ (List.mem_of_getElem? (i := 0) rfl))) ((zM_G hMr616ξ (hYbξ _ (List.mem_of_getElem? (i := 0) rfl)) 16).trans (zM_F hMr616ξ (hFbξ _ (List.mem_of_getElem? (i := 11) rfl)))) ?_
            refine zp_load (pc := 85) hx hb (zd_X11_odds (85, .aload_n 0, 1, 0, []) (List.mem_of_getElem? (i := 44) rfl)) rfl (j := 2) rfl ?_
            refine zp_getf (n := (A 4 : Int)) (pc := 86) hx hb hEξ hwξ (zd_X11_odds (86, .getfield 30, 3, 0, []) (List.mem_of_getElem? (i := 45) rfl)) (j := 53) rfl rfl rfl (zM_P hMr616ξ (hYbξ _ (List.mem_of_getElem? (i := 0) rfl))) ((zM_G hMr616ξ (hYbξ _ (List.mem_of_getElem? (i := 0) rfl)) 3).trans (zM_F hMr616ξ (hFbξ _ (List.mem_of_getElem? (i := 3) rfl)))) ?_
            have hlr617ξ := zg_lawM hMr616ξ hYF0ξ hVr616ξ hAbr616ξ (pw := (-1)) (hrξ := (-1)) (p := (-1)) (o := (-1)) (l := (-1)) (by omega) (by omega) (by omega) (by omega) (by omega) (by rfl) (by rfl)
            have habr617ξ := (hAbr616ξ).1.1
            refine zp_call (pc := 89) (how := 0) (idx := 299) (mi := 92) (S := [(2, (A 8 : Int))]) hx hb hEξ hwξ heffξ hrmξ (zX_we_ hWξ (A 66) (fun j => Mr616 66 (2000 + j)) (zg_ew (zRc V 8 56) zd_S0 p1ξ (-1) (-1) (-1)) Lwξ) rfl (j := 35) rfl rfl (by decide +kernel) (zd_X11_odds (89, .invokevirtual 299, 3, 0, []) (List.mem_of_getElem? (i := 46) rfl)) [(A 4 : Int)] rfl ⟨zp_o2 (zM_P hMr616ξ (hYbξ _ (List.mem_of_getElem? (i := 4) rfl))), trivial⟩ (Nat.le_of_ble_eq_true rfl) ⟨hlr617ξ, (show 0 ≤ Mr616 66 (2000 + 0) by omega), (show Mr616 66 (2000 + 0) ≤ 1000 by omega)⟩ (fun al halξ rnr617ξ Pr617 Gr617 hextr617ξ hfrr617ξ hokr617ξ hcsr617ξ hpsir617ξ => ?_)
            obtain rfl := List.mem_singleton.mp halξ
            have hrr617ξ := zp_int (hokr617ξ _ rfl).1
            obtain ⟨hPer617ξ, hWnr617ξ, htr617ξ⟩ := hpsir617ξ
            obtain ⟨Mr617, hMr617ξ, hMkr617ξ, hM6r617ξ⟩ := zM_rul hMr616ξ hYF0ξ hfrr617ξ hextr617ξ
            subst hPer617ξ
            have hVr617ξ : ∀ o k, zNc o → Mr617 o k = V o k := fun o k hkξ => (hMkr617ξ o k (fun e => hkξ (by rw [e]; decide)) (fun e => hkξ (by rw [e]; decide))).trans (hVr616ξ o k hkξ)
            have hAbr617ξ := zAb_n (hAbr616ξ) (fun j => (hM6r617ξ (2000 + j)).trans (hWnr617ξ j)) hlr617ξ.1.2.2.2.2.1 (hMkr617ξ 4 2 (by decide) (by decide))
            clear hextr617ξ hfrr617ξ hokr617ξ hcsr617ξ hlr617ξ
            have htr617ξ : rnr617ξ = (zy_we (zg_ew (zRc V 8 56) zd_S0 p1ξ (-1) (-1) (-1)) Lwξ p1ξ) := by
              have h9ξ : rnr617ξ = zy_we (zg_ew (zRc V 8 56) zd_S0 p1ξ (-1) (-1) (-1)) Lwξ (Mr616 66 (2000 + 0)) := htr617ξ
              rw [habr617ξ] at h9ξ
              exact h9ξ
            have hbr617ξ : 0 ≤ (zy_wR (zRc V 8 56) Lwξ p1ξ) ∧ (zy_wR (zRc V 8 56) Lwξ p1ξ) ≤ 999 := zy_wRb (by omega) (by omega)
            have htr617ξ : rnr617ξ = (zy_wR (zRc V 8 56) Lwξ p1ξ) := htr617ξ
            have htr617ξ := (Eq.symm htr617ξ)
            subst htr617ξ
            have hs1ξ := zRc8_s (V := V) (w := (zy_wR (zRc V 8 56) Lwξ p1ξ)) hRξ
            have hlf9ξ : max 0 (zy_lf (zRc V0 2 50) Lwξ p1ξ k9ξ - (zy_wR (zRc V 8 56) Lwξ p1ξ)) = zy_lf (zRc V0 2 50) Lwξ p1ξ (k9ξ + 1) := by rw [hRξ]; rfl
            rw [hlf9ξ] at hs1ξ
            refine zp_call (pc := 92) (how := 0) (idx := 387) (mi := 100) (S := []) hx hb hEξ hwξ heffξ hrmξ (zX_wea8 hWξ A Y F V) rfl (j := 55) rfl rfl (by decide +kernel) (zd_X11_odds (92, .invokevirtual 387, 3, 0, []) (List.mem_of_getElem? (i := 47) rfl)) [(A 8 : Int), (zy_wR (zRc V 8 56) Lwξ p1ξ)] rfl ⟨zp_o2 (zM_P hMr617ξ (hYbξ _ (List.mem_of_getElem? (i := 8) rfl))), zp_o0 (by omega) (by omega) (by omega) (by omega), trivial⟩ (Nat.le_of_ble_eq_true rfl) ⟨⟨Mr617, hMr617ξ, hVr617ξ, trivial⟩, rfl, hYF0ξ, ((show 0 ≤ V 8 3 ∧ V 8 3 ≤ 9999 by omega)).1, ((show 0 ≤ V 8 3 ∧ V 8 3 ≤ 9999 by omega)).2, (show 0 ≤ (zy_wR (zRc V 8 56) Lwξ p1ξ) by omega), (show (zy_wR (zRc V 8 56) Lwξ p1ξ) ≤ 999 by omega)⟩ (fun al halξ rna618ξ Pa618 Ga618 hexta618ξ hfra618ξ hoka618ξ hcsa618ξ hpsia618ξ => ?_)
            obtain rfl := List.mem_singleton.mp halξ
            obtain ⟨hPea618ξ, Ma618, hMa618ξ, hVa618ξ, hSba618ξ⟩ := hpsia618ξ
            subst hPea618ξ
            clear hexta618ξ hfra618ξ hcsa618ξ hoka618ξ
            have hVa618ξ : ∀ o k, zNc o → Ma618 o k = (zf_wea8 V (zy_wR (zRc V 8 56) Lwξ p1ξ)).2 o k := hVa618ξ
            have hw86ξ : (zf_wea8 V (zy_wR (zRc V 8 56) Lwξ p1ξ)).2 8 6 = V 8 6 := by (unfold zf_wea8; dsimp only; exact zp_set_ne (Or.inr (by decide)))
            refine zp_load (pc := 95) hx hb (zd_X11_odds (95, .aload_n 0, 1, 0, []) (List.mem_of_getElem? (i := 48) rfl)) rfl (j := 2) rfl ?_
            refine zp_getf (n := (A 8 : Int)) (pc := 96) hx hb hEξ hwξ (zd_X11_odds (96, .getfield 101, 3, 0, []) (List.mem_of_getElem? (i := 49) rfl)) (j := 66) rfl rfl rfl (zM_P hMa618ξ (hYbξ _ (List.mem_of_getElem? (i := 0) rfl))) ((zM_G hMa618ξ (hYbξ _ (List.mem_of_getElem? (i := 0) rfl)) 16).trans (zM_F hMa618ξ (hFbξ _ (List.mem_of_getElem? (i := 11) rfl)))) ?_
            refine zp_dup (pc := 99) hx hb (zd_X11_odds (99, .dup, 1, 0, []) (List.mem_of_getElem? (i := 50) rfl)) (show (2 : Nat) ≠ 1 by decide) ?_
            refine zp_getf (n := (V 8 6)) (pc := 100) hx hb hEξ hwξ (zd_X11_odds (100, .getfield 178, 3, 0, []) (List.mem_of_getElem? (i := 51) rfl)) (j := 8) rfl rfl rfl (zM_P hMa618ξ (hYbξ _ (List.mem_of_getElem? (i := 8) rfl))) (((zM_G hMa618ξ (hYbξ _ (List.mem_of_getElem? (i := 8) rfl)) 6).trans (hVa618ξ 8 6 (by decide))).trans hw86ξ) ?_
            refine zp_const (pc := 103) hx hb (zd_X11_odds (103, .iconst 1, 1, 0, []) (List.mem_of_getElem? (i := 52) rfl)) rfl rfl ?_
            refine zp_add (n := ((V 8 6) + 1)) (pc := 104) hx hb (zd_X11_odds (104, .iadd, 1, 0, []) (List.mem_of_getElem? (i := 53) rfl)) (by omega) (zp_r0 (by omega) (by omega)) ?_
            refine zp_putf (pc := 105) hx hb hEξ hwξ heffξ (zd_X11_odds (105, .putfield 178, 3, 0, []) (List.mem_of_getElem? (i := 54) rfl)) (j := 8) rfl rfl rfl (zM_P hMa618ξ (hYbξ _ (List.mem_of_getElem? (i := 8) rfl))) (zp_o0 (by omega) (by omega) (by omega) (by omega)) ?_
            refine zp_iinc (L' := [(5, 0, ((k9ξ : Int) + 1)), (3, 1, (zy_od (zRc V0 2 50) Lwξ p1ξ (k9ξ + 1))), (0, 2, (A 0 : Int)), (1, 0, p1ξ), (2, 0, p2ξ)]) (n := ((k9ξ : Int) + 1)) (pc := 108) hx hb hnLξ (zd_X11_odds (108, .iinc 5 1, 3, 0, []) (List.mem_of_getElem? (i := 55) rfl)) (j := 1) rfl (by omega) (zp_r0 (by omega) (by omega)) rfl rfl ?_
            refine zp_goto (tgt := 42) (pc := 111) hx hb (zd_X11_odds (111, .goto (-69), 3, 0, []) (List.mem_of_getElem? (i := 56) rfl)) rfl ?_
            refine zp_drop (L' := [(5, 0, ((k9ξ : Int) + 1)), (3, 1, (zy_od (zRc V0 2 50) Lwξ p1ξ (k9ξ + 1))), (0, 2, (A 0 : Int)), (1, 0, p1ξ), (2, 0, p2ξ)]) (by simp) ?_
            refine ih (k9ξ + 1) (zp_set (zf_wea8 V (zy_wR (zRc V 8 56) Lwξ p1ξ)).2 8 6 ((V 8 6) + 1)) (zp_set Ma618 8 6 ((V 8 6) + 1)) (zp_set Ga618 (A 8) 6 ((V 8 6) + 1)) (by omega) (zM_set hMa618ξ (hYbξ _ (List.mem_of_getElem? (i := 8) rfl)) (zFx hFxξ (o := 8) (k := 6) (by decide) (by decide))) (zV_set hVa618ξ) (fun o k hoξ => ?_) ?_ ?_
            · rw [zp_set_ne (Or.inl hoξ.1), zf_wea8_f (fun hmξ => by have h9ξ : o = 8 := (by simpa using hmξ); exact hoξ.1 h9ξ)]
              exact hFξ o k hoξ
            · exact zLF_f hlwξ (fun o k h8ξ => (zp_set_ne (Or.inl (by omega))).trans (zf_wea8_f (fun hmξ => by have h9ξ : o = 8 := (by simpa using hmξ); omega)))
            · exact hs1ξ.1
      refine zp_drop (L' := [(5, 0, 0), (3, 1, 1000000000000), (0, 2, (A 0 : Int)), (1, 0, p1ξ), (2, 0, p2ξ)]) (by simp) ?_
      refine loop p2ξ.toNat 0 (zf_kf8_2 V0).2 Ma612 Ga612 (by omega) hMa612ξ hVa612ξ (fun o k hoξ => ?_) ?_ ?_
      · exact zf_kf8_2_f (fun hmξ => by have h9ξ : o = 8 ∨ o = 56 ∨ o = 57 ∨ o = 58 := (by simpa using hmξ); unfold zN8 at hoξ; omega)
      · exact zLF_f hlwξ (fun o k h8ξ => zf_kf8_2_f (fun hmξ => by have h9ξ : o = 8 ∨ o = 56 ∨ o = 57 ∨ o = 58 := (by simpa using hmξ); omega))
      · rw [zRc8_1]
        exact zy_R_0.symm
    · have hbf611ξ : ¬ (0 ≤ p2ξ ∧ p2ξ ≤ 60) := fun h9ξ => absurd ((Iff.mpr htn608ξ) h9ξ) (by omega)
      refine zp_ldc2 (pc := 17) hx hb hEξ (zd_X11_odds (17, .ldc2_w 390, 3, 0, []) (List.mem_of_getElem? (i := 8) rfl)) (j := 73) rfl ?_
      refine zp_lret (pc := 20) (n := (-1)) hx hb hEξ hQξ hU5ξ rfl (by decide) (zd_X11_odds (20, .lreturn, 1, 0, []) (List.mem_of_getElem? (i := 9) rfl)) (j := 0) rfl (zp_o1 (by first | assumption | exact zp_r1 (by omega) (by omega))) ?_
      rw [hpsξ]
      refine ⟨rfl, ?_⟩
      refine ⟨V, ⟨M, hMξ, hVξ, trivial⟩, fun o k _ => rfl, ?_⟩
      show (-1) = (if (0 ≤ p1ξ ∧ p1ξ ≤ 12) ∧ 0 ≤ p2ξ ∧ p2ξ ≤ 60 then zy_od (zRc V 2 50) Lwξ p1ξ p2ξ.toNat else -1)
      rw [if_neg (show ¬ ((0 ≤ p1ξ ∧ p1ξ ≤ 12) ∧ 0 ≤ p2ξ ∧ p2ξ ≤ 60) by omega)]
