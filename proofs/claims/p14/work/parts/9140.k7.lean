/-! part k7: the reference over logical cells: image, back -/
theorem zl_T60x : zt_types[60]? = some zl_T2 := rfl
noncomputable def zf_imr (V : Nat → Nat → Int) (p : Int) : Int × (Nat → Nat → Int) := if 0 ≤ p ∧ p ≤ 1 then (0, zT_tell (zp_set (zc_cp (zp_set V 0 0 0) 3 0 4 (5580 * p.toNat) 5580) 5 (2000 + p.toNat) 1) 0) else (-1, zT_tell (zp_set V 0 0 0) (-1))
noncomputable def zf_bkr (V : Nat → Nat → Int) (p : Int) : Int × (Nat → Nat → Int) := if 0 ≤ p ∧ p ≤ 1 then (if V 5 (2000 + p.toNat) = 0 then (-2, zT_tell (zp_set V 0 0 0) (-2)) else zf_stl (zc_cp (zp_set V 0 0 0) 4 (5580 * p.toNat) 3 0 5580) 0) else (-1, zT_tell (zp_set V 0 0 0) (-1))
noncomputable def zUEi : List (Nat × Nat × Nat) := (59, 1001, 0) :: zUE
noncomputable def zK_imr : zk_K := (zt_mn 185, prog_14_method_14_code, 3, (Option.some Jvm.ClassFile.FieldType.int), 1, 12, [(2, 13, 0, 0), (0, 0, (-2147483648), 2147483647)], [(some (0, 0, (-2147483648), 2147483647), [])], zUEi, (2, 120, 0, 0))
noncomputable def zφ_imr (A : Nat → Nat) (V : Nat → Nat → Int) : (Nat → Option Nat) → (Nat → Nat → Int) → List Int → Prop := fun P G ps => zMVr A V P G ∧ ps.getD 0 0 = (A 0 : Int) ∧ True
noncomputable def zψ_imr (A : Nat → Nat) (V : Nat → Nat → Int) : (Nat → Option Nat) → (Nat → Nat → Int) → List Int → (Nat → Option Nat) → (Nat → Nat → Int) → Int → Prop := fun P G ps P' G' rn => P' = P ∧ zMVr A (zf_imr V (ps.getD 1 0)).2 P' G' ∧ rn = (zf_imr V (ps.getD 1 0)).1
set_option maxRecDepth 40000 in
theorem zX_imr {l : Launch} {w : zk_W} (hWξ : zh_W w) (A : Nat → Nat) (V : Nat → Nat → Int) : zk_metX l w zt_dv zt_TB zK_imr (zp_A (zφ_imr A V)) (zp_B (zψ_imr A V)) ∧ zk_cok w zt_TB zK_imr := by
  refine zp_methX (cn := "WoundTownModel") zp_lkall hWξ (pl := 1569) rfl (by decide +kernel) (fun p e R s m args below meth c Q u hx hb hEξ hQξ hU5ξ heffξ hnLξ hokξ hφ => ?_)
  have hwξ := hWξ.1
  obtain ⟨p0ξ, p1ξ, hpsξ, tk0, tk1⟩ := zp_ps2 hokξ
  have hrmξ : zk_Kr (zk_ev (zt_types, zp_lk, zt_dv, [], [], zp_lc, zK_imr)) = zk_Kr zK_imr := rfl
  rw [hpsξ] at hφ ⊢
  have hφ : zMVr A V u.1 (zp_n u.2.1) ∧ p0ξ = (A 0 : Int) ∧ True := hφ
  obtain ⟨⟨M, hMξ, hVξ, hSbξ⟩, rfl, -⟩ := hφ
  have hi1ξ := zp_int tk1
  show zp_J p l e R s m args below meth c Q w u [] 0 [(0, 2, (A 0 : Int)), (1, 0, p1ξ)] [] u.1 (zp_n u.2.1)
  have hG3ξ : ∀ j, zp_n u.2.1 (A 3) (2000 + j) = V 3 (2000 + j) := fun j => (zM_G hMξ (List.mem_of_getElem? (i := 2) rfl) (2000 + j)).trans (hVξ 3 (2000 + j) (Or.inl (by decide)))
  refine zp_kx hwξ (zM_P hMξ (List.mem_of_getElem? (i := 2) rfl)) zl_T59 rfl (fun hkx3ξ => ?_)
  obtain ⟨f0, hf3ξ, hxi3ξ⟩ := hkx3ξ
  have hf3ξ : ∀ j, j < 5580 → f0 j = V 3 (2000 + j) := fun j hjξ => (hf3ξ j hjξ).trans (hG3ξ j)
  refine zp_kaT hwξ (zM_P hMξ (List.mem_of_getElem? (i := 2) rfl)) zl_T59 rfl zl_kd (fun hka3ξ => ?_)
  have hka3ξ : ∀ j, j < 5580 → zk_ok u.1 (zk_fj zl_T j) (V 3 (2000 + j)) := fun j hjξ => by
    rw [← hG3ξ j]
    exact hka3ξ j hjξ
  have hG4ξ : ∀ j, zp_n u.2.1 (A 4) (2000 + j) = V 4 (2000 + j) := fun j => (zM_G hMξ (List.mem_of_getElem? (i := 3) rfl) (2000 + j)).trans (hVξ 4 (2000 + j) (Or.inl (by decide)))
  refine zp_kx hwξ (zM_P hMξ (List.mem_of_getElem? (i := 3) rfl)) (T := zl_T2) rfl rfl (fun hkx4ξ => ?_)
  obtain ⟨f1, hf4ξ, hxi4ξ⟩ := hkx4ξ
  have hf4ξ : ∀ j, j < 11160 → f1 j = V 4 (2000 + j) := fun j hjξ => (hf4ξ j hjξ).trans (hG4ξ j)
  refine zp_kaT hwξ (zM_P hMξ (List.mem_of_getElem? (i := 3) rfl)) (T := zl_T2) rfl rfl zl_kd2 (fun hka4ξ => ?_)
  have hka4ξ : ∀ j, j < 11160 → zk_ok u.1 (zk_fj zl_T2 j) (V 4 (2000 + j)) := fun j hjξ => by
    rw [← hG4ξ j]
    exact hka4ξ j hjξ
  have hlw0ξ : zk_laws f0 0 := hxi3ξ.1 rfl
  have hlw1ξ : zk_laws f1 0 ∧ zk_laws f1 5580 := hxi4ξ.2 rfl
  by_cases hk0ξ : p1ξ = 0
  · subst hk0ξ
    show zp_J p l e R s m args below meth c Q w u [] 0 [(0, 2, (A 0 : Int)), (1, 0, 0)] [] u.1 (zp_n u.2.1)
    refine zp_load (pc := 0) hx hb (zd_X12_image (0, .aload_n 0, 1, 0, []) (List.mem_of_getElem? (i := 0) rfl)) rfl (j := 0) rfl ?_
    refine zp_const (pc := 1) hx hb (zd_X12_image (1, .iconst 0, 1, 0, []) (List.mem_of_getElem? (i := 1) rfl)) rfl rfl ?_
    refine zp_putf (pc := 2) hx hb hEξ hwξ heffξ (zd_X12_image (2, .putfield 161, 3, 0, []) (List.mem_of_getElem? (i := 2) rfl)) (j := 18) rfl rfl rfl (zM_P hMξ (List.mem_of_getElem? (i := 0) rfl)) (zp_o0 (by decide) (by decide) (by decide) (by decide)) ?_
    refine zp_load (pc := 5) hx hb (zd_X12_image (5, .iload_n 1, 1, 0, []) (List.mem_of_getElem? (i := 3) rfl)) rfl (j := 1) rfl ?_
    refine zp_i2l (pc := 6) hx hb (zd_X12_image (6, .i2l, 1, 0, []) (List.mem_of_getElem? (i := 4) rfl)) ?_
    refine zp_const (pc := 7) hx hb (zd_X12_image (7, .lconst 0, 1, 0, []) (List.mem_of_getElem? (i := 5) rfl)) rfl rfl ?_
    refine zp_const (pc := 8) hx hb (zd_X12_image (8, .lconst 1, 1, 0, []) (List.mem_of_getElem? (i := 6) rfl)) rfl rfl ?_
    refine zp_call (pc := 9) (how := 1) (idx := 181) (mi := 186) (S := []) hx hb hEξ hwξ heffξ hrmξ (zX_in2 hWξ) rfl (j := 2) rfl rfl (by decide +kernel) (zd_X12_image (9, .invokestatic 181, 3, 0, []) (List.mem_of_getElem? (i := 7) rfl)) [0, 0, 1] rfl ⟨zp_o1 (by first | assumption | exact zp_r1 (by omega) (by omega)), zp_o1 (by first | assumption | exact zp_r1 (by omega) (by omega)), zp_o1 (by first | assumption | exact zp_r1 (by omega) (by omega)), trivial⟩ (Nat.le_of_ble_eq_true rfl) trivial (fun al halξ rnn Pn Gn hextnξ hfrnξ hoknξ hcsnξ hpsinξ => ?_)
    obtain rfl := List.mem_singleton.mp halξ
    have hrnξ := zp_int (hoknξ _ rfl).1
    obtain ⟨hPenξ, hGenξ, htnξ⟩ := hpsinξ
    have htnξ : rnn = 1 ↔ (0 : Int) ≤ 0 ∧ (0 : Int) ≤ 1 := htnξ
    rw [hPenξ, hGenξ]
    have hrn9ξ : rnn = 1 := by omega
    subst hrn9ξ
    refine zp_if (pc := 12) (tgt := 21) hx hb (zd_X12_image (12, .ifCond .ne 9, 3, 0, []) (List.mem_of_getElem? (i := 8) rfl)) rfl (fun (hc221ξ : ¬ (1 : Int) = 0) => ?_) (fun (hc221ξ : ¬ (¬ (1 : Int) = 0)) => ?_)
    · refine zp_const (pc := 21) hx hb (zd_X12_image (21, .iconst 0, 1, 0, []) (List.mem_of_getElem? (i := 13) rfl)) rfl rfl ?_
      refine zp_store (L' := [(2, 0, 0), (0, 2, (A 0 : Int)), (1, 0, 0)]) (pc := 22) hx hb hnLξ (zd_X12_image (22, .istore_n 2, 1, 0, []) (List.mem_of_getElem? (i := 14) rfl)) rfl rfl rfl ?_
      have hstloop0ξ : ∀ f : Nat → Int, (∀ j, j < 11160 → f j = (zc_cp (zp_set V 0 0 0) 3 0 4 0 5580) 4 (2000 + j)) → zk_laws f 0 ∧ zk_laws f 5580 := fun f hfξ => by
        refine ⟨?_, ?_⟩
        · refine zl_cp (f := f0) (b := 0) hlw0ξ (fun j hjξ => ?_) (fun _ _ _ => Or.inr trivial) (fun j hjξ => ⟨u.1, ?_⟩)
          · rw [hfξ (0 + j) (by omega), hf3ξ (0 + j) (by omega)]
            refine (zc_cp_e (by omega) (by omega)).trans ((zp_set_ne (Or.inl (by decide))).trans ?_)
            rw [show 0 + (0 + j - 0) = 0 + j by omega]
          · rw [Nat.zero_add, hf3ξ j hjξ]
            exact hka3ξ j hjξ
        · refine zl_cp (f := f1) (b := 5580) hlw1ξ.2 (fun j hjξ => ?_) (fun _ _ _ => Or.inr trivial) (fun j hjξ => ⟨u.1, ?_⟩)
          · rw [hfξ (5580 + j) (by omega), hf4ξ (5580 + j) (by omega)]
            exact (zc_cp_n (by omega)).trans (zp_set_ne (Or.inl (by decide)))
          · rw [hf4ξ (5580 + j) (by omega), ← show zk_fj zl_T2 (5580 + j) = zk_fj zl_T j from zl_fj2 (k := 1) hjξ (by omega)]
            exact hka4ξ _ (by omega)
      have loop0 : ∀ (r9ξ i9ξ : Nat) (G : Nat → Nat → Int), r9ξ + i9ξ = 5580 → zMVr A (zc_cp (zp_set V 0 0 0) 3 0 4 0 i9ξ) u.1 G → zp_J p l e R s m args below meth c Q w u [A 4] 23 [(2, 0, (i9ξ : Int)), (0, 2, (A 0 : Int)), (1, 0, 0)] [] u.1 G := by
        intro r9ξ
        induction r9ξ with
        | zero =>
          intro i9ξ G hrξ hMV9ξ
          obtain rfl : i9ξ = 5580 := by omega
          obtain ⟨M9ξ, hM9ξ, hV9ξ, hSb9ξ⟩ := hMV9ξ
          show zp_J p l e R s m args below meth c Q w u [A 4] 23 [(2, 0, 5580), (0, 2, (A 0 : Int)), (1, 0, 0)] [] u.1 G
          refine zp_strong hwξ (zM_P hM9ξ (List.mem_of_getElem? (i := 3) rfl)) (T := zl_T2) rfl rfl (fun f hfξ => ⟨fun z => absurd z (by decide), fun _ => hstloop0ξ f (fun j hjξ => (hfξ j hjξ).trans ((zM_G hM9ξ (List.mem_of_getElem? (i := 3) rfl) (2000 + j)).trans (hV9ξ 4 (2000 + j) (Or.inl (by decide)))))⟩) ?_
          refine zp_load (pc := 23) hx hb (zd_X12_image (23, .iload_n 2, 1, 0, []) (List.mem_of_getElem? (i := 15) rfl)) rfl (j := 0) rfl ?_
          refine zp_const (pc := 24) hx hb (zd_X12_image (24, .sipush 5580, 3, 0, []) (List.mem_of_getElem? (i := 16) rfl)) rfl rfl ?_
          refine zp_icmp (pc := 27) (tgt := 54) hx hb (zd_X12_image (27, .if_icmp .ge 27, 3, 0, []) (List.mem_of_getElem? (i := 17) rfl)) rfl (fun (hc222ξ : 5580 ≤ (5580 : Int)) => ?_) (fun (hc222ξ : ¬ (5580 ≤ (5580 : Int))) => ?_)
          · refine zp_load (pc := 54) hx hb (zd_X12_image (54, .aload_n 0, 1, 0, []) (List.mem_of_getElem? (i := 32) rfl)) rfl (j := 1) rfl ?_
            refine zp_getf (n := (A 5 : Int)) (pc := 55) hx hb hEξ hwξ (zd_X12_image (55, .getfield 19, 3, 0, []) (List.mem_of_getElem? (i := 33) rfl)) (j := 23) rfl rfl rfl (zM_P hM9ξ (List.mem_of_getElem? (i := 0) rfl)) ((zM_G hM9ξ (List.mem_of_getElem? (i := 0) rfl) 5).trans (zM_F hM9ξ (List.mem_of_getElem? (i := 3) rfl))) ?_
            refine zp_load (pc := 58) hx hb (zd_X12_image (58, .iload_n 1, 1, 0, []) (List.mem_of_getElem? (i := 34) rfl)) rfl (j := 2) rfl ?_
            refine zp_const (pc := 59) hx hb (zd_X12_image (59, .iconst 1, 1, 0, []) (List.mem_of_getElem? (i := 35) rfl)) rfl rfl ?_
            refine zp_zast (j := 0) (pc := 60) hx hb hwξ heffξ (zd_X12_image (60, .bastore, 1, 0, []) (List.mem_of_getElem? (i := 36) rfl)) (show zp_ia 4 61 = some (2, 0, 0, 0, 1) from rfl) (zM_P hM9ξ (List.mem_of_getElem? (i := 4) rfl)) (by omega) (by omega) (zp_o0 (by decide) (by decide) (by decide) (by decide)) (Or.inr rfl) rfl ?_
            refine zp_load (pc := 61) hx hb (zd_X12_image (61, .aload_n 0, 1, 0, []) (List.mem_of_getElem? (i := 37) rfl)) rfl (j := 1) rfl ?_
            refine zp_const (pc := 62) hx hb (zd_X12_image (62, .iconst 0, 1, 0, []) (List.mem_of_getElem? (i := 38) rfl)) rfl rfl ?_
            refine zp_call (pc := 63) (how := 0) (idx := 170) (mi := 183) (S := []) hx hb hEξ hwξ heffξ hrmξ (zX_tll hWξ A (zp_set (zc_cp (zp_set V 0 0 0) 3 0 4 0 5580) 5 (2000 + 0) 1)) rfl (j := 0) rfl rfl (by decide +kernel) (zd_X12_image (63, .invokevirtual 170, 3, 0, []) (List.mem_of_getElem? (i := 39) rfl)) [(A 0 : Int), 0] rfl ⟨zp_o2 (zM_P hM9ξ (List.mem_of_getElem? (i := 0) rfl)), zp_o0 (by omega) (by omega) (by omega) (by omega), trivial⟩ (Nat.le_of_ble_eq_true rfl) ⟨⟨(zp_set M9ξ 5 (2000 + 0) 1), (zM_setE hM9ξ (List.mem_of_getElem? (i := 4) rfl)), (zV_set hV9ξ), (zSb_set (by decide) hSb9ξ)⟩, rfl, (show -6 ≤ 0 by omega)⟩ (fun al halξ rnt223ξ Pt223 Gt223 hextt223ξ hfrt223ξ hokt223ξ hcst223ξ hpsit223ξ => ?_)
            obtain rfl := List.mem_singleton.mp halξ
            have hrt223ξ := zp_int (hokt223ξ _ rfl).1
            obtain ⟨hPet223ξ, ⟨Mt223, hMt223ξ, hVt223ξ, hSbt223ξ⟩, htt223ξ⟩ := hpsit223ξ
            subst hPet223ξ
            clear hextt223ξ hfrt223ξ hcst223ξ hokt223ξ
            have hVt223ξ : ∀ o k, zNs o k → Mt223 o k = (zT_tell (zp_set (zc_cp (zp_set V 0 0 0) 3 0 4 0 5580) 5 (2000 + 0) 1) 0) o k := hVt223ξ
            have htt223ξ : rnt223ξ = 0 := htt223ξ
            have htt223ξ := (Eq.symm htt223ξ)
            subst htt223ξ
            refine zp_iret (pc := 66) (n := 0) hx hb hEξ hQξ hU5ξ rfl (by decide) (zd_X12_image (66, .ireturn, 1, 0, []) (List.mem_of_getElem? (i := 40) rfl)) (j := 0) rfl (zp_o0 (by omega) (by omega) (by omega) (by omega)) ?_
            rw [hpsξ]
            refine ⟨rfl, ?_⟩
            have hffξ : zf_imr V 0 = (0, zT_tell (zp_set (zc_cp (zp_set V 0 0 0) 3 0 4 (5580 * 0) 5580) 5 (2000 + 0) 1) 0) := if_pos (by decide)
            show zMVr A (zf_imr V 0).2 u.1 _ ∧ _ = (zf_imr V 0).1
            rw [hffξ]
            exact ⟨⟨Mt223, hMt223ξ, hVt223ξ, hSbt223ξ⟩, rfl⟩
          · exfalso
            omega
        | succ r9ξ ih =>
          intro i9ξ G hrξ hMV9ξ
          obtain ⟨M9ξ, hM9ξ, hV9ξ, hSb9ξ⟩ := hMV9ξ
          refine zp_load (pc := 23) hx hb (zd_X12_image (23, .iload_n 2, 1, 0, []) (List.mem_of_getElem? (i := 15) rfl)) rfl (j := 0) rfl ?_
          refine zp_const (pc := 24) hx hb (zd_X12_image (24, .sipush 5580, 3, 0, []) (List.mem_of_getElem? (i := 16) rfl)) rfl rfl ?_
          refine zp_icmp (pc := 27) (tgt := 54) hx hb (zd_X12_image (27, .if_icmp .ge 27, 3, 0, []) (List.mem_of_getElem? (i := 17) rfl)) rfl (fun (hc224ξ : 5580 ≤ (i9ξ : Int)) => ?_) (fun (hc224ξ : ¬ (5580 ≤ (i9ξ : Int))) => ?_)
          · exfalso
            omega
          · refine zp_load (pc := 30) hx hb (zd_X12_image (30, .aload_n 0, 1, 0, []) (List.mem_of_getElem? (i := 18) rfl)) rfl (j := 1) rfl ?_
            refine zp_getf (n := (A 4 : Int)) (pc := 31) hx hb hEξ hwξ (zd_X12_image (31, .getfield 16, 3, 0, []) (List.mem_of_getElem? (i := 19) rfl)) (j := 22) rfl rfl rfl (zM_P hM9ξ (List.mem_of_getElem? (i := 0) rfl)) ((zM_G hM9ξ (List.mem_of_getElem? (i := 0) rfl) 4).trans (zM_F hM9ξ (List.mem_of_getElem? (i := 2) rfl))) ?_
            refine zp_const (pc := 34) hx hb (zd_X12_image (34, .sipush 5580, 3, 0, []) (List.mem_of_getElem? (i := 20) rfl)) rfl rfl ?_
            refine zp_load (pc := 37) hx hb (zd_X12_image (37, .iload_n 1, 1, 0, []) (List.mem_of_getElem? (i := 21) rfl)) rfl (j := 2) rfl ?_
            refine zp_mul (n := 0) (pc := 38) hx hb (zd_X12_image (38, .imul, 1, 0, []) (List.mem_of_getElem? (i := 22) rfl)) (by omega) (zp_r0 (by omega) (by omega)) ?_
            refine zp_load (pc := 39) hx hb (zd_X12_image (39, .iload_n 2, 1, 0, []) (List.mem_of_getElem? (i := 23) rfl)) rfl (j := 0) rfl ?_
            refine zp_add (n := (i9ξ : Int)) (pc := 40) hx hb (zd_X12_image (40, .iadd, 1, 0, []) (List.mem_of_getElem? (i := 24) rfl)) (by omega) (zp_r0 (by omega) (by omega)) ?_
            refine zp_load (pc := 41) hx hb (zd_X12_image (41, .aload_n 0, 1, 0, []) (List.mem_of_getElem? (i := 25) rfl)) rfl (j := 1) rfl ?_
            refine zp_getf (n := (A 3 : Int)) (pc := 42) hx hb hEξ hwξ (zd_X12_image (42, .getfield 13, 3, 0, []) (List.mem_of_getElem? (i := 26) rfl)) (j := 21) rfl rfl rfl (zM_P hM9ξ (List.mem_of_getElem? (i := 0) rfl)) ((zM_G hM9ξ (List.mem_of_getElem? (i := 0) rfl) 3).trans (zM_F hM9ξ (List.mem_of_getElem? (i := 1) rfl))) ?_
            refine zp_load (pc := 45) hx hb (zd_X12_image (45, .iload_n 2, 1, 0, []) (List.mem_of_getElem? (i := 27) rfl)) rfl (j := 0) rfl ?_
            refine zp_ialdT (j := i9ξ) (v := ((zp_set V 0 0 0) 3 (2000 + i9ξ))) (pc := 46) hx hb hwξ (zd_X12_image (46, .iaload, 1, 0, []) (List.mem_of_getElem? (i := 28) rfl)) zl_T59 rfl (zl_kd (i9ξ)) (zM_P hM9ξ (List.mem_of_getElem? (i := 2) rfl)) (by omega) (show i9ξ < 5580 by omega) (((zM_G hM9ξ (List.mem_of_getElem? (i := 2) rfl) (2000 + i9ξ)).trans (hV9ξ 3 (2000 + i9ξ) (Or.inl (by decide)))).trans (zc_cp_o (by decide))) (fun hk225ξ => ?_)
            refine zp_iastT (j := i9ξ) (pc := 47) hx hb hwξ heffξ (zd_X12_image (47, .iastore, 1, 0, []) (List.mem_of_getElem? (i := 29) rfl)) (T := zl_T2) rfl rfl (zl_kd2 _) (zM_P hM9ξ (List.mem_of_getElem? (i := 3) rfl)) (by omega) (show i9ξ < 11160 by omega) (by omega) (by rw [zl_fj2 (i := i9ξ) (k := 0) (by omega) (by omega)]; exact hk225ξ) (Or.inl (List.mem_singleton.mpr rfl)) rfl ?_
            refine zp_iinc (L' := [(2, 0, ((i9ξ : Int) + 1)), (0, 2, (A 0 : Int)), (1, 0, 0)]) (n := ((i9ξ : Int) + 1)) (pc := 48) hx hb hnLξ (zd_X12_image (48, .iinc 2 1, 3, 0, []) (List.mem_of_getElem? (i := 30) rfl)) (j := 0) rfl (by omega) (zp_r0 (by omega) (by omega)) rfl rfl ?_
            refine zp_goto (tgt := 23) (pc := 51) hx hb (zd_X12_image (51, .goto (-28), 3, 0, []) (List.mem_of_getElem? (i := 31) rfl)) rfl ?_
            refine ih (i9ξ + 1) _ (by omega) (zMV_cg ⟨(zp_set M9ξ 4 (2000 + i9ξ) ((zp_set V 0 0 0) 3 (2000 + i9ξ))), (zM_setE hM9ξ (List.mem_of_getElem? (i := 3) rfl)), (zV_set hV9ξ), (zSb_set (by decide) hSb9ξ)⟩ ?_)
            rw [show (2000 + i9ξ : Nat) = 2000 + (0 + i9ξ) by omega]
            try rw [show ((zp_set V 0 0 0) 3 (2000 + i9ξ)) = (zp_set V 0 0 0) 3 (2000 + (0 + i9ξ)) from congrArg (fun z => (zp_set V 0 0 0) 3 (2000 + z)) (by omega)]
            exact zc_cp_s
      refine zp_drop (L' := [(2, 0, 0), (0, 2, (A 0 : Int)), (1, 0, 0)]) (by simp) ?_
      refine zp_weak (xs := [A 4]) ?_
      exact loop0 5580 0 _ (by omega) (zMV_cg ⟨(zp_set M 0 0 0), (zM_set hMξ (List.mem_of_getElem? (i := 0) rfl) (by decide)), (zV_set hVξ), (zSb_set (by decide) hSbξ)⟩ zc_cp_0.symm)
    · exfalso
      omega
  · by_cases hk1ξ : p1ξ = 1
    · subst hk1ξ
      show zp_J p l e R s m args below meth c Q w u [] 0 [(0, 2, (A 0 : Int)), (1, 0, 1)] [] u.1 (zp_n u.2.1)
      refine zp_load (pc := 0) hx hb (zd_X12_image (0, .aload_n 0, 1, 0, []) (List.mem_of_getElem? (i := 0) rfl)) rfl (j := 0) rfl ?_
      refine zp_const (pc := 1) hx hb (zd_X12_image (1, .iconst 0, 1, 0, []) (List.mem_of_getElem? (i := 1) rfl)) rfl rfl ?_
      refine zp_putf (pc := 2) hx hb hEξ hwξ heffξ (zd_X12_image (2, .putfield 161, 3, 0, []) (List.mem_of_getElem? (i := 2) rfl)) (j := 18) rfl rfl rfl (zM_P hMξ (List.mem_of_getElem? (i := 0) rfl)) (zp_o0 (by decide) (by decide) (by decide) (by decide)) ?_
      refine zp_load (pc := 5) hx hb (zd_X12_image (5, .iload_n 1, 1, 0, []) (List.mem_of_getElem? (i := 3) rfl)) rfl (j := 1) rfl ?_
      refine zp_i2l (pc := 6) hx hb (zd_X12_image (6, .i2l, 1, 0, []) (List.mem_of_getElem? (i := 4) rfl)) ?_
      refine zp_const (pc := 7) hx hb (zd_X12_image (7, .lconst 0, 1, 0, []) (List.mem_of_getElem? (i := 5) rfl)) rfl rfl ?_
      refine zp_const (pc := 8) hx hb (zd_X12_image (8, .lconst 1, 1, 0, []) (List.mem_of_getElem? (i := 6) rfl)) rfl rfl ?_
      refine zp_call (pc := 9) (how := 1) (idx := 181) (mi := 186) (S := []) hx hb hEξ hwξ heffξ hrmξ (zX_in2 hWξ) rfl (j := 2) rfl rfl (by decide +kernel) (zd_X12_image (9, .invokestatic 181, 3, 0, []) (List.mem_of_getElem? (i := 7) rfl)) [1, 0, 1] rfl ⟨zp_o1 (by first | assumption | exact zp_r1 (by omega) (by omega)), zp_o1 (by first | assumption | exact zp_r1 (by omega) (by omega)), zp_o1 (by first | assumption | exact zp_r1 (by omega) (by omega)), trivial⟩ (Nat.le_of_ble_eq_true rfl) trivial (fun al halξ rnn Pn Gn hextnξ hfrnξ hoknξ hcsnξ hpsinξ => ?_)
      obtain rfl := List.mem_singleton.mp halξ
      have hrnξ := zp_int (hoknξ _ rfl).1
      obtain ⟨hPenξ, hGenξ, htnξ⟩ := hpsinξ
      have htnξ : rnn = 1 ↔ (0 : Int) ≤ 1 ∧ (1 : Int) ≤ 1 := htnξ
      rw [hPenξ, hGenξ]
      have hrn9ξ : rnn = 1 := by omega
      subst hrn9ξ
      refine zp_if (pc := 12) (tgt := 21) hx hb (zd_X12_image (12, .ifCond .ne 9, 3, 0, []) (List.mem_of_getElem? (i := 8) rfl)) rfl (fun (hc226ξ : ¬ (1 : Int) = 0) => ?_) (fun (hc226ξ : ¬ (¬ (1 : Int) = 0)) => ?_)
      · refine zp_const (pc := 21) hx hb (zd_X12_image (21, .iconst 0, 1, 0, []) (List.mem_of_getElem? (i := 13) rfl)) rfl rfl ?_
        refine zp_store (L' := [(2, 0, 0), (0, 2, (A 0 : Int)), (1, 0, 1)]) (pc := 22) hx hb hnLξ (zd_X12_image (22, .istore_n 2, 1, 0, []) (List.mem_of_getElem? (i := 14) rfl)) rfl rfl rfl ?_
        have hstloop1ξ : ∀ f : Nat → Int, (∀ j, j < 11160 → f j = (zc_cp (zp_set V 0 0 0) 3 0 4 5580 5580) 4 (2000 + j)) → zk_laws f 0 ∧ zk_laws f 5580 := fun f hfξ => by
          refine ⟨?_, ?_⟩
          · refine zl_cp (f := f1) (b := 0) hlw1ξ.1 (fun j hjξ => ?_) (fun _ _ _ => Or.inr trivial) (fun j hjξ => ⟨u.1, ?_⟩)
            · rw [hfξ (0 + j) (by omega), hf4ξ (0 + j) (by omega)]
              exact (zc_cp_n (by omega)).trans (zp_set_ne (Or.inl (by decide)))
            · rw [hf4ξ (0 + j) (by omega), ← show zk_fj zl_T2 (0 + j) = zk_fj zl_T j from zl_fj2 (k := 0) hjξ (by omega)]
              exact hka4ξ _ (by omega)
          · refine zl_cp (f := f0) (b := 0) hlw0ξ (fun j hjξ => ?_) (fun _ _ _ => Or.inr trivial) (fun j hjξ => ⟨u.1, ?_⟩)
            · rw [hfξ (5580 + j) (by omega), hf3ξ (0 + j) (by omega)]
              refine (zc_cp_e (by omega) (by omega)).trans ((zp_set_ne (Or.inl (by decide))).trans ?_)
              rw [show 0 + (5580 + j - 5580) = 0 + j by omega]
            · rw [Nat.zero_add, hf3ξ j hjξ]
              exact hka3ξ j hjξ
        have loop1 : ∀ (r9ξ i9ξ : Nat) (G : Nat → Nat → Int), r9ξ + i9ξ = 5580 → zMVr A (zc_cp (zp_set V 0 0 0) 3 0 4 5580 i9ξ) u.1 G → zp_J p l e R s m args below meth c Q w u [A 4] 23 [(2, 0, (i9ξ : Int)), (0, 2, (A 0 : Int)), (1, 0, 1)] [] u.1 G := by
          intro r9ξ
          induction r9ξ with
          | zero =>
            intro i9ξ G hrξ hMV9ξ
            obtain rfl : i9ξ = 5580 := by omega
            obtain ⟨M9ξ, hM9ξ, hV9ξ, hSb9ξ⟩ := hMV9ξ
            show zp_J p l e R s m args below meth c Q w u [A 4] 23 [(2, 0, 5580), (0, 2, (A 0 : Int)), (1, 0, 1)] [] u.1 G
            refine zp_strong hwξ (zM_P hM9ξ (List.mem_of_getElem? (i := 3) rfl)) (T := zl_T2) rfl rfl (fun f hfξ => ⟨fun z => absurd z (by decide), fun _ => hstloop1ξ f (fun j hjξ => (hfξ j hjξ).trans ((zM_G hM9ξ (List.mem_of_getElem? (i := 3) rfl) (2000 + j)).trans (hV9ξ 4 (2000 + j) (Or.inl (by decide)))))⟩) ?_
            refine zp_load (pc := 23) hx hb (zd_X12_image (23, .iload_n 2, 1, 0, []) (List.mem_of_getElem? (i := 15) rfl)) rfl (j := 0) rfl ?_
            refine zp_const (pc := 24) hx hb (zd_X12_image (24, .sipush 5580, 3, 0, []) (List.mem_of_getElem? (i := 16) rfl)) rfl rfl ?_
            refine zp_icmp (pc := 27) (tgt := 54) hx hb (zd_X12_image (27, .if_icmp .ge 27, 3, 0, []) (List.mem_of_getElem? (i := 17) rfl)) rfl (fun (hc227ξ : 5580 ≤ (5580 : Int)) => ?_) (fun (hc227ξ : ¬ (5580 ≤ (5580 : Int))) => ?_)
            · refine zp_load (pc := 54) hx hb (zd_X12_image (54, .aload_n 0, 1, 0, []) (List.mem_of_getElem? (i := 32) rfl)) rfl (j := 1) rfl ?_
              refine zp_getf (n := (A 5 : Int)) (pc := 55) hx hb hEξ hwξ (zd_X12_image (55, .getfield 19, 3, 0, []) (List.mem_of_getElem? (i := 33) rfl)) (j := 23) rfl rfl rfl (zM_P hM9ξ (List.mem_of_getElem? (i := 0) rfl)) ((zM_G hM9ξ (List.mem_of_getElem? (i := 0) rfl) 5).trans (zM_F hM9ξ (List.mem_of_getElem? (i := 3) rfl))) ?_
              refine zp_load (pc := 58) hx hb (zd_X12_image (58, .iload_n 1, 1, 0, []) (List.mem_of_getElem? (i := 34) rfl)) rfl (j := 2) rfl ?_
              refine zp_const (pc := 59) hx hb (zd_X12_image (59, .iconst 1, 1, 0, []) (List.mem_of_getElem? (i := 35) rfl)) rfl rfl ?_
              refine zp_zast (j := 1) (pc := 60) hx hb hwξ heffξ (zd_X12_image (60, .bastore, 1, 0, []) (List.mem_of_getElem? (i := 36) rfl)) (show zp_ia 4 61 = some (2, 0, 0, 0, 1) from rfl) (zM_P hM9ξ (List.mem_of_getElem? (i := 4) rfl)) (by omega) (by omega) (zp_o0 (by decide) (by decide) (by decide) (by decide)) (Or.inr rfl) rfl ?_
              refine zp_load (pc := 61) hx hb (zd_X12_image (61, .aload_n 0, 1, 0, []) (List.mem_of_getElem? (i := 37) rfl)) rfl (j := 1) rfl ?_
              refine zp_const (pc := 62) hx hb (zd_X12_image (62, .iconst 0, 1, 0, []) (List.mem_of_getElem? (i := 38) rfl)) rfl rfl ?_
              refine zp_call (pc := 63) (how := 0) (idx := 170) (mi := 183) (S := []) hx hb hEξ hwξ heffξ hrmξ (zX_tll hWξ A (zp_set (zc_cp (zp_set V 0 0 0) 3 0 4 5580 5580) 5 (2000 + 1) 1)) rfl (j := 0) rfl rfl (by decide +kernel) (zd_X12_image (63, .invokevirtual 170, 3, 0, []) (List.mem_of_getElem? (i := 39) rfl)) [(A 0 : Int), 0] rfl ⟨zp_o2 (zM_P hM9ξ (List.mem_of_getElem? (i := 0) rfl)), zp_o0 (by omega) (by omega) (by omega) (by omega), trivial⟩ (Nat.le_of_ble_eq_true rfl) ⟨⟨(zp_set M9ξ 5 (2000 + 1) 1), (zM_setE hM9ξ (List.mem_of_getElem? (i := 4) rfl)), (zV_set hV9ξ), (zSb_set (by decide) hSb9ξ)⟩, rfl, (show -6 ≤ 0 by omega)⟩ (fun al halξ rnt228ξ Pt228 Gt228 hextt228ξ hfrt228ξ hokt228ξ hcst228ξ hpsit228ξ => ?_)
              obtain rfl := List.mem_singleton.mp halξ
              have hrt228ξ := zp_int (hokt228ξ _ rfl).1
              obtain ⟨hPet228ξ, ⟨Mt228, hMt228ξ, hVt228ξ, hSbt228ξ⟩, htt228ξ⟩ := hpsit228ξ
              subst hPet228ξ
              clear hextt228ξ hfrt228ξ hcst228ξ hokt228ξ
              have hVt228ξ : ∀ o k, zNs o k → Mt228 o k = (zT_tell (zp_set (zc_cp (zp_set V 0 0 0) 3 0 4 5580 5580) 5 (2000 + 1) 1) 0) o k := hVt228ξ
              have htt228ξ : rnt228ξ = 0 := htt228ξ
              have htt228ξ := (Eq.symm htt228ξ)
              subst htt228ξ
              refine zp_iret (pc := 66) (n := 0) hx hb hEξ hQξ hU5ξ rfl (by decide) (zd_X12_image (66, .ireturn, 1, 0, []) (List.mem_of_getElem? (i := 40) rfl)) (j := 0) rfl (zp_o0 (by omega) (by omega) (by omega) (by omega)) ?_
              rw [hpsξ]
              refine ⟨rfl, ?_⟩
              have hffξ : zf_imr V 1 = (0, zT_tell (zp_set (zc_cp (zp_set V 0 0 0) 3 0 4 (5580 * 1) 5580) 5 (2000 + 1) 1) 0) := if_pos (by decide)
              show zMVr A (zf_imr V 1).2 u.1 _ ∧ _ = (zf_imr V 1).1
              rw [hffξ]
              exact ⟨⟨Mt228, hMt228ξ, hVt228ξ, hSbt228ξ⟩, rfl⟩
            · exfalso
              omega
          | succ r9ξ ih =>
            intro i9ξ G hrξ hMV9ξ
            obtain ⟨M9ξ, hM9ξ, hV9ξ, hSb9ξ⟩ := hMV9ξ
            refine zp_load (pc := 23) hx hb (zd_X12_image (23, .iload_n 2, 1, 0, []) (List.mem_of_getElem? (i := 15) rfl)) rfl (j := 0) rfl ?_
            refine zp_const (pc := 24) hx hb (zd_X12_image (24, .sipush 5580, 3, 0, []) (List.mem_of_getElem? (i := 16) rfl)) rfl rfl ?_
            refine zp_icmp (pc := 27) (tgt := 54) hx hb (zd_X12_image (27, .if_icmp .ge 27, 3, 0, []) (List.mem_of_getElem? (i := 17) rfl)) rfl (fun (hc229ξ : 5580 ≤ (i9ξ : Int)) => ?_) (fun (hc229ξ : ¬ (5580 ≤ (i9ξ : Int))) => ?_)
            · exfalso
              omega
            · refine zp_load (pc := 30) hx hb (zd_X12_image (30, .aload_n 0, 1, 0, []) (List.mem_of_getElem? (i := 18) rfl)) rfl (j := 1) rfl ?_
              refine zp_getf (n := (A 4 : Int)) (pc := 31) hx hb hEξ hwξ (zd_X12_image (31, .getfield 16, 3, 0, []) (List.mem_of_getElem? (i := 19) rfl)) (j := 22) rfl rfl rfl (zM_P hM9ξ (List.mem_of_getElem? (i := 0) rfl)) ((zM_G hM9ξ (List.mem_of_getElem? (i := 0) rfl) 4).trans (zM_F hM9ξ (List.mem_of_getElem? (i := 2) rfl))) ?_
              refine zp_const (pc := 34) hx hb (zd_X12_image (34, .sipush 5580, 3, 0, []) (List.mem_of_getElem? (i := 20) rfl)) rfl rfl ?_
              refine zp_load (pc := 37) hx hb (zd_X12_image (37, .iload_n 1, 1, 0, []) (List.mem_of_getElem? (i := 21) rfl)) rfl (j := 2) rfl ?_
              refine zp_mul (n := 5580) (pc := 38) hx hb (zd_X12_image (38, .imul, 1, 0, []) (List.mem_of_getElem? (i := 22) rfl)) (by omega) (zp_r0 (by omega) (by omega)) ?_
              refine zp_load (pc := 39) hx hb (zd_X12_image (39, .iload_n 2, 1, 0, []) (List.mem_of_getElem? (i := 23) rfl)) rfl (j := 0) rfl ?_
              refine zp_add (n := ((i9ξ : Int) + 5580)) (pc := 40) hx hb (zd_X12_image (40, .iadd, 1, 0, []) (List.mem_of_getElem? (i := 24) rfl)) (by omega) (zp_r0 (by omega) (by omega)) ?_
              refine zp_load (pc := 41) hx hb (zd_X12_image (41, .aload_n 0, 1, 0, []) (List.mem_of_getElem? (i := 25) rfl)) rfl (j := 1) rfl ?_
              refine zp_getf (n := (A 3 : Int)) (pc := 42) hx hb hEξ hwξ (zd_X12_image (42, .getfield 13, 3, 0, []) (List.mem_of_getElem? (i := 26) rfl)) (j := 21) rfl rfl rfl (zM_P hM9ξ (List.mem_of_getElem? (i := 0) rfl)) ((zM_G hM9ξ (List.mem_of_getElem? (i := 0) rfl) 3).trans (zM_F hM9ξ (List.mem_of_getElem? (i := 1) rfl))) ?_
              refine zp_load (pc := 45) hx hb (zd_X12_image (45, .iload_n 2, 1, 0, []) (List.mem_of_getElem? (i := 27) rfl)) rfl (j := 0) rfl ?_
              refine zp_ialdT (j := i9ξ) (v := ((zp_set V 0 0 0) 3 (2000 + i9ξ))) (pc := 46) hx hb hwξ (zd_X12_image (46, .iaload, 1, 0, []) (List.mem_of_getElem? (i := 28) rfl)) zl_T59 rfl (zl_kd (i9ξ)) (zM_P hM9ξ (List.mem_of_getElem? (i := 2) rfl)) (by omega) (show i9ξ < 5580 by omega) (((zM_G hM9ξ (List.mem_of_getElem? (i := 2) rfl) (2000 + i9ξ)).trans (hV9ξ 3 (2000 + i9ξ) (Or.inl (by decide)))).trans (zc_cp_o (by decide))) (fun hk230ξ => ?_)
              refine zp_iastT (j := (i9ξ + 5580)) (pc := 47) hx hb hwξ heffξ (zd_X12_image (47, .iastore, 1, 0, []) (List.mem_of_getElem? (i := 29) rfl)) (T := zl_T2) rfl rfl (zl_kd2 _) (zM_P hM9ξ (List.mem_of_getElem? (i := 3) rfl)) (by omega) (show (i9ξ + 5580) < 11160 by omega) (by omega) (by rw [zl_fj2 (i := i9ξ) (k := 1) (by omega) (by omega)]; exact hk230ξ) (Or.inl (List.mem_singleton.mpr rfl)) rfl ?_
              refine zp_iinc (L' := [(2, 0, ((i9ξ : Int) + 1)), (0, 2, (A 0 : Int)), (1, 0, 1)]) (n := ((i9ξ : Int) + 1)) (pc := 48) hx hb hnLξ (zd_X12_image (48, .iinc 2 1, 3, 0, []) (List.mem_of_getElem? (i := 30) rfl)) (j := 0) rfl (by omega) (zp_r0 (by omega) (by omega)) rfl rfl ?_
              refine zp_goto (tgt := 23) (pc := 51) hx hb (zd_X12_image (51, .goto (-28), 3, 0, []) (List.mem_of_getElem? (i := 31) rfl)) rfl ?_
              refine ih (i9ξ + 1) _ (by omega) (zMV_cg ⟨(zp_set M9ξ 4 (2000 + (i9ξ + 5580)) ((zp_set V 0 0 0) 3 (2000 + i9ξ))), (zM_setE hM9ξ (List.mem_of_getElem? (i := 3) rfl)), (zV_set hV9ξ), (zSb_set (by decide) hSb9ξ)⟩ ?_)
              rw [show (2000 + (i9ξ + 5580) : Nat) = 2000 + (5580 + i9ξ) by omega]
              try rw [show ((zp_set V 0 0 0) 3 (2000 + i9ξ)) = (zp_set V 0 0 0) 3 (2000 + (0 + i9ξ)) from congrArg (fun z => (zp_set V 0 0 0) 3 (2000 + z)) (by omega)]
              exact zc_cp_s
        refine zp_drop (L' := [(2, 0, 0), (0, 2, (A 0 : Int)), (1, 0, 1)]) (by simp) ?_
        refine zp_weak (xs := [A 4]) ?_
        exact loop1 5580 0 _ (by omega) (zMV_cg ⟨(zp_set M 0 0 0), (zM_set hMξ (List.mem_of_getElem? (i := 0) rfl) (by decide)), (zV_set hVξ), (zSb_set (by decide) hSbξ)⟩ zc_cp_0.symm)
      · exfalso
        omega
    · refine zp_load (pc := 0) hx hb (zd_X12_image (0, .aload_n 0, 1, 0, []) (List.mem_of_getElem? (i := 0) rfl)) rfl (j := 0) rfl ?_
      refine zp_const (pc := 1) hx hb (zd_X12_image (1, .iconst 0, 1, 0, []) (List.mem_of_getElem? (i := 1) rfl)) rfl rfl ?_
      refine zp_putf (pc := 2) hx hb hEξ hwξ heffξ (zd_X12_image (2, .putfield 161, 3, 0, []) (List.mem_of_getElem? (i := 2) rfl)) (j := 18) rfl rfl rfl (zM_P hMξ (List.mem_of_getElem? (i := 0) rfl)) (zp_o0 (by decide) (by decide) (by decide) (by decide)) ?_
      refine zp_load (pc := 5) hx hb (zd_X12_image (5, .iload_n 1, 1, 0, []) (List.mem_of_getElem? (i := 3) rfl)) rfl (j := 1) rfl ?_
      refine zp_i2l (pc := 6) hx hb (zd_X12_image (6, .i2l, 1, 0, []) (List.mem_of_getElem? (i := 4) rfl)) ?_
      refine zp_const (pc := 7) hx hb (zd_X12_image (7, .lconst 0, 1, 0, []) (List.mem_of_getElem? (i := 5) rfl)) rfl rfl ?_
      refine zp_const (pc := 8) hx hb (zd_X12_image (8, .lconst 1, 1, 0, []) (List.mem_of_getElem? (i := 6) rfl)) rfl rfl ?_
      refine zp_call (pc := 9) (how := 1) (idx := 181) (mi := 186) (S := []) hx hb hEξ hwξ heffξ hrmξ (zX_in2 hWξ) rfl (j := 2) rfl rfl (by decide +kernel) (zd_X12_image (9, .invokestatic 181, 3, 0, []) (List.mem_of_getElem? (i := 7) rfl)) [p1ξ, 0, 1] rfl ⟨zp_o1 (by first | assumption | exact zp_r1 (by omega) (by omega)), zp_o1 (by first | assumption | exact zp_r1 (by omega) (by omega)), zp_o1 (by first | assumption | exact zp_r1 (by omega) (by omega)), trivial⟩ (Nat.le_of_ble_eq_true rfl) trivial (fun al halξ rnn Pn Gn hextnξ hfrnξ hoknξ hcsnξ hpsinξ => ?_)
      obtain rfl := List.mem_singleton.mp halξ
      have hrnξ := zp_int (hoknξ _ rfl).1
      obtain ⟨hPenξ, hGenξ, htnξ⟩ := hpsinξ
      have htnξ : rnn = 1 ↔ (0 : Int) ≤ p1ξ ∧ (p1ξ : Int) ≤ 1 := htnξ
      rw [hPenξ, hGenξ]
      have hrn9ξ : rnn = 0 := by omega
      subst hrn9ξ
      refine zp_if (pc := 12) (tgt := 21) hx hb (zd_X12_image (12, .ifCond .ne 9, 3, 0, []) (List.mem_of_getElem? (i := 8) rfl)) rfl (fun (hc231ξ : ¬ (0 : Int) = 0) => ?_) (fun (hc231ξ : ¬ (¬ (0 : Int) = 0)) => ?_)
      · exfalso
        omega
      · refine zp_load (pc := 15) hx hb (zd_X12_image (15, .aload_n 0, 1, 0, []) (List.mem_of_getElem? (i := 9) rfl)) rfl (j := 0) rfl ?_
        refine zp_const (pc := 16) hx hb (zd_X12_image (16, .iconst (-1), 1, 0, []) (List.mem_of_getElem? (i := 10) rfl)) rfl rfl ?_
        refine zp_call (pc := 17) (how := 0) (idx := 170) (mi := 183) (S := []) hx hb hEξ hwξ heffξ hrmξ (zX_tll hWξ A (zp_set V 0 0 0)) rfl (j := 0) rfl rfl (by decide +kernel) (zd_X12_image (17, .invokevirtual 170, 3, 0, []) (List.mem_of_getElem? (i := 11) rfl)) [(A 0 : Int), (-1)] rfl ⟨zp_o2 (zM_P hMξ (List.mem_of_getElem? (i := 0) rfl)), zp_o0 (by omega) (by omega) (by omega) (by omega), trivial⟩ (Nat.le_of_ble_eq_true rfl) ⟨⟨(zp_set M 0 0 0), (zM_set hMξ (List.mem_of_getElem? (i := 0) rfl) (by decide)), (zV_set hVξ), (zSb_set (by decide) hSbξ)⟩, rfl, (show -6 ≤ (-1) by omega)⟩ (fun al halξ rnt232ξ Pt232 Gt232 hextt232ξ hfrt232ξ hokt232ξ hcst232ξ hpsit232ξ => ?_)
        obtain rfl := List.mem_singleton.mp halξ
        have hrt232ξ := zp_int (hokt232ξ _ rfl).1
        obtain ⟨hPet232ξ, ⟨Mt232, hMt232ξ, hVt232ξ, hSbt232ξ⟩, htt232ξ⟩ := hpsit232ξ
        subst hPet232ξ
        clear hextt232ξ hfrt232ξ hcst232ξ hokt232ξ
        have hVt232ξ : ∀ o k, zNs o k → Mt232 o k = (zT_tell (zp_set V 0 0 0) (-1)) o k := hVt232ξ
        have htt232ξ : rnt232ξ = (-1) := htt232ξ
        have htt232ξ := (Eq.symm htt232ξ)
        subst htt232ξ
        refine zp_iret (pc := 20) (n := (-1)) hx hb hEξ hQξ hU5ξ rfl (by decide) (zd_X12_image (20, .ireturn, 1, 0, []) (List.mem_of_getElem? (i := 12) rfl)) (j := 0) rfl (zp_o0 (by omega) (by omega) (by omega) (by omega)) ?_
        rw [hpsξ]
        refine ⟨rfl, ?_⟩
        have hffξ : zf_imr V p1ξ = (-1, zT_tell (zp_set V 0 0 0) (-1)) := if_neg (by omega)
        show zMVr A (zf_imr V p1ξ).2 u.1 _ ∧ _ = (zf_imr V p1ξ).1
        rw [hffξ]
        exact ⟨⟨Mt232, hMt232ξ, hVt232ξ, hSbt232ξ⟩, rfl⟩
noncomputable def zK_bkr : zk_K := (zt_mn 187, prog_14_method_15_code, 3, (Option.some Jvm.ClassFile.FieldType.int), 1, 12, [(2, 13, 0, 0), (0, 0, (-2147483648), 2147483647)], [(some (0, 0, (-2147483648), 2147483647), [])], zUEi, (2, 120, 0, 0))
noncomputable def zφ_bkr (A : Nat → Nat) (V : Nat → Nat → Int) : (Nat → Option Nat) → (Nat → Nat → Int) → List Int → Prop := fun P G ps => zMVr A V P G ∧ ps.getD 0 0 = (A 0 : Int) ∧ True
noncomputable def zψ_bkr (A : Nat → Nat) (V : Nat → Nat → Int) : (Nat → Option Nat) → (Nat → Nat → Int) → List Int → (Nat → Option Nat) → (Nat → Nat → Int) → Int → Prop := fun P G ps P' G' rn => P' = P ∧ zMVr A (zf_bkr V (ps.getD 1 0)).2 P' G' ∧ rn = (zf_bkr V (ps.getD 1 0)).1
set_option maxRecDepth 40000 in
theorem zX_bkr {l : Launch} {w : zk_W} (hWξ : zh_W w) (A : Nat → Nat) (V : Nat → Nat → Int) : zk_metX l w zt_dv zt_TB zK_bkr (zp_A (zφ_bkr A V)) (zp_B (zψ_bkr A V)) ∧ zk_cok w zt_TB zK_bkr := by
  refine zp_methX (cn := "WoundTownModel") zp_lkall hWξ (pl := 1576) rfl (by decide +kernel) (fun p e R s m args below meth c Q u hx hb hEξ hQξ hU5ξ heffξ hnLξ hokξ hφ => ?_)
  have hwξ := hWξ.1
  obtain ⟨p0ξ, p1ξ, hpsξ, tk0, tk1⟩ := zp_ps2 hokξ
  have hrmξ : zk_Kr (zk_ev (zt_types, zp_lk, zt_dv, [], [], zp_lc, zK_bkr)) = zk_Kr zK_bkr := rfl
  rw [hpsξ] at hφ ⊢
  have hφ : zMVr A V u.1 (zp_n u.2.1) ∧ p0ξ = (A 0 : Int) ∧ True := hφ
  obtain ⟨⟨M, hMξ, hVξ, hSbξ⟩, rfl, -⟩ := hφ
  have hi1ξ := zp_int tk1
  show zp_J p l e R s m args below meth c Q w u [] 0 [(0, 2, (A 0 : Int)), (1, 0, p1ξ)] [] u.1 (zp_n u.2.1)
  have hG3ξ : ∀ j, zp_n u.2.1 (A 3) (2000 + j) = V 3 (2000 + j) := fun j => (zM_G hMξ (List.mem_of_getElem? (i := 2) rfl) (2000 + j)).trans (hVξ 3 (2000 + j) (Or.inl (by decide)))
  refine zp_kx hwξ (zM_P hMξ (List.mem_of_getElem? (i := 2) rfl)) zl_T59 rfl (fun hkx3ξ => ?_)
  obtain ⟨f0, hf3ξ, hxi3ξ⟩ := hkx3ξ
  have hf3ξ : ∀ j, j < 5580 → f0 j = V 3 (2000 + j) := fun j hjξ => (hf3ξ j hjξ).trans (hG3ξ j)
  refine zp_kaT hwξ (zM_P hMξ (List.mem_of_getElem? (i := 2) rfl)) zl_T59 rfl zl_kd (fun hka3ξ => ?_)
  have hka3ξ : ∀ j, j < 5580 → zk_ok u.1 (zk_fj zl_T j) (V 3 (2000 + j)) := fun j hjξ => by
    rw [← hG3ξ j]
    exact hka3ξ j hjξ
  have hG4ξ : ∀ j, zp_n u.2.1 (A 4) (2000 + j) = V 4 (2000 + j) := fun j => (zM_G hMξ (List.mem_of_getElem? (i := 3) rfl) (2000 + j)).trans (hVξ 4 (2000 + j) (Or.inl (by decide)))
  refine zp_kx hwξ (zM_P hMξ (List.mem_of_getElem? (i := 3) rfl)) (T := zl_T2) rfl rfl (fun hkx4ξ => ?_)
  obtain ⟨f1, hf4ξ, hxi4ξ⟩ := hkx4ξ
  have hf4ξ : ∀ j, j < 11160 → f1 j = V 4 (2000 + j) := fun j hjξ => (hf4ξ j hjξ).trans (hG4ξ j)
  refine zp_kaT hwξ (zM_P hMξ (List.mem_of_getElem? (i := 3) rfl)) (T := zl_T2) rfl rfl zl_kd2 (fun hka4ξ => ?_)
  have hka4ξ : ∀ j, j < 11160 → zk_ok u.1 (zk_fj zl_T2 j) (V 4 (2000 + j)) := fun j hjξ => by
    rw [← hG4ξ j]
    exact hka4ξ j hjξ
  have hlw0ξ : zk_laws f0 0 := hxi3ξ.1 rfl
  have hlw1ξ : zk_laws f1 0 ∧ zk_laws f1 5580 := hxi4ξ.2 rfl
  by_cases hk0ξ : p1ξ = 0
  · subst hk0ξ
    show zp_J p l e R s m args below meth c Q w u [] 0 [(0, 2, (A 0 : Int)), (1, 0, 0)] [] u.1 (zp_n u.2.1)
    by_cases hz9ξ : V 5 (2000 + 0) = 0
    · refine zp_load (pc := 0) hx hb (zd_X12_back (0, .aload_n 0, 1, 0, []) (List.mem_of_getElem? (i := 0) rfl)) rfl (j := 0) rfl ?_
      refine zp_const (pc := 1) hx hb (zd_X12_back (1, .iconst 0, 1, 0, []) (List.mem_of_getElem? (i := 1) rfl)) rfl rfl ?_
      refine zp_putf (pc := 2) hx hb hEξ hwξ heffξ (zd_X12_back (2, .putfield 161, 3, 0, []) (List.mem_of_getElem? (i := 2) rfl)) (j := 18) rfl rfl rfl (zM_P hMξ (List.mem_of_getElem? (i := 0) rfl)) (zp_o0 (by decide) (by decide) (by decide) (by decide)) ?_
      refine zp_load (pc := 5) hx hb (zd_X12_back (5, .iload_n 1, 1, 0, []) (List.mem_of_getElem? (i := 3) rfl)) rfl (j := 1) rfl ?_
      refine zp_i2l (pc := 6) hx hb (zd_X12_back (6, .i2l, 1, 0, []) (List.mem_of_getElem? (i := 4) rfl)) ?_
      refine zp_const (pc := 7) hx hb (zd_X12_back (7, .lconst 0, 1, 0, []) (List.mem_of_getElem? (i := 5) rfl)) rfl rfl ?_
      refine zp_const (pc := 8) hx hb (zd_X12_back (8, .lconst 1, 1, 0, []) (List.mem_of_getElem? (i := 6) rfl)) rfl rfl ?_
      refine zp_call (pc := 9) (how := 1) (idx := 181) (mi := 186) (S := []) hx hb hEξ hwξ heffξ hrmξ (zX_in2 hWξ) rfl (j := 2) rfl rfl (by decide +kernel) (zd_X12_back (9, .invokestatic 181, 3, 0, []) (List.mem_of_getElem? (i := 7) rfl)) [0, 0, 1] rfl ⟨zp_o1 (by first | assumption | exact zp_r1 (by omega) (by omega)), zp_o1 (by first | assumption | exact zp_r1 (by omega) (by omega)), zp_o1 (by first | assumption | exact zp_r1 (by omega) (by omega)), trivial⟩ (Nat.le_of_ble_eq_true rfl) trivial (fun al halξ rnn Pn Gn hextnξ hfrnξ hoknξ hcsnξ hpsinξ => ?_)
      obtain rfl := List.mem_singleton.mp halξ
      have hrnξ := zp_int (hoknξ _ rfl).1
      obtain ⟨hPenξ, hGenξ, htnξ⟩ := hpsinξ
      have htnξ : rnn = 1 ↔ (0 : Int) ≤ 0 ∧ (0 : Int) ≤ 1 := htnξ
      rw [hPenξ, hGenξ]
      have hrn9ξ : rnn = 1 := by omega
      subst hrn9ξ
      refine zp_if (pc := 12) (tgt := 21) hx hb (zd_X12_back (12, .ifCond .ne 9, 3, 0, []) (List.mem_of_getElem? (i := 8) rfl)) rfl (fun (hc233ξ : ¬ (1 : Int) = 0) => ?_) (fun (hc233ξ : ¬ (¬ (1 : Int) = 0)) => ?_)
      · refine zp_load (pc := 21) hx hb (zd_X12_back (21, .aload_n 0, 1, 0, []) (List.mem_of_getElem? (i := 13) rfl)) rfl (j := 0) rfl ?_
        refine zp_getf (n := (A 5 : Int)) (pc := 22) hx hb hEξ hwξ (zd_X12_back (22, .getfield 19, 3, 0, []) (List.mem_of_getElem? (i := 14) rfl)) (j := 23) rfl rfl rfl (zM_P hMξ (List.mem_of_getElem? (i := 0) rfl)) ((zp_set_ne (Or.inr (by decide))).trans (((zM_G hMξ (List.mem_of_getElem? (i := 0) rfl) 5).trans (zM_F hMξ (List.mem_of_getElem? (i := 3) rfl))))) ?_
        refine zp_load (pc := 25) hx hb (zd_X12_back (25, .iload_n 1, 1, 0, []) (List.mem_of_getElem? (i := 15) rfl)) rfl (j := 1) rfl ?_
        refine zp_zald (j := 0) (v := 0) (pc := 26) hx hb hwξ (zd_X12_back (26, .baload, 1, 0, []) (List.mem_of_getElem? (i := 16) rfl)) (show zp_ia 4 61 = some (2, 0, 0, 0, 1) from rfl) (zM_P hMξ (List.mem_of_getElem? (i := 4) rfl)) (by omega) (by omega) ((zp_set_ne (Or.inl (zM_ne hMξ (List.mem_of_getElem? (i := 4) rfl) (List.mem_of_getElem? (i := 0) rfl) (by decide)))).trans ((((zM_G hMξ (List.mem_of_getElem? (i := 4) rfl) (2000 + 0)).trans (hVξ 5 (2000 + 0) (Or.inl (by decide)))).trans hz9ξ))) (fun hk234ξ => ?_)
        have hk234bξ := zp_int hk234ξ
        clear hk234ξ
        refine zp_if (pc := 27) (tgt := 37) hx hb (zd_X12_back (27, .ifCond .ne 10, 3, 0, []) (List.mem_of_getElem? (i := 17) rfl)) rfl (fun (hc235ξ : ¬ (0 : Int) = 0) => ?_) (fun (hc235ξ : ¬ (¬ (0 : Int) = 0)) => ?_)
        · exfalso
          omega
        · refine zp_load (pc := 30) hx hb (zd_X12_back (30, .aload_n 0, 1, 0, []) (List.mem_of_getElem? (i := 18) rfl)) rfl (j := 0) rfl ?_
          refine zp_const (pc := 31) hx hb (zd_X12_back (31, .bipush (-2), 2, 0, []) (List.mem_of_getElem? (i := 19) rfl)) rfl rfl ?_
          refine zp_call (pc := 33) (how := 0) (idx := 170) (mi := 183) (S := []) hx hb hEξ hwξ heffξ hrmξ (zX_tll hWξ A (zp_set V 0 0 0)) rfl (j := 0) rfl rfl (by decide +kernel) (zd_X12_back (33, .invokevirtual 170, 3, 0, []) (List.mem_of_getElem? (i := 20) rfl)) [(A 0 : Int), (-2)] rfl ⟨zp_o2 (zM_P hMξ (List.mem_of_getElem? (i := 0) rfl)), zp_o0 (by omega) (by omega) (by omega) (by omega), trivial⟩ (Nat.le_of_ble_eq_true rfl) ⟨⟨(zp_set M 0 0 0), (zM_set hMξ (List.mem_of_getElem? (i := 0) rfl) (by decide)), (zV_set hVξ), (zSb_set (by decide) hSbξ)⟩, rfl, (show -6 ≤ (-2) by omega)⟩ (fun al halξ rnt236ξ Pt236 Gt236 hextt236ξ hfrt236ξ hokt236ξ hcst236ξ hpsit236ξ => ?_)
          obtain rfl := List.mem_singleton.mp halξ
          have hrt236ξ := zp_int (hokt236ξ _ rfl).1
          obtain ⟨hPet236ξ, ⟨Mt236, hMt236ξ, hVt236ξ, hSbt236ξ⟩, htt236ξ⟩ := hpsit236ξ
          subst hPet236ξ
          clear hextt236ξ hfrt236ξ hcst236ξ hokt236ξ
          have hVt236ξ : ∀ o k, zNs o k → Mt236 o k = (zT_tell (zp_set V 0 0 0) (-2)) o k := hVt236ξ
          have htt236ξ : rnt236ξ = (-2) := htt236ξ
          have htt236ξ := (Eq.symm htt236ξ)
          subst htt236ξ
          refine zp_iret (pc := 36) (n := (-2)) hx hb hEξ hQξ hU5ξ rfl (by decide) (zd_X12_back (36, .ireturn, 1, 0, []) (List.mem_of_getElem? (i := 21) rfl)) (j := 0) rfl (zp_o0 (by omega) (by omega) (by omega) (by omega)) ?_
          rw [hpsξ]
          refine ⟨rfl, ?_⟩
          have hffξ : zf_bkr V 0 = (-2, zT_tell (zp_set V 0 0 0) (-2)) := by
            unfold zf_bkr
            rw [if_pos (by decide)]
            exact if_pos hz9ξ
          show zMVr A (zf_bkr V 0).2 u.1 _ ∧ _ = (zf_bkr V 0).1
          rw [hffξ]
          exact ⟨⟨Mt236, hMt236ξ, hVt236ξ, hSbt236ξ⟩, rfl⟩
      · exfalso
        omega
    · refine zp_load (pc := 0) hx hb (zd_X12_back (0, .aload_n 0, 1, 0, []) (List.mem_of_getElem? (i := 0) rfl)) rfl (j := 0) rfl ?_
      refine zp_const (pc := 1) hx hb (zd_X12_back (1, .iconst 0, 1, 0, []) (List.mem_of_getElem? (i := 1) rfl)) rfl rfl ?_
      refine zp_putf (pc := 2) hx hb hEξ hwξ heffξ (zd_X12_back (2, .putfield 161, 3, 0, []) (List.mem_of_getElem? (i := 2) rfl)) (j := 18) rfl rfl rfl (zM_P hMξ (List.mem_of_getElem? (i := 0) rfl)) (zp_o0 (by decide) (by decide) (by decide) (by decide)) ?_
      refine zp_load (pc := 5) hx hb (zd_X12_back (5, .iload_n 1, 1, 0, []) (List.mem_of_getElem? (i := 3) rfl)) rfl (j := 1) rfl ?_
      refine zp_i2l (pc := 6) hx hb (zd_X12_back (6, .i2l, 1, 0, []) (List.mem_of_getElem? (i := 4) rfl)) ?_
      refine zp_const (pc := 7) hx hb (zd_X12_back (7, .lconst 0, 1, 0, []) (List.mem_of_getElem? (i := 5) rfl)) rfl rfl ?_
      refine zp_const (pc := 8) hx hb (zd_X12_back (8, .lconst 1, 1, 0, []) (List.mem_of_getElem? (i := 6) rfl)) rfl rfl ?_
      refine zp_call (pc := 9) (how := 1) (idx := 181) (mi := 186) (S := []) hx hb hEξ hwξ heffξ hrmξ (zX_in2 hWξ) rfl (j := 2) rfl rfl (by decide +kernel) (zd_X12_back (9, .invokestatic 181, 3, 0, []) (List.mem_of_getElem? (i := 7) rfl)) [0, 0, 1] rfl ⟨zp_o1 (by first | assumption | exact zp_r1 (by omega) (by omega)), zp_o1 (by first | assumption | exact zp_r1 (by omega) (by omega)), zp_o1 (by first | assumption | exact zp_r1 (by omega) (by omega)), trivial⟩ (Nat.le_of_ble_eq_true rfl) trivial (fun al halξ rnn Pn Gn hextnξ hfrnξ hoknξ hcsnξ hpsinξ => ?_)
      obtain rfl := List.mem_singleton.mp halξ
      have hrnξ := zp_int (hoknξ _ rfl).1
      obtain ⟨hPenξ, hGenξ, htnξ⟩ := hpsinξ
      have htnξ : rnn = 1 ↔ (0 : Int) ≤ 0 ∧ (0 : Int) ≤ 1 := htnξ
      rw [hPenξ, hGenξ]
      have hrn9ξ : rnn = 1 := by omega
      subst hrn9ξ
      refine zp_if (pc := 12) (tgt := 21) hx hb (zd_X12_back (12, .ifCond .ne 9, 3, 0, []) (List.mem_of_getElem? (i := 8) rfl)) rfl (fun (hc237ξ : ¬ (1 : Int) = 0) => ?_) (fun (hc237ξ : ¬ (¬ (1 : Int) = 0)) => ?_)
      · refine zp_load (pc := 21) hx hb (zd_X12_back (21, .aload_n 0, 1, 0, []) (List.mem_of_getElem? (i := 13) rfl)) rfl (j := 0) rfl ?_
        refine zp_getf (n := (A 5 : Int)) (pc := 22) hx hb hEξ hwξ (zd_X12_back (22, .getfield 19, 3, 0, []) (List.mem_of_getElem? (i := 14) rfl)) (j := 23) rfl rfl rfl (zM_P hMξ (List.mem_of_getElem? (i := 0) rfl)) ((zp_set_ne (Or.inr (by decide))).trans (((zM_G hMξ (List.mem_of_getElem? (i := 0) rfl) 5).trans (zM_F hMξ (List.mem_of_getElem? (i := 3) rfl))))) ?_
        refine zp_load (pc := 25) hx hb (zd_X12_back (25, .iload_n 1, 1, 0, []) (List.mem_of_getElem? (i := 15) rfl)) rfl (j := 1) rfl ?_
        refine zp_zald (j := 0) (v := (V 5 (2000 + 0))) (pc := 26) hx hb hwξ (zd_X12_back (26, .baload, 1, 0, []) (List.mem_of_getElem? (i := 16) rfl)) (show zp_ia 4 61 = some (2, 0, 0, 0, 1) from rfl) (zM_P hMξ (List.mem_of_getElem? (i := 4) rfl)) (by omega) (by omega) ((zp_set_ne (Or.inl (zM_ne hMξ (List.mem_of_getElem? (i := 4) rfl) (List.mem_of_getElem? (i := 0) rfl) (by decide)))).trans (((zM_G hMξ (List.mem_of_getElem? (i := 4) rfl) (2000 + 0)).trans (hVξ 5 (2000 + 0) (Or.inl (by decide)))))) (fun hk238ξ => ?_)
        have hk238bξ := zp_int hk238ξ
        clear hk238ξ
        refine zp_if (pc := 27) (tgt := 37) hx hb (zd_X12_back (27, .ifCond .ne 10, 3, 0, []) (List.mem_of_getElem? (i := 17) rfl)) rfl (fun (hc239ξ : ¬ (V 5 (2000 + 0)) = 0) => ?_) (fun (hc239ξ : ¬ (¬ (V 5 (2000 + 0)) = 0)) => ?_)
        · refine zp_const (pc := 37) hx hb (zd_X12_back (37, .iconst 0, 1, 0, []) (List.mem_of_getElem? (i := 22) rfl)) rfl rfl ?_
          refine zp_store (L' := [(2, 0, 0), (0, 2, (A 0 : Int)), (1, 0, 0)]) (pc := 38) hx hb hnLξ (zd_X12_back (38, .istore_n 2, 1, 0, []) (List.mem_of_getElem? (i := 23) rfl)) rfl rfl rfl ?_
          have hstloop0ξ : ∀ f : Nat → Int, (∀ j, j < 5580 → f j = (zc_cp (zp_set V 0 0 0) 4 0 3 0 5580) 3 (2000 + j)) → zk_laws f 0 := fun f hfξ => by
            refine zl_cp (f := f1) (b := 0) hlw1ξ.1 (fun j hjξ => ?_) (fun _ _ _ => Or.inr trivial) (fun j hjξ => ⟨u.1, ?_⟩)
            · rw [hfξ (0 + j) (by omega), hf4ξ (0 + j) (by omega)]
              refine (zc_cp_e (by omega) (by omega)).trans ((zp_set_ne (Or.inl (by decide))).trans ?_)
              rw [show 0 + (0 + j - 0) = 0 + j by omega]
            · rw [hf4ξ (0 + j) (by omega), ← show zk_fj zl_T2 (0 + j) = zk_fj zl_T j from zl_fj2 (k := 0) hjξ (by omega)]
              exact hka4ξ _ (by omega)
          have loop0 : ∀ (r9ξ i9ξ : Nat) (G : Nat → Nat → Int), r9ξ + i9ξ = 5580 → zMVr A (zc_cp (zp_set V 0 0 0) 4 0 3 0 i9ξ) u.1 G → zp_J p l e R s m args below meth c Q w u [A 3] 39 [(2, 0, (i9ξ : Int)), (0, 2, (A 0 : Int)), (1, 0, 0)] [] u.1 G := by
            intro r9ξ
            induction r9ξ with
            | zero =>
              intro i9ξ G hrξ hMV9ξ
              obtain rfl : i9ξ = 5580 := by omega
              obtain ⟨M9ξ, hM9ξ, hV9ξ, hSb9ξ⟩ := hMV9ξ
              show zp_J p l e R s m args below meth c Q w u [A 3] 39 [(2, 0, 5580), (0, 2, (A 0 : Int)), (1, 0, 0)] [] u.1 G
              refine zp_strong hwξ (zM_P hM9ξ (List.mem_of_getElem? (i := 2) rfl)) zl_T59 rfl (fun f hfξ => ⟨fun _ => hstloop0ξ f (fun j hjξ => (hfξ j hjξ).trans ((zM_G hM9ξ (List.mem_of_getElem? (i := 2) rfl) (2000 + j)).trans (hV9ξ 3 (2000 + j) (Or.inl (by decide))))), fun z => absurd z (by decide)⟩) ?_
              refine zp_load (pc := 39) hx hb (zd_X12_back (39, .iload_n 2, 1, 0, []) (List.mem_of_getElem? (i := 24) rfl)) rfl (j := 0) rfl ?_
              refine zp_const (pc := 40) hx hb (zd_X12_back (40, .sipush 5580, 3, 0, []) (List.mem_of_getElem? (i := 25) rfl)) rfl rfl ?_
              refine zp_icmp (pc := 43) (tgt := 70) hx hb (zd_X12_back (43, .if_icmp .ge 27, 3, 0, []) (List.mem_of_getElem? (i := 26) rfl)) rfl (fun (hc240ξ : 5580 ≤ (5580 : Int)) => ?_) (fun (hc240ξ : ¬ (5580 ≤ (5580 : Int))) => ?_)
              · refine zp_load (pc := 70) hx hb (zd_X12_back (70, .aload_n 0, 1, 0, []) (List.mem_of_getElem? (i := 41) rfl)) rfl (j := 1) rfl ?_
                refine zp_const (pc := 71) hx hb (zd_X12_back (71, .iconst 0, 1, 0, []) (List.mem_of_getElem? (i := 42) rfl)) rfl rfl ?_
                refine zp_call (pc := 72) (how := 0) (idx := 185) (mi := 188) (S := []) hx hb hEξ hwξ heffξ hrmξ (zX_stl hWξ A (zc_cp (zp_set V 0 0 0) 4 0 3 0 5580)) rfl (j := 3) rfl rfl (by decide +kernel) (zd_X12_back (72, .invokevirtual 185, 3, 0, []) (List.mem_of_getElem? (i := 43) rfl)) [(A 0 : Int), 0] rfl ⟨zp_o2 (zM_P hM9ξ (List.mem_of_getElem? (i := 0) rfl)), zp_o0 (by omega) (by omega) (by omega) (by omega), trivial⟩ (Nat.le_of_ble_eq_true rfl) ⟨⟨M9ξ, hM9ξ, hV9ξ, hSb9ξ⟩, rfl, (show -6 ≤ 0 by omega)⟩ (fun al halξ rnt241ξ Pt241 Gt241 hextt241ξ hfrt241ξ hokt241ξ hcst241ξ hpsit241ξ => ?_)
                obtain rfl := List.mem_singleton.mp halξ
                have hrt241ξ := zp_int (hokt241ξ _ rfl).1
                obtain ⟨hPet241ξ, ⟨Mt241, hMt241ξ, hVt241ξ, hSbt241ξ⟩, htt241ξ⟩ := hpsit241ξ
                subst hPet241ξ
                clear hextt241ξ hfrt241ξ hcst241ξ hokt241ξ
                have hVt241ξ : ∀ o k, zNs o k → Mt241 o k = (zf_stl (zc_cp (zp_set V 0 0 0) 4 0 3 0 5580) 0).2 o k := hVt241ξ
                have htt241ξ : rnt241ξ = 0 := Eq.trans htt241ξ (zf_stl1 _ _)
                have htt241ξ := (Eq.symm htt241ξ)
                subst htt241ξ
                refine zp_iret (pc := 75) (n := 0) hx hb hEξ hQξ hU5ξ rfl (by decide) (zd_X12_back (75, .ireturn, 1, 0, []) (List.mem_of_getElem? (i := 44) rfl)) (j := 0) rfl (zp_o0 (by omega) (by omega) (by omega) (by omega)) ?_
                rw [hpsξ]
                refine ⟨rfl, ?_⟩
                have hffξ : zf_bkr V 0 = zf_stl (zc_cp (zp_set V 0 0 0) 4 (5580 * 0) 3 0 5580) 0 := by
                  unfold zf_bkr
                  rw [if_pos (by decide)]
                  exact if_neg hz9ξ
                show zMVr A (zf_bkr V 0).2 u.1 _ ∧ _ = (zf_bkr V 0).1
                rw [hffξ]
                exact ⟨⟨Mt241, hMt241ξ, hVt241ξ, hSbt241ξ⟩, (zf_stl1 _ _).symm⟩
              · exfalso
                omega
            | succ r9ξ ih =>
              intro i9ξ G hrξ hMV9ξ
              obtain ⟨M9ξ, hM9ξ, hV9ξ, hSb9ξ⟩ := hMV9ξ
              refine zp_load (pc := 39) hx hb (zd_X12_back (39, .iload_n 2, 1, 0, []) (List.mem_of_getElem? (i := 24) rfl)) rfl (j := 0) rfl ?_
              refine zp_const (pc := 40) hx hb (zd_X12_back (40, .sipush 5580, 3, 0, []) (List.mem_of_getElem? (i := 25) rfl)) rfl rfl ?_
              refine zp_icmp (pc := 43) (tgt := 70) hx hb (zd_X12_back (43, .if_icmp .ge 27, 3, 0, []) (List.mem_of_getElem? (i := 26) rfl)) rfl (fun (hc242ξ : 5580 ≤ (i9ξ : Int)) => ?_) (fun (hc242ξ : ¬ (5580 ≤ (i9ξ : Int))) => ?_)
              · exfalso
                omega
              · refine zp_load (pc := 46) hx hb (zd_X12_back (46, .aload_n 0, 1, 0, []) (List.mem_of_getElem? (i := 27) rfl)) rfl (j := 1) rfl ?_
                refine zp_getf (n := (A 3 : Int)) (pc := 47) hx hb hEξ hwξ (zd_X12_back (47, .getfield 13, 3, 0, []) (List.mem_of_getElem? (i := 28) rfl)) (j := 21) rfl rfl rfl (zM_P hM9ξ (List.mem_of_getElem? (i := 0) rfl)) ((zM_G hM9ξ (List.mem_of_getElem? (i := 0) rfl) 3).trans (zM_F hM9ξ (List.mem_of_getElem? (i := 1) rfl))) ?_
                refine zp_load (pc := 50) hx hb (zd_X12_back (50, .iload_n 2, 1, 0, []) (List.mem_of_getElem? (i := 29) rfl)) rfl (j := 0) rfl ?_
                refine zp_load (pc := 51) hx hb (zd_X12_back (51, .aload_n 0, 1, 0, []) (List.mem_of_getElem? (i := 30) rfl)) rfl (j := 1) rfl ?_
                refine zp_getf (n := (A 4 : Int)) (pc := 52) hx hb hEξ hwξ (zd_X12_back (52, .getfield 16, 3, 0, []) (List.mem_of_getElem? (i := 31) rfl)) (j := 22) rfl rfl rfl (zM_P hM9ξ (List.mem_of_getElem? (i := 0) rfl)) ((zM_G hM9ξ (List.mem_of_getElem? (i := 0) rfl) 4).trans (zM_F hM9ξ (List.mem_of_getElem? (i := 2) rfl))) ?_
                refine zp_const (pc := 55) hx hb (zd_X12_back (55, .sipush 5580, 3, 0, []) (List.mem_of_getElem? (i := 32) rfl)) rfl rfl ?_
                refine zp_load (pc := 58) hx hb (zd_X12_back (58, .iload_n 1, 1, 0, []) (List.mem_of_getElem? (i := 33) rfl)) rfl (j := 2) rfl ?_
                refine zp_mul (n := 0) (pc := 59) hx hb (zd_X12_back (59, .imul, 1, 0, []) (List.mem_of_getElem? (i := 34) rfl)) (by omega) (zp_r0 (by omega) (by omega)) ?_
                refine zp_load (pc := 60) hx hb (zd_X12_back (60, .iload_n 2, 1, 0, []) (List.mem_of_getElem? (i := 35) rfl)) rfl (j := 0) rfl ?_
                refine zp_add (n := (i9ξ : Int)) (pc := 61) hx hb (zd_X12_back (61, .iadd, 1, 0, []) (List.mem_of_getElem? (i := 36) rfl)) (by omega) (zp_r0 (by omega) (by omega)) ?_
                refine zp_ialdT (j := i9ξ) (v := ((zp_set V 0 0 0) 4 (2000 + i9ξ))) (pc := 62) hx hb hwξ (zd_X12_back (62, .iaload, 1, 0, []) (List.mem_of_getElem? (i := 37) rfl)) zl_T60x rfl (zl_kd2 (i9ξ)) (zM_P hM9ξ (List.mem_of_getElem? (i := 3) rfl)) (by omega) (show i9ξ < 11160 by omega) (((zM_G hM9ξ (List.mem_of_getElem? (i := 3) rfl) (2000 + i9ξ)).trans (hV9ξ 4 (2000 + i9ξ) (Or.inl (by decide)))).trans (zc_cp_o (by decide))) (fun hk243ξ => ?_)
                refine zp_iastT (j := i9ξ) (pc := 63) hx hb hwξ heffξ (zd_X12_back (63, .iastore, 1, 0, []) (List.mem_of_getElem? (i := 38) rfl)) zl_T59 rfl (zl_kd _) (zM_P hM9ξ (List.mem_of_getElem? (i := 2) rfl)) (by omega) (show i9ξ < 5580 by omega) (by omega) (by have h9ξ : zk_fj zl_T2 i9ξ = zk_fj zl_T i9ξ := zl_fj2 (k := 0) (by omega) (by omega); have h8ξ := hk243ξ; rw [h9ξ] at h8ξ; exact h8ξ) (Or.inl (List.mem_singleton.mpr rfl)) rfl ?_
                refine zp_iinc (L' := [(2, 0, ((i9ξ : Int) + 1)), (0, 2, (A 0 : Int)), (1, 0, 0)]) (n := ((i9ξ : Int) + 1)) (pc := 64) hx hb hnLξ (zd_X12_back (64, .iinc 2 1, 3, 0, []) (List.mem_of_getElem? (i := 39) rfl)) (j := 0) rfl (by omega) (zp_r0 (by omega) (by omega)) rfl rfl ?_
                refine zp_goto (tgt := 39) (pc := 67) hx hb (zd_X12_back (67, .goto (-28), 3, 0, []) (List.mem_of_getElem? (i := 40) rfl)) rfl ?_
                refine ih (i9ξ + 1) _ (by omega) (zMV_cg ⟨(zp_set M9ξ 3 (2000 + i9ξ) ((zp_set V 0 0 0) 4 (2000 + i9ξ))), (zM_setE hM9ξ (List.mem_of_getElem? (i := 2) rfl)), (zV_set hV9ξ), (zSb_set (by decide) hSb9ξ)⟩ ?_)
                rw [show (2000 + i9ξ : Nat) = 2000 + (0 + i9ξ) by omega]
                try rw [show ((zp_set V 0 0 0) 4 (2000 + i9ξ)) = (zp_set V 0 0 0) 4 (2000 + (0 + i9ξ)) from congrArg (fun z => (zp_set V 0 0 0) 4 (2000 + z)) (by omega)]
                exact zc_cp_s
          refine zp_drop (L' := [(2, 0, 0), (0, 2, (A 0 : Int)), (1, 0, 0)]) (by simp) ?_
          refine zp_weak (xs := [A 3]) ?_
          exact loop0 5580 0 _ (by omega) (zMV_cg ⟨(zp_set M 0 0 0), (zM_set hMξ (List.mem_of_getElem? (i := 0) rfl) (by decide)), (zV_set hVξ), (zSb_set (by decide) hSbξ)⟩ zc_cp_0.symm)
        · exfalso
          omega
      · exfalso
        omega
  · by_cases hk1ξ : p1ξ = 1
    · subst hk1ξ
      show zp_J p l e R s m args below meth c Q w u [] 0 [(0, 2, (A 0 : Int)), (1, 0, 1)] [] u.1 (zp_n u.2.1)
      by_cases hz9ξ : V 5 (2000 + 1) = 0
      · refine zp_load (pc := 0) hx hb (zd_X12_back (0, .aload_n 0, 1, 0, []) (List.mem_of_getElem? (i := 0) rfl)) rfl (j := 0) rfl ?_
        refine zp_const (pc := 1) hx hb (zd_X12_back (1, .iconst 0, 1, 0, []) (List.mem_of_getElem? (i := 1) rfl)) rfl rfl ?_
        refine zp_putf (pc := 2) hx hb hEξ hwξ heffξ (zd_X12_back (2, .putfield 161, 3, 0, []) (List.mem_of_getElem? (i := 2) rfl)) (j := 18) rfl rfl rfl (zM_P hMξ (List.mem_of_getElem? (i := 0) rfl)) (zp_o0 (by decide) (by decide) (by decide) (by decide)) ?_
        refine zp_load (pc := 5) hx hb (zd_X12_back (5, .iload_n 1, 1, 0, []) (List.mem_of_getElem? (i := 3) rfl)) rfl (j := 1) rfl ?_
        refine zp_i2l (pc := 6) hx hb (zd_X12_back (6, .i2l, 1, 0, []) (List.mem_of_getElem? (i := 4) rfl)) ?_
        refine zp_const (pc := 7) hx hb (zd_X12_back (7, .lconst 0, 1, 0, []) (List.mem_of_getElem? (i := 5) rfl)) rfl rfl ?_
        refine zp_const (pc := 8) hx hb (zd_X12_back (8, .lconst 1, 1, 0, []) (List.mem_of_getElem? (i := 6) rfl)) rfl rfl ?_
        refine zp_call (pc := 9) (how := 1) (idx := 181) (mi := 186) (S := []) hx hb hEξ hwξ heffξ hrmξ (zX_in2 hWξ) rfl (j := 2) rfl rfl (by decide +kernel) (zd_X12_back (9, .invokestatic 181, 3, 0, []) (List.mem_of_getElem? (i := 7) rfl)) [1, 0, 1] rfl ⟨zp_o1 (by first | assumption | exact zp_r1 (by omega) (by omega)), zp_o1 (by first | assumption | exact zp_r1 (by omega) (by omega)), zp_o1 (by first | assumption | exact zp_r1 (by omega) (by omega)), trivial⟩ (Nat.le_of_ble_eq_true rfl) trivial (fun al halξ rnn Pn Gn hextnξ hfrnξ hoknξ hcsnξ hpsinξ => ?_)
        obtain rfl := List.mem_singleton.mp halξ
        have hrnξ := zp_int (hoknξ _ rfl).1
        obtain ⟨hPenξ, hGenξ, htnξ⟩ := hpsinξ
        have htnξ : rnn = 1 ↔ (0 : Int) ≤ 1 ∧ (1 : Int) ≤ 1 := htnξ
        rw [hPenξ, hGenξ]
        have hrn9ξ : rnn = 1 := by omega
        subst hrn9ξ
        refine zp_if (pc := 12) (tgt := 21) hx hb (zd_X12_back (12, .ifCond .ne 9, 3, 0, []) (List.mem_of_getElem? (i := 8) rfl)) rfl (fun (hc244ξ : ¬ (1 : Int) = 0) => ?_) (fun (hc244ξ : ¬ (¬ (1 : Int) = 0)) => ?_)
        · refine zp_load (pc := 21) hx hb (zd_X12_back (21, .aload_n 0, 1, 0, []) (List.mem_of_getElem? (i := 13) rfl)) rfl (j := 0) rfl ?_
          refine zp_getf (n := (A 5 : Int)) (pc := 22) hx hb hEξ hwξ (zd_X12_back (22, .getfield 19, 3, 0, []) (List.mem_of_getElem? (i := 14) rfl)) (j := 23) rfl rfl rfl (zM_P hMξ (List.mem_of_getElem? (i := 0) rfl)) ((zp_set_ne (Or.inr (by decide))).trans (((zM_G hMξ (List.mem_of_getElem? (i := 0) rfl) 5).trans (zM_F hMξ (List.mem_of_getElem? (i := 3) rfl))))) ?_
          refine zp_load (pc := 25) hx hb (zd_X12_back (25, .iload_n 1, 1, 0, []) (List.mem_of_getElem? (i := 15) rfl)) rfl (j := 1) rfl ?_
          refine zp_zald (j := 1) (v := 0) (pc := 26) hx hb hwξ (zd_X12_back (26, .baload, 1, 0, []) (List.mem_of_getElem? (i := 16) rfl)) (show zp_ia 4 61 = some (2, 0, 0, 0, 1) from rfl) (zM_P hMξ (List.mem_of_getElem? (i := 4) rfl)) (by omega) (by omega) ((zp_set_ne (Or.inl (zM_ne hMξ (List.mem_of_getElem? (i := 4) rfl) (List.mem_of_getElem? (i := 0) rfl) (by decide)))).trans ((((zM_G hMξ (List.mem_of_getElem? (i := 4) rfl) (2000 + 1)).trans (hVξ 5 (2000 + 1) (Or.inl (by decide)))).trans hz9ξ))) (fun hk245ξ => ?_)
          have hk245bξ := zp_int hk245ξ
          clear hk245ξ
          refine zp_if (pc := 27) (tgt := 37) hx hb (zd_X12_back (27, .ifCond .ne 10, 3, 0, []) (List.mem_of_getElem? (i := 17) rfl)) rfl (fun (hc246ξ : ¬ (0 : Int) = 0) => ?_) (fun (hc246ξ : ¬ (¬ (0 : Int) = 0)) => ?_)
          · exfalso
            omega
          · refine zp_load (pc := 30) hx hb (zd_X12_back (30, .aload_n 0, 1, 0, []) (List.mem_of_getElem? (i := 18) rfl)) rfl (j := 0) rfl ?_
            refine zp_const (pc := 31) hx hb (zd_X12_back (31, .bipush (-2), 2, 0, []) (List.mem_of_getElem? (i := 19) rfl)) rfl rfl ?_
            refine zp_call (pc := 33) (how := 0) (idx := 170) (mi := 183) (S := []) hx hb hEξ hwξ heffξ hrmξ (zX_tll hWξ A (zp_set V 0 0 0)) rfl (j := 0) rfl rfl (by decide +kernel) (zd_X12_back (33, .invokevirtual 170, 3, 0, []) (List.mem_of_getElem? (i := 20) rfl)) [(A 0 : Int), (-2)] rfl ⟨zp_o2 (zM_P hMξ (List.mem_of_getElem? (i := 0) rfl)), zp_o0 (by omega) (by omega) (by omega) (by omega), trivial⟩ (Nat.le_of_ble_eq_true rfl) ⟨⟨(zp_set M 0 0 0), (zM_set hMξ (List.mem_of_getElem? (i := 0) rfl) (by decide)), (zV_set hVξ), (zSb_set (by decide) hSbξ)⟩, rfl, (show -6 ≤ (-2) by omega)⟩ (fun al halξ rnt247ξ Pt247 Gt247 hextt247ξ hfrt247ξ hokt247ξ hcst247ξ hpsit247ξ => ?_)
            obtain rfl := List.mem_singleton.mp halξ
            have hrt247ξ := zp_int (hokt247ξ _ rfl).1
            obtain ⟨hPet247ξ, ⟨Mt247, hMt247ξ, hVt247ξ, hSbt247ξ⟩, htt247ξ⟩ := hpsit247ξ
            subst hPet247ξ
            clear hextt247ξ hfrt247ξ hcst247ξ hokt247ξ
            have hVt247ξ : ∀ o k, zNs o k → Mt247 o k = (zT_tell (zp_set V 0 0 0) (-2)) o k := hVt247ξ
            have htt247ξ : rnt247ξ = (-2) := htt247ξ
            have htt247ξ := (Eq.symm htt247ξ)
            subst htt247ξ
            refine zp_iret (pc := 36) (n := (-2)) hx hb hEξ hQξ hU5ξ rfl (by decide) (zd_X12_back (36, .ireturn, 1, 0, []) (List.mem_of_getElem? (i := 21) rfl)) (j := 0) rfl (zp_o0 (by omega) (by omega) (by omega) (by omega)) ?_
            rw [hpsξ]
            refine ⟨rfl, ?_⟩
            have hffξ : zf_bkr V 1 = (-2, zT_tell (zp_set V 0 0 0) (-2)) := by
              unfold zf_bkr
              rw [if_pos (by decide)]
              exact if_pos hz9ξ
            show zMVr A (zf_bkr V 1).2 u.1 _ ∧ _ = (zf_bkr V 1).1
            rw [hffξ]
            exact ⟨⟨Mt247, hMt247ξ, hVt247ξ, hSbt247ξ⟩, rfl⟩
        · exfalso
          omega
      · refine zp_load (pc := 0) hx hb (zd_X12_back (0, .aload_n 0, 1, 0, []) (List.mem_of_getElem? (i := 0) rfl)) rfl (j := 0) rfl ?_
        refine zp_const (pc := 1) hx hb (zd_X12_back (1, .iconst 0, 1, 0, []) (List.mem_of_getElem? (i := 1) rfl)) rfl rfl ?_
        refine zp_putf (pc := 2) hx hb hEξ hwξ heffξ (zd_X12_back (2, .putfield 161, 3, 0, []) (List.mem_of_getElem? (i := 2) rfl)) (j := 18) rfl rfl rfl (zM_P hMξ (List.mem_of_getElem? (i := 0) rfl)) (zp_o0 (by decide) (by decide) (by decide) (by decide)) ?_
        refine zp_load (pc := 5) hx hb (zd_X12_back (5, .iload_n 1, 1, 0, []) (List.mem_of_getElem? (i := 3) rfl)) rfl (j := 1) rfl ?_
        refine zp_i2l (pc := 6) hx hb (zd_X12_back (6, .i2l, 1, 0, []) (List.mem_of_getElem? (i := 4) rfl)) ?_
        refine zp_const (pc := 7) hx hb (zd_X12_back (7, .lconst 0, 1, 0, []) (List.mem_of_getElem? (i := 5) rfl)) rfl rfl ?_
        refine zp_const (pc := 8) hx hb (zd_X12_back (8, .lconst 1, 1, 0, []) (List.mem_of_getElem? (i := 6) rfl)) rfl rfl ?_
        refine zp_call (pc := 9) (how := 1) (idx := 181) (mi := 186) (S := []) hx hb hEξ hwξ heffξ hrmξ (zX_in2 hWξ) rfl (j := 2) rfl rfl (by decide +kernel) (zd_X12_back (9, .invokestatic 181, 3, 0, []) (List.mem_of_getElem? (i := 7) rfl)) [1, 0, 1] rfl ⟨zp_o1 (by first | assumption | exact zp_r1 (by omega) (by omega)), zp_o1 (by first | assumption | exact zp_r1 (by omega) (by omega)), zp_o1 (by first | assumption | exact zp_r1 (by omega) (by omega)), trivial⟩ (Nat.le_of_ble_eq_true rfl) trivial (fun al halξ rnn Pn Gn hextnξ hfrnξ hoknξ hcsnξ hpsinξ => ?_)
        obtain rfl := List.mem_singleton.mp halξ
        have hrnξ := zp_int (hoknξ _ rfl).1
        obtain ⟨hPenξ, hGenξ, htnξ⟩ := hpsinξ
        have htnξ : rnn = 1 ↔ (0 : Int) ≤ 1 ∧ (1 : Int) ≤ 1 := htnξ
        rw [hPenξ, hGenξ]
        have hrn9ξ : rnn = 1 := by omega
        subst hrn9ξ
        refine zp_if (pc := 12) (tgt := 21) hx hb (zd_X12_back (12, .ifCond .ne 9, 3, 0, []) (List.mem_of_getElem? (i := 8) rfl)) rfl (fun (hc248ξ : ¬ (1 : Int) = 0) => ?_) (fun (hc248ξ : ¬ (¬ (1 : Int) = 0)) => ?_)
        · refine zp_load (pc := 21) hx hb (zd_X12_back (21, .aload_n 0, 1, 0, []) (List.mem_of_getElem? (i := 13) rfl)) rfl (j := 0) rfl ?_
          refine zp_getf (n := (A 5 : Int)) (pc := 22) hx hb hEξ hwξ (zd_X12_back (22, .getfield 19, 3, 0, []) (List.mem_of_getElem? (i := 14) rfl)) (j := 23) rfl rfl rfl (zM_P hMξ (List.mem_of_getElem? (i := 0) rfl)) ((zp_set_ne (Or.inr (by decide))).trans (((zM_G hMξ (List.mem_of_getElem? (i := 0) rfl) 5).trans (zM_F hMξ (List.mem_of_getElem? (i := 3) rfl))))) ?_
          refine zp_load (pc := 25) hx hb (zd_X12_back (25, .iload_n 1, 1, 0, []) (List.mem_of_getElem? (i := 15) rfl)) rfl (j := 1) rfl ?_
          refine zp_zald (j := 1) (v := (V 5 (2000 + 1))) (pc := 26) hx hb hwξ (zd_X12_back (26, .baload, 1, 0, []) (List.mem_of_getElem? (i := 16) rfl)) (show zp_ia 4 61 = some (2, 0, 0, 0, 1) from rfl) (zM_P hMξ (List.mem_of_getElem? (i := 4) rfl)) (by omega) (by omega) ((zp_set_ne (Or.inl (zM_ne hMξ (List.mem_of_getElem? (i := 4) rfl) (List.mem_of_getElem? (i := 0) rfl) (by decide)))).trans (((zM_G hMξ (List.mem_of_getElem? (i := 4) rfl) (2000 + 1)).trans (hVξ 5 (2000 + 1) (Or.inl (by decide)))))) (fun hk249ξ => ?_)
          have hk249bξ := zp_int hk249ξ
          clear hk249ξ
          refine zp_if (pc := 27) (tgt := 37) hx hb (zd_X12_back (27, .ifCond .ne 10, 3, 0, []) (List.mem_of_getElem? (i := 17) rfl)) rfl (fun (hc250ξ : ¬ (V 5 (2000 + 1)) = 0) => ?_) (fun (hc250ξ : ¬ (¬ (V 5 (2000 + 1)) = 0)) => ?_)
          · refine zp_const (pc := 37) hx hb (zd_X12_back (37, .iconst 0, 1, 0, []) (List.mem_of_getElem? (i := 22) rfl)) rfl rfl ?_
            refine zp_store (L' := [(2, 0, 0), (0, 2, (A 0 : Int)), (1, 0, 1)]) (pc := 38) hx hb hnLξ (zd_X12_back (38, .istore_n 2, 1, 0, []) (List.mem_of_getElem? (i := 23) rfl)) rfl rfl rfl ?_
            have hstloop1ξ : ∀ f : Nat → Int, (∀ j, j < 5580 → f j = (zc_cp (zp_set V 0 0 0) 4 5580 3 0 5580) 3 (2000 + j)) → zk_laws f 0 := fun f hfξ => by
              refine zl_cp (f := f1) (b := 5580) hlw1ξ.2 (fun j hjξ => ?_) (fun _ _ _ => Or.inr trivial) (fun j hjξ => ⟨u.1, ?_⟩)
              · rw [hfξ (0 + j) (by omega), hf4ξ (5580 + j) (by omega)]
                refine (zc_cp_e (by omega) (by omega)).trans ((zp_set_ne (Or.inl (by decide))).trans ?_)
                rw [show 5580 + (0 + j - 0) = 5580 + j by omega]
              · rw [hf4ξ (5580 + j) (by omega), ← show zk_fj zl_T2 (5580 + j) = zk_fj zl_T j from zl_fj2 (k := 1) hjξ (by omega)]
                exact hka4ξ _ (by omega)
            have loop1 : ∀ (r9ξ i9ξ : Nat) (G : Nat → Nat → Int), r9ξ + i9ξ = 5580 → zMVr A (zc_cp (zp_set V 0 0 0) 4 5580 3 0 i9ξ) u.1 G → zp_J p l e R s m args below meth c Q w u [A 3] 39 [(2, 0, (i9ξ : Int)), (0, 2, (A 0 : Int)), (1, 0, 1)] [] u.1 G := by
              intro r9ξ
              induction r9ξ with
              | zero =>
                intro i9ξ G hrξ hMV9ξ
                obtain rfl : i9ξ = 5580 := by omega
                obtain ⟨M9ξ, hM9ξ, hV9ξ, hSb9ξ⟩ := hMV9ξ
                show zp_J p l e R s m args below meth c Q w u [A 3] 39 [(2, 0, 5580), (0, 2, (A 0 : Int)), (1, 0, 1)] [] u.1 G
                refine zp_strong hwξ (zM_P hM9ξ (List.mem_of_getElem? (i := 2) rfl)) zl_T59 rfl (fun f hfξ => ⟨fun _ => hstloop1ξ f (fun j hjξ => (hfξ j hjξ).trans ((zM_G hM9ξ (List.mem_of_getElem? (i := 2) rfl) (2000 + j)).trans (hV9ξ 3 (2000 + j) (Or.inl (by decide))))), fun z => absurd z (by decide)⟩) ?_
                refine zp_load (pc := 39) hx hb (zd_X12_back (39, .iload_n 2, 1, 0, []) (List.mem_of_getElem? (i := 24) rfl)) rfl (j := 0) rfl ?_
                refine zp_const (pc := 40) hx hb (zd_X12_back (40, .sipush 5580, 3, 0, []) (List.mem_of_getElem? (i := 25) rfl)) rfl rfl ?_
                refine zp_icmp (pc := 43) (tgt := 70) hx hb (zd_X12_back (43, .if_icmp .ge 27, 3, 0, []) (List.mem_of_getElem? (i := 26) rfl)) rfl (fun (hc251ξ : 5580 ≤ (5580 : Int)) => ?_) (fun (hc251ξ : ¬ (5580 ≤ (5580 : Int))) => ?_)
                · refine zp_load (pc := 70) hx hb (zd_X12_back (70, .aload_n 0, 1, 0, []) (List.mem_of_getElem? (i := 41) rfl)) rfl (j := 1) rfl ?_
                  refine zp_const (pc := 71) hx hb (zd_X12_back (71, .iconst 0, 1, 0, []) (List.mem_of_getElem? (i := 42) rfl)) rfl rfl ?_
                  refine zp_call (pc := 72) (how := 0) (idx := 185) (mi := 188) (S := []) hx hb hEξ hwξ heffξ hrmξ (zX_stl hWξ A (zc_cp (zp_set V 0 0 0) 4 5580 3 0 5580)) rfl (j := 3) rfl rfl (by decide +kernel) (zd_X12_back (72, .invokevirtual 185, 3, 0, []) (List.mem_of_getElem? (i := 43) rfl)) [(A 0 : Int), 0] rfl ⟨zp_o2 (zM_P hM9ξ (List.mem_of_getElem? (i := 0) rfl)), zp_o0 (by omega) (by omega) (by omega) (by omega), trivial⟩ (Nat.le_of_ble_eq_true rfl) ⟨⟨M9ξ, hM9ξ, hV9ξ, hSb9ξ⟩, rfl, (show -6 ≤ 0 by omega)⟩ (fun al halξ rnt252ξ Pt252 Gt252 hextt252ξ hfrt252ξ hokt252ξ hcst252ξ hpsit252ξ => ?_)
                  obtain rfl := List.mem_singleton.mp halξ
                  have hrt252ξ := zp_int (hokt252ξ _ rfl).1
                  obtain ⟨hPet252ξ, ⟨Mt252, hMt252ξ, hVt252ξ, hSbt252ξ⟩, htt252ξ⟩ := hpsit252ξ
                  subst hPet252ξ
                  clear hextt252ξ hfrt252ξ hcst252ξ hokt252ξ
                  have hVt252ξ : ∀ o k, zNs o k → Mt252 o k = (zf_stl (zc_cp (zp_set V 0 0 0) 4 5580 3 0 5580) 0).2 o k := hVt252ξ
                  have htt252ξ : rnt252ξ = 0 := Eq.trans htt252ξ (zf_stl1 _ _)
                  have htt252ξ := (Eq.symm htt252ξ)
                  subst htt252ξ
                  refine zp_iret (pc := 75) (n := 0) hx hb hEξ hQξ hU5ξ rfl (by decide) (zd_X12_back (75, .ireturn, 1, 0, []) (List.mem_of_getElem? (i := 44) rfl)) (j := 0) rfl (zp_o0 (by omega) (by omega) (by omega) (by omega)) ?_
                  rw [hpsξ]
                  refine ⟨rfl, ?_⟩
                  have hffξ : zf_bkr V 1 = zf_stl (zc_cp (zp_set V 0 0 0) 4 (5580 * 1) 3 0 5580) 0 := by
                    unfold zf_bkr
                    rw [if_pos (by decide)]
                    exact if_neg hz9ξ
                  show zMVr A (zf_bkr V 1).2 u.1 _ ∧ _ = (zf_bkr V 1).1
                  rw [hffξ]
                  exact ⟨⟨Mt252, hMt252ξ, hVt252ξ, hSbt252ξ⟩, (zf_stl1 _ _).symm⟩
                · exfalso
                  omega
              | succ r9ξ ih =>
                intro i9ξ G hrξ hMV9ξ
                obtain ⟨M9ξ, hM9ξ, hV9ξ, hSb9ξ⟩ := hMV9ξ
                refine zp_load (pc := 39) hx hb (zd_X12_back (39, .iload_n 2, 1, 0, []) (List.mem_of_getElem? (i := 24) rfl)) rfl (j := 0) rfl ?_
                refine zp_const (pc := 40) hx hb (zd_X12_back (40, .sipush 5580, 3, 0, []) (List.mem_of_getElem? (i := 25) rfl)) rfl rfl ?_
                refine zp_icmp (pc := 43) (tgt := 70) hx hb (zd_X12_back (43, .if_icmp .ge 27, 3, 0, []) (List.mem_of_getElem? (i := 26) rfl)) rfl (fun (hc253ξ : 5580 ≤ (i9ξ : Int)) => ?_) (fun (hc253ξ : ¬ (5580 ≤ (i9ξ : Int))) => ?_)
                · exfalso
                  omega
                · refine zp_load (pc := 46) hx hb (zd_X12_back (46, .aload_n 0, 1, 0, []) (List.mem_of_getElem? (i := 27) rfl)) rfl (j := 1) rfl ?_
                  refine zp_getf (n := (A 3 : Int)) (pc := 47) hx hb hEξ hwξ (zd_X12_back (47, .getfield 13, 3, 0, []) (List.mem_of_getElem? (i := 28) rfl)) (j := 21) rfl rfl rfl (zM_P hM9ξ (List.mem_of_getElem? (i := 0) rfl)) ((zM_G hM9ξ (List.mem_of_getElem? (i := 0) rfl) 3).trans (zM_F hM9ξ (List.mem_of_getElem? (i := 1) rfl))) ?_
                  refine zp_load (pc := 50) hx hb (zd_X12_back (50, .iload_n 2, 1, 0, []) (List.mem_of_getElem? (i := 29) rfl)) rfl (j := 0) rfl ?_
                  refine zp_load (pc := 51) hx hb (zd_X12_back (51, .aload_n 0, 1, 0, []) (List.mem_of_getElem? (i := 30) rfl)) rfl (j := 1) rfl ?_
                  refine zp_getf (n := (A 4 : Int)) (pc := 52) hx hb hEξ hwξ (zd_X12_back (52, .getfield 16, 3, 0, []) (List.mem_of_getElem? (i := 31) rfl)) (j := 22) rfl rfl rfl (zM_P hM9ξ (List.mem_of_getElem? (i := 0) rfl)) ((zM_G hM9ξ (List.mem_of_getElem? (i := 0) rfl) 4).trans (zM_F hM9ξ (List.mem_of_getElem? (i := 2) rfl))) ?_
                  refine zp_const (pc := 55) hx hb (zd_X12_back (55, .sipush 5580, 3, 0, []) (List.mem_of_getElem? (i := 32) rfl)) rfl rfl ?_
                  refine zp_load (pc := 58) hx hb (zd_X12_back (58, .iload_n 1, 1, 0, []) (List.mem_of_getElem? (i := 33) rfl)) rfl (j := 2) rfl ?_
                  refine zp_mul (n := 5580) (pc := 59) hx hb (zd_X12_back (59, .imul, 1, 0, []) (List.mem_of_getElem? (i := 34) rfl)) (by omega) (zp_r0 (by omega) (by omega)) ?_
                  refine zp_load (pc := 60) hx hb (zd_X12_back (60, .iload_n 2, 1, 0, []) (List.mem_of_getElem? (i := 35) rfl)) rfl (j := 0) rfl ?_
                  refine zp_add (n := ((i9ξ : Int) + 5580)) (pc := 61) hx hb (zd_X12_back (61, .iadd, 1, 0, []) (List.mem_of_getElem? (i := 36) rfl)) (by omega) (zp_r0 (by omega) (by omega)) ?_
                  refine zp_ialdT (j := (i9ξ + 5580)) (v := ((zp_set V 0 0 0) 4 (2000 + (i9ξ + 5580)))) (pc := 62) hx hb hwξ (zd_X12_back (62, .iaload, 1, 0, []) (List.mem_of_getElem? (i := 37) rfl)) zl_T60x rfl (zl_kd2 ((i9ξ + 5580))) (zM_P hM9ξ (List.mem_of_getElem? (i := 3) rfl)) (by omega) (show (i9ξ + 5580) < 11160 by omega) (((zM_G hM9ξ (List.mem_of_getElem? (i := 3) rfl) (2000 + (i9ξ + 5580))).trans (hV9ξ 4 (2000 + (i9ξ + 5580)) (Or.inl (by decide)))).trans (zc_cp_o (by decide))) (fun hk254ξ => ?_)
                  refine zp_iastT (j := i9ξ) (pc := 63) hx hb hwξ heffξ (zd_X12_back (63, .iastore, 1, 0, []) (List.mem_of_getElem? (i := 38) rfl)) zl_T59 rfl (zl_kd _) (zM_P hM9ξ (List.mem_of_getElem? (i := 2) rfl)) (by omega) (show i9ξ < 5580 by omega) (by omega) (by have h9ξ : zk_fj zl_T2 (i9ξ + 5580) = zk_fj zl_T i9ξ := zl_fj2 (k := 1) (by omega) (by omega); have h8ξ := hk254ξ; rw [h9ξ] at h8ξ; exact h8ξ) (Or.inl (List.mem_singleton.mpr rfl)) rfl ?_
                  refine zp_iinc (L' := [(2, 0, ((i9ξ : Int) + 1)), (0, 2, (A 0 : Int)), (1, 0, 1)]) (n := ((i9ξ : Int) + 1)) (pc := 64) hx hb hnLξ (zd_X12_back (64, .iinc 2 1, 3, 0, []) (List.mem_of_getElem? (i := 39) rfl)) (j := 0) rfl (by omega) (zp_r0 (by omega) (by omega)) rfl rfl ?_
                  refine zp_goto (tgt := 39) (pc := 67) hx hb (zd_X12_back (67, .goto (-28), 3, 0, []) (List.mem_of_getElem? (i := 40) rfl)) rfl ?_
                  refine ih (i9ξ + 1) _ (by omega) (zMV_cg ⟨(zp_set M9ξ 3 (2000 + i9ξ) ((zp_set V 0 0 0) 4 (2000 + (i9ξ + 5580)))), (zM_setE hM9ξ (List.mem_of_getElem? (i := 2) rfl)), (zV_set hV9ξ), (zSb_set (by decide) hSb9ξ)⟩ ?_)
                  rw [show (2000 + i9ξ : Nat) = 2000 + (0 + i9ξ) by omega]
                  try rw [show ((zp_set V 0 0 0) 4 (2000 + (i9ξ + 5580))) = (zp_set V 0 0 0) 4 (2000 + (5580 + i9ξ)) from congrArg (fun z => (zp_set V 0 0 0) 4 (2000 + z)) (by omega)]
                  exact zc_cp_s
            refine zp_drop (L' := [(2, 0, 0), (0, 2, (A 0 : Int)), (1, 0, 1)]) (by simp) ?_
            refine zp_weak (xs := [A 3]) ?_
            exact loop1 5580 0 _ (by omega) (zMV_cg ⟨(zp_set M 0 0 0), (zM_set hMξ (List.mem_of_getElem? (i := 0) rfl) (by decide)), (zV_set hVξ), (zSb_set (by decide) hSbξ)⟩ zc_cp_0.symm)
          · exfalso
            omega
        · exfalso
          omega
    · refine zp_load (pc := 0) hx hb (zd_X12_back (0, .aload_n 0, 1, 0, []) (List.mem_of_getElem? (i := 0) rfl)) rfl (j := 0) rfl ?_
      refine zp_const (pc := 1) hx hb (zd_X12_back (1, .iconst 0, 1, 0, []) (List.mem_of_getElem? (i := 1) rfl)) rfl rfl ?_
      refine zp_putf (pc := 2) hx hb hEξ hwξ heffξ (zd_X12_back (2, .putfield 161, 3, 0, []) (List.mem_of_getElem? (i := 2) rfl)) (j := 18) rfl rfl rfl (zM_P hMξ (List.mem_of_getElem? (i := 0) rfl)) (zp_o0 (by decide) (by decide) (by decide) (by decide)) ?_
      refine zp_load (pc := 5) hx hb (zd_X12_back (5, .iload_n 1, 1, 0, []) (List.mem_of_getElem? (i := 3) rfl)) rfl (j := 1) rfl ?_
      refine zp_i2l (pc := 6) hx hb (zd_X12_back (6, .i2l, 1, 0, []) (List.mem_of_getElem? (i := 4) rfl)) ?_
      refine zp_const (pc := 7) hx hb (zd_X12_back (7, .lconst 0, 1, 0, []) (List.mem_of_getElem? (i := 5) rfl)) rfl rfl ?_
      refine zp_const (pc := 8) hx hb (zd_X12_back (8, .lconst 1, 1, 0, []) (List.mem_of_getElem? (i := 6) rfl)) rfl rfl ?_
      refine zp_call (pc := 9) (how := 1) (idx := 181) (mi := 186) (S := []) hx hb hEξ hwξ heffξ hrmξ (zX_in2 hWξ) rfl (j := 2) rfl rfl (by decide +kernel) (zd_X12_back (9, .invokestatic 181, 3, 0, []) (List.mem_of_getElem? (i := 7) rfl)) [p1ξ, 0, 1] rfl ⟨zp_o1 (by first | assumption | exact zp_r1 (by omega) (by omega)), zp_o1 (by first | assumption | exact zp_r1 (by omega) (by omega)), zp_o1 (by first | assumption | exact zp_r1 (by omega) (by omega)), trivial⟩ (Nat.le_of_ble_eq_true rfl) trivial (fun al halξ rnn Pn Gn hextnξ hfrnξ hoknξ hcsnξ hpsinξ => ?_)
      obtain rfl := List.mem_singleton.mp halξ
      have hrnξ := zp_int (hoknξ _ rfl).1
      obtain ⟨hPenξ, hGenξ, htnξ⟩ := hpsinξ
      have htnξ : rnn = 1 ↔ (0 : Int) ≤ p1ξ ∧ (p1ξ : Int) ≤ 1 := htnξ
      rw [hPenξ, hGenξ]
      have hrn9ξ : rnn = 0 := by omega
      subst hrn9ξ
      refine zp_if (pc := 12) (tgt := 21) hx hb (zd_X12_back (12, .ifCond .ne 9, 3, 0, []) (List.mem_of_getElem? (i := 8) rfl)) rfl (fun (hc255ξ : ¬ (0 : Int) = 0) => ?_) (fun (hc255ξ : ¬ (¬ (0 : Int) = 0)) => ?_)
      · exfalso
        omega
      · refine zp_load (pc := 15) hx hb (zd_X12_back (15, .aload_n 0, 1, 0, []) (List.mem_of_getElem? (i := 9) rfl)) rfl (j := 0) rfl ?_
        refine zp_const (pc := 16) hx hb (zd_X12_back (16, .iconst (-1), 1, 0, []) (List.mem_of_getElem? (i := 10) rfl)) rfl rfl ?_
        refine zp_call (pc := 17) (how := 0) (idx := 170) (mi := 183) (S := []) hx hb hEξ hwξ heffξ hrmξ (zX_tll hWξ A (zp_set V 0 0 0)) rfl (j := 0) rfl rfl (by decide +kernel) (zd_X12_back (17, .invokevirtual 170, 3, 0, []) (List.mem_of_getElem? (i := 11) rfl)) [(A 0 : Int), (-1)] rfl ⟨zp_o2 (zM_P hMξ (List.mem_of_getElem? (i := 0) rfl)), zp_o0 (by omega) (by omega) (by omega) (by omega), trivial⟩ (Nat.le_of_ble_eq_true rfl) ⟨⟨(zp_set M 0 0 0), (zM_set hMξ (List.mem_of_getElem? (i := 0) rfl) (by decide)), (zV_set hVξ), (zSb_set (by decide) hSbξ)⟩, rfl, (show -6 ≤ (-1) by omega)⟩ (fun al halξ rnt256ξ Pt256 Gt256 hextt256ξ hfrt256ξ hokt256ξ hcst256ξ hpsit256ξ => ?_)
        obtain rfl := List.mem_singleton.mp halξ
        have hrt256ξ := zp_int (hokt256ξ _ rfl).1
        obtain ⟨hPet256ξ, ⟨Mt256, hMt256ξ, hVt256ξ, hSbt256ξ⟩, htt256ξ⟩ := hpsit256ξ
        subst hPet256ξ
        clear hextt256ξ hfrt256ξ hcst256ξ hokt256ξ
        have hVt256ξ : ∀ o k, zNs o k → Mt256 o k = (zT_tell (zp_set V 0 0 0) (-1)) o k := hVt256ξ
        have htt256ξ : rnt256ξ = (-1) := htt256ξ
        have htt256ξ := (Eq.symm htt256ξ)
        subst htt256ξ
        refine zp_iret (pc := 20) (n := (-1)) hx hb hEξ hQξ hU5ξ rfl (by decide) (zd_X12_back (20, .ireturn, 1, 0, []) (List.mem_of_getElem? (i := 12) rfl)) (j := 0) rfl (zp_o0 (by omega) (by omega) (by omega) (by omega)) ?_
        rw [hpsξ]
        refine ⟨rfl, ?_⟩
        have hffξ : zf_bkr V p1ξ = (-1, zT_tell (zp_set V 0 0 0) (-1)) := if_neg (by omega)
        show zMVr A (zf_bkr V p1ξ).2 u.1 _ ∧ _ = (zf_bkr V p1ξ).1
        rw [hffξ]
        exact ⟨⟨Mt256, hMt256ξ, hVt256ξ, hSbt256ξ⟩, rfl⟩
