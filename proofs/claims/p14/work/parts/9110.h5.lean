/-! part h5ξ: the reference over logical cells: the small calls -/
theorem zr_road : ∀ {j : Nat}, j < 64 → (zk_fj zl_T (j + 89)).1 = 0 ∧ (zk_fj zl_T (j + 89)).2.2.1 = (-2147483648) ∧ (zk_fj zl_T (j + 89)).2.2.2 = 2147483647 := by
  have h : ∀ j, j < 64 → (zk_fj zl_T (j + 89)).1 = 0 ∧ (zk_fj zl_T (j + 89)).2.2.1 = (-2147483648) ∧ (zk_fj zl_T (j + 89)).2.2.2 = 2147483647 := by decide +kernel
  exact fun {j} hjξ => h j hjξ
noncomputable def zf_per (V : Nat → Nat → Int) (npξ : Nat) (p1ξ : Int) (p2ξ : Int) : Int × (Nat → Nat → Int) := if 0 ≤ p1ξ ∧ p1ξ ≤ 9 then if 0 ≤ p2ξ ∧ p2ξ ≤ 7 then if ¬ (npξ : Int) = 6 then ((npξ : Int), (zf_stl (zp_set (zp_set (zp_set (zp_set (zp_set V 0 0 0) 3 (2000 + (3 * npξ + 11)) p1ξ) 3 (2000 + (3 * npξ + 12)) p2ξ) 3 (2000 + (3 * npξ + 13)) 0) 3 (2000 + 0) ((npξ : Int) + 1)) (npξ : Int)).2) else ((-5), (zT_tell (zp_set V 0 0 0) (-5))) else ((-1), (zT_tell (zp_set V 0 0 0) (-1))) else ((-1), (zT_tell (zp_set V 0 0 0) (-1)))
noncomputable def zK_per : zk_K := (zt_mn 191, prog_14_method_23_code, 4, (Option.some Jvm.ClassFile.FieldType.int), 1, 12, [(2, 13, 0, 0), (0, 0, (-2147483648), 2147483647), (0, 0, (-2147483648), 2147483647)], [(some (0, 0, (-2147483648), 2147483647), [])], zUE, (3, 180, 0, 0))
noncomputable def zφ_per (A : Nat → Nat) (V : Nat → Nat → Int) (npξ : Nat) : (Nat → Option Nat) → (Nat → Nat → Int) → List Int → Prop := fun P G ps => zMVr A V P G ∧ ps.getD 0 0 = (A 0 : Int) ∧ (∀ j, j < 5580 → -2147483648 ≤ V 3 (2000 + j) ∧ V 3 (2000 + j) ≤ 2147483647) ∧ V 3 (2000 + 0) = (npξ : Int) ∧ npξ ≤ 6
noncomputable def zψ_per (A : Nat → Nat) (V : Nat → Nat → Int) (npξ : Nat) : (Nat → Option Nat) → (Nat → Nat → Int) → List Int → (Nat → Option Nat) → (Nat → Nat → Int) → Int → Prop := fun P G ps P' G' rn => P' = P ∧ zMVr A (zf_per V npξ (ps.getD 1 0) (ps.getD 2 0)).2 P' G' ∧ rn = (zf_per V npξ (ps.getD 1 0) (ps.getD 2 0)).1
theorem zX_per {l : Launch} {w : zk_W} (hWξ : zh_W w) (A : Nat → Nat) (V : Nat → Nat → Int) (npξ : Nat) : zk_metX l w zt_dv zt_TB zK_per (zp_A (zφ_per A V npξ)) (zp_B (zψ_per A V npξ)) ∧ zk_cok w zt_TB zK_per := by
  refine zp_methX (cn := "WoundTownModel") zp_lkall hWξ (pl := 1594) rfl (by decide +kernel) (fun p e R s m args below meth c Q u hx hb hEξ hQξ hU5ξ heffξ hnLξ hokξ hφ => ?_)
  have hwξ := hWξ.1
  obtain ⟨p0ξ, p1ξ, p2ξ, hpsξ, tk0, tk1, tk2⟩ := zp_ps3 hokξ
  have hrmξ : zk_Kr (zk_ev (zt_types, zp_lk, zt_dv, [], [], zp_lc, zK_per)) = zk_Kr zK_per := rfl
  rw [hpsξ] at hφ ⊢
  have hφ : zMVr A V u.1 (zp_n u.2.1) ∧ p0ξ = (A 0 : Int) ∧ (∀ j, j < 5580 → -2147483648 ≤ V 3 (2000 + j) ∧ V 3 (2000 + j) ≤ 2147483647) ∧ V 3 (2000 + 0) = (npξ : Int) ∧ npξ ≤ 6 := hφ
  obtain ⟨⟨M, hMξ, hVξ, hSbξ⟩, rfl, hRξ, hnpξ, hnp6ξ⟩ := hφ
  have hi1ξ := zp_int tk1
  have hi2ξ := zp_int tk2
  show zp_J p l e R s m args below meth c Q w u [] 0 [(0, 2, (A 0 : Int)), (1, 0, p1ξ), (2, 0, p2ξ)] [] u.1 (zp_n u.2.1)
  refine zp_load (pc := 0) hx hb (zd_X12_person (0, .aload_n 0, 1, 0, []) (List.mem_of_getElem? (i := 0) rfl)) rfl (j := 0) rfl ?_
  refine zp_const (pc := 1) hx hb (zd_X12_person (1, .iconst 0, 1, 0, []) (List.mem_of_getElem? (i := 1) rfl)) rfl rfl ?_
  refine zp_putf (pc := 2) hx hb hEξ hwξ heffξ (zd_X12_person (2, .putfield 161, 3, 0, []) (List.mem_of_getElem? (i := 2) rfl)) (j := 18) rfl rfl rfl (zM_P hMξ (List.mem_of_getElem? (i := 0) rfl)) (zp_o0 (by decide) (by decide) (by decide) (by decide)) ?_
  refine zp_load (pc := 5) hx hb (zd_X12_person (5, .iload_n 1, 1, 0, []) (List.mem_of_getElem? (i := 3) rfl)) rfl (j := 1) rfl ?_
  refine zp_i2l (pc := 6) hx hb (zd_X12_person (6, .i2l, 1, 0, []) (List.mem_of_getElem? (i := 4) rfl)) ?_
  refine zp_const (pc := 7) hx hb (zd_X12_person (7, .lconst 0, 1, 0, []) (List.mem_of_getElem? (i := 5) rfl)) rfl rfl ?_
  refine zp_ldc2 (pc := 8) hx hb hEξ (zd_X12_person (8, .ldc2_w 199, 3, 0, []) (List.mem_of_getElem? (i := 6) rfl)) (j := 84) rfl ?_
  refine zp_call (pc := 11) (how := 1) (idx := 181) (mi := 186) (S := []) hx hb hEξ hwξ heffξ hrmξ (zX_in2 hWξ) rfl (j := 2) rfl rfl (by decide +kernel) (zd_X12_person (11, .invokestatic 181, 3, 0, []) (List.mem_of_getElem? (i := 7) rfl)) [p1ξ, 0, 9] rfl ⟨zp_o1 (by first | assumption | exact zp_r1 (by omega) (by omega)), zp_o1 (by first | assumption | exact zp_r1 (by omega) (by omega)), zp_o1 (by first | assumption | exact zp_r1 (by omega) (by omega)), trivial⟩ (Nat.le_of_ble_eq_true rfl) trivial (fun al halξ rnn81ξ Pn81 Gn81 hextn81ξ hfrn81ξ hokn81ξ hcsn81ξ hpsin81ξ => ?_)
  obtain rfl := List.mem_singleton.mp halξ
  have hrn81ξ := zp_int (hokn81ξ _ rfl).1
  obtain ⟨hPen81ξ, hGen81ξ, htn81ξ⟩ := hpsin81ξ
  rw [hPen81ξ, hGen81ξ]
  clear hextn81ξ hfrn81ξ hcsn81ξ hPen81ξ hGen81ξ
  have htn81ξ : rnn81ξ = 1 ↔ 0 ≤ p1ξ ∧ p1ξ ≤ 9 := htn81ξ
  refine zp_if (pc := 14) (tgt := 29) hx hb (zd_X12_person (14, .ifCond .eq 15, 3, 0, []) (List.mem_of_getElem? (i := 8) rfl)) rfl (fun (hc82ξ : rnn81ξ = 0) => ?_) (fun (hc82ξ : ¬ (rnn81ξ = 0)) => ?_)
  · have hbf83ξ : ¬ (0 ≤ p1ξ ∧ p1ξ ≤ 9) := fun h9ξ => absurd ((Iff.mpr htn81ξ) h9ξ) (by omega)
    refine zp_load (pc := 29) hx hb (zd_X12_person (29, .aload_n 0, 1, 0, []) (List.mem_of_getElem? (i := 15) rfl)) rfl (j := 0) rfl ?_
    refine zp_const (pc := 30) hx hb (zd_X12_person (30, .iconst (-1), 1, 0, []) (List.mem_of_getElem? (i := 16) rfl)) rfl rfl ?_
    refine zp_call (pc := 31) (how := 0) (idx := 170) (mi := 183) (S := []) hx hb hEξ hwξ heffξ hrmξ (zX_tll hWξ A (zp_set V 0 0 0)) rfl (j := 0) rfl rfl (by decide +kernel) (zd_X12_person (31, .invokevirtual 170, 3, 0, []) (List.mem_of_getElem? (i := 17) rfl)) [(A 0 : Int), (-1)] rfl ⟨zp_o2 (zM_P hMξ (List.mem_of_getElem? (i := 0) rfl)), zp_o0 (by omega) (by omega) (by omega) (by omega), trivial⟩ (Nat.le_of_ble_eq_true rfl) ⟨⟨(zp_set M 0 0 0), (zM_set hMξ (List.mem_of_getElem? (i := 0) rfl) (by decide)), (zV_set hVξ), (zSb_set (by decide) hSbξ)⟩, rfl, (show -6 ≤ (-1) by omega)⟩ (fun al halξ rnt85ξ Pt85 Gt85 hextt85ξ hfrt85ξ hokt85ξ hcst85ξ hpsit85ξ => ?_)
    obtain rfl := List.mem_singleton.mp halξ
    have hrt85ξ := zp_int (hokt85ξ _ rfl).1
    obtain ⟨hPet85ξ, ⟨Mt85, hMt85ξ, hVt85ξ, hSbt85ξ⟩, htt85ξ⟩ := hpsit85ξ
    subst hPet85ξ
    clear hextt85ξ hfrt85ξ hcst85ξ hokt85ξ
    have hVt85ξ : ∀ o k, zNs o k → Mt85 o k = (zT_tell (zp_set V 0 0 0) (-1)) o k := hVt85ξ
    have htt85ξ : rnt85ξ = (-1) := htt85ξ
    have htt85ξ := (Eq.symm htt85ξ)
    subst htt85ξ
    refine zp_iret (pc := 34) (n := (-1)) hx hb hEξ hQξ hU5ξ rfl (by decide) (zd_X12_person (34, .ireturn, 1, 0, []) (List.mem_of_getElem? (i := 18) rfl)) (j := 0) rfl (zp_o0 (by omega) (by omega) (by omega) (by omega)) ?_
    rw [hpsξ]
    refine ⟨rfl, ?_⟩
    have hffξ : zf_per V npξ p1ξ p2ξ = ((-1), (zT_tell (zp_set V 0 0 0) (-1))) := by
      unfold zf_per
      rw [if_neg (fun h9ξ => absurd ((Iff.mpr htn81ξ) h9ξ) (by omega))]
    show zMVr A (zf_per V npξ p1ξ p2ξ).2 u.1 Gt85 ∧ (-1) = (zf_per V npξ p1ξ p2ξ).1
    rw [hffξ]
    exact ⟨⟨Mt85, hMt85ξ, hVt85ξ, hSbt85ξ⟩, rfl⟩
  · have hbt84ξ := (Iff.mp htn81ξ) (by omega)
    refine zp_load (pc := 17) hx hb (zd_X12_person (17, .iload_n 2, 1, 0, []) (List.mem_of_getElem? (i := 9) rfl)) rfl (j := 2) rfl ?_
    refine zp_i2l (pc := 18) hx hb (zd_X12_person (18, .i2l, 1, 0, []) (List.mem_of_getElem? (i := 10) rfl)) ?_
    refine zp_const (pc := 19) hx hb (zd_X12_person (19, .lconst 0, 1, 0, []) (List.mem_of_getElem? (i := 11) rfl)) rfl rfl ?_
    refine zp_ldc2 (pc := 20) hx hb hEξ (zd_X12_person (20, .ldc2_w 192, 3, 0, []) (List.mem_of_getElem? (i := 12) rfl)) (j := 82) rfl ?_
    refine zp_call (pc := 23) (how := 1) (idx := 181) (mi := 186) (S := []) hx hb hEξ hwξ heffξ hrmξ (zX_in2 hWξ) rfl (j := 2) rfl rfl (by decide +kernel) (zd_X12_person (23, .invokestatic 181, 3, 0, []) (List.mem_of_getElem? (i := 13) rfl)) [p2ξ, 0, 7] rfl ⟨zp_o1 (by first | assumption | exact zp_r1 (by omega) (by omega)), zp_o1 (by first | assumption | exact zp_r1 (by omega) (by omega)), zp_o1 (by first | assumption | exact zp_r1 (by omega) (by omega)), trivial⟩ (Nat.le_of_ble_eq_true rfl) trivial (fun al halξ rnn86ξ Pn86 Gn86 hextn86ξ hfrn86ξ hokn86ξ hcsn86ξ hpsin86ξ => ?_)
    obtain rfl := List.mem_singleton.mp halξ
    have hrn86ξ := zp_int (hokn86ξ _ rfl).1
    obtain ⟨hPen86ξ, hGen86ξ, htn86ξ⟩ := hpsin86ξ
    rw [hPen86ξ, hGen86ξ]
    clear hextn86ξ hfrn86ξ hcsn86ξ hPen86ξ hGen86ξ
    have htn86ξ : rnn86ξ = 1 ↔ 0 ≤ p2ξ ∧ p2ξ ≤ 7 := htn86ξ
    refine zp_if (pc := 26) (tgt := 35) hx hb (zd_X12_person (26, .ifCond .ne 9, 3, 0, []) (List.mem_of_getElem? (i := 14) rfl)) rfl (fun (hc87ξ : ¬ rnn86ξ = 0) => ?_) (fun (hc87ξ : ¬ (¬ rnn86ξ = 0)) => ?_)
    · have hbt88ξ := (Iff.mp htn86ξ) (by omega)
      refine zp_load (pc := 35) hx hb (zd_X12_person (35, .aload_n 0, 1, 0, []) (List.mem_of_getElem? (i := 19) rfl)) rfl (j := 0) rfl ?_
      refine zp_getf (n := (A 3 : Int)) (pc := 36) hx hb hEξ hwξ (zd_X12_person (36, .getfield 13, 3, 0, []) (List.mem_of_getElem? (i := 20) rfl)) (j := 21) rfl rfl rfl (zM_P hMξ (List.mem_of_getElem? (i := 0) rfl)) ((zp_set_ne (Or.inr (by decide))).trans (((zM_G hMξ (List.mem_of_getElem? (i := 0) rfl) 3).trans (zM_F hMξ (List.mem_of_getElem? (i := 1) rfl))))) ?_
      refine zp_const (pc := 39) hx hb (zd_X12_person (39, .iconst 0, 1, 0, []) (List.mem_of_getElem? (i := 21) rfl)) rfl rfl ?_
      refine zp_ialdT (j := 0) (v := (npξ : Int)) (pc := 40) hx hb hwξ (zd_X12_person (40, .iaload, 1, 0, []) (List.mem_of_getElem? (i := 22) rfl)) zl_T59 rfl (zl_kd 0) (zM_P hMξ (List.mem_of_getElem? (i := 2) rfl)) (by omega) (show 0 < 5580 by omega) ((zp_set_ne (Or.inl (zM_ne hMξ (List.mem_of_getElem? (i := 2) rfl) (List.mem_of_getElem? (i := 0) rfl) (by decide)))).trans ((((zM_G hMξ (List.mem_of_getElem? (i := 2) rfl) (2000 + 0)).trans (hVξ 3 (2000 + 0) (Or.inl (by decide)))).trans hnpξ))) (fun _ => ?_)
      refine zp_store (L' := [(3, 0, (npξ : Int)), (0, 2, (A 0 : Int)), (1, 0, p1ξ), (2, 0, p2ξ)]) (pc := 41) hx hb hnLξ (zd_X12_person (41, .istore_n 3, 1, 0, []) (List.mem_of_getElem? (i := 23) rfl)) rfl rfl rfl ?_
      refine zp_load (pc := 42) hx hb (zd_X12_person (42, .iload_n 3, 1, 0, []) (List.mem_of_getElem? (i := 24) rfl)) rfl (j := 0) rfl ?_
      refine zp_const (pc := 43) hx hb (zd_X12_person (43, .bipush 6, 2, 0, []) (List.mem_of_getElem? (i := 25) rfl)) rfl rfl ?_
      refine zp_icmp (pc := 45) (tgt := 55) hx hb (zd_X12_person (45, .if_icmp .ne 10, 3, 0, []) (List.mem_of_getElem? (i := 26) rfl)) rfl (fun (hc91ξ : ¬ (npξ : Int) = 6) => ?_) (fun (hc91ξ : ¬ (¬ (npξ : Int) = 6)) => ?_)
      · refine zp_load (pc := 55) hx hb (zd_X12_person (55, .aload_n 0, 1, 0, []) (List.mem_of_getElem? (i := 31) rfl)) rfl (j := 1) rfl ?_
        refine zp_getf (n := (A 3 : Int)) (pc := 56) hx hb hEξ hwξ (zd_X12_person (56, .getfield 13, 3, 0, []) (List.mem_of_getElem? (i := 32) rfl)) (j := 21) rfl rfl rfl (zM_P hMξ (List.mem_of_getElem? (i := 0) rfl)) ((zp_set_ne (Or.inr (by decide))).trans (((zM_G hMξ (List.mem_of_getElem? (i := 0) rfl) 3).trans (zM_F hMξ (List.mem_of_getElem? (i := 1) rfl))))) ?_
        refine zp_const (pc := 59) hx hb (zd_X12_person (59, .bipush 11, 2, 0, []) (List.mem_of_getElem? (i := 33) rfl)) rfl rfl ?_
        refine zp_const (pc := 61) hx hb (zd_X12_person (61, .iconst 3, 1, 0, []) (List.mem_of_getElem? (i := 34) rfl)) rfl rfl ?_
        refine zp_load (pc := 62) hx hb (zd_X12_person (62, .iload_n 3, 1, 0, []) (List.mem_of_getElem? (i := 35) rfl)) rfl (j := 0) rfl ?_
        refine zp_mul (n := (3 * (npξ : Int))) (pc := 63) hx hb (zd_X12_person (63, .imul, 1, 0, []) (List.mem_of_getElem? (i := 36) rfl)) (by omega) (zp_r0 (by omega) (by omega)) ?_
        refine zp_add (n := (3 * (npξ : Int) + 11)) (pc := 64) hx hb (zd_X12_person (64, .iadd, 1, 0, []) (List.mem_of_getElem? (i := 37) rfl)) (by omega) (zp_r0 (by omega) (by omega)) ?_
        refine zp_load (pc := 65) hx hb (zd_X12_person (65, .iload_n 1, 1, 0, []) (List.mem_of_getElem? (i := 38) rfl)) rfl (j := 2) rfl ?_
        refine zp_iastR (j := (3 * npξ + 11)) (pc := 66) hx hb hwξ heffξ (zd_X12_person (66, .iastore, 1, 0, []) (List.mem_of_getElem? (i := 39) rfl)) (zM_P hMξ (List.mem_of_getElem? (i := 2) rfl)) (by omega) (show (3 * npξ + 11) < 180 by omega) (zr_st (lo := (-2147483648)) (hi := 2147483647) (zr_o npξ (by omega)) (by omega) (by omega) (by omega) (by omega)) ⟨1002, rfl, zp_1002 (by omega)⟩ ?_
        refine zp_load (pc := 67) hx hb (zd_X12_person (67, .aload_n 0, 1, 0, []) (List.mem_of_getElem? (i := 40) rfl)) rfl (j := 1) rfl ?_
        refine zp_getf (n := (A 3 : Int)) (pc := 68) hx hb hEξ hwξ (zd_X12_person (68, .getfield 13, 3, 0, []) (List.mem_of_getElem? (i := 41) rfl)) (j := 21) rfl rfl rfl (zM_P hMξ (List.mem_of_getElem? (i := 0) rfl)) ((zp_set_ne (Or.inl (zM_ne hMξ (List.mem_of_getElem? (i := 0) rfl) (List.mem_of_getElem? (i := 2) rfl) (by decide)))).trans ((zp_set_ne (Or.inr (by decide))).trans (((zM_G hMξ (List.mem_of_getElem? (i := 0) rfl) 3).trans (zM_F hMξ (List.mem_of_getElem? (i := 1) rfl)))))) ?_
        refine zp_const (pc := 71) hx hb (zd_X12_person (71, .bipush 11, 2, 0, []) (List.mem_of_getElem? (i := 42) rfl)) rfl rfl ?_
        refine zp_const (pc := 73) hx hb (zd_X12_person (73, .iconst 3, 1, 0, []) (List.mem_of_getElem? (i := 43) rfl)) rfl rfl ?_
        refine zp_load (pc := 74) hx hb (zd_X12_person (74, .iload_n 3, 1, 0, []) (List.mem_of_getElem? (i := 44) rfl)) rfl (j := 0) rfl ?_
        refine zp_mul (n := (3 * (npξ : Int))) (pc := 75) hx hb (zd_X12_person (75, .imul, 1, 0, []) (List.mem_of_getElem? (i := 45) rfl)) (by omega) (zp_r0 (by omega) (by omega)) ?_
        refine zp_add (n := (3 * (npξ : Int) + 11)) (pc := 76) hx hb (zd_X12_person (76, .iadd, 1, 0, []) (List.mem_of_getElem? (i := 46) rfl)) (by omega) (zp_r0 (by omega) (by omega)) ?_
        refine zp_const (pc := 77) hx hb (zd_X12_person (77, .iconst 1, 1, 0, []) (List.mem_of_getElem? (i := 47) rfl)) rfl rfl ?_
        refine zp_add (n := (3 * (npξ : Int) + 12)) (pc := 78) hx hb (zd_X12_person (78, .iadd, 1, 0, []) (List.mem_of_getElem? (i := 48) rfl)) (by omega) (zp_r0 (by omega) (by omega)) ?_
        refine zp_load (pc := 79) hx hb (zd_X12_person (79, .iload_n 2, 1, 0, []) (List.mem_of_getElem? (i := 49) rfl)) rfl (j := 3) rfl ?_
        refine zp_iastR (j := (3 * npξ + 12)) (pc := 80) hx hb hwξ heffξ (zd_X12_person (80, .iastore, 1, 0, []) (List.mem_of_getElem? (i := 50) rfl)) (zM_P hMξ (List.mem_of_getElem? (i := 2) rfl)) (by omega) (show (3 * npξ + 12) < 180 by omega) (zr_st (lo := (-2147483648)) (hi := 2147483647) (zr_p npξ (by omega)) (by omega) (by omega) (by omega) (by omega)) ⟨1002, rfl, zp_1002 (by omega)⟩ ?_
        refine zp_load (pc := 81) hx hb (zd_X12_person (81, .aload_n 0, 1, 0, []) (List.mem_of_getElem? (i := 51) rfl)) rfl (j := 1) rfl ?_
        refine zp_getf (n := (A 3 : Int)) (pc := 82) hx hb hEξ hwξ (zd_X12_person (82, .getfield 13, 3, 0, []) (List.mem_of_getElem? (i := 52) rfl)) (j := 21) rfl rfl rfl (zM_P hMξ (List.mem_of_getElem? (i := 0) rfl)) ((zp_set_ne (Or.inl (zM_ne hMξ (List.mem_of_getElem? (i := 0) rfl) (List.mem_of_getElem? (i := 2) rfl) (by decide)))).trans ((zp_set_ne (Or.inl (zM_ne hMξ (List.mem_of_getElem? (i := 0) rfl) (List.mem_of_getElem? (i := 2) rfl) (by decide)))).trans ((zp_set_ne (Or.inr (by decide))).trans (((zM_G hMξ (List.mem_of_getElem? (i := 0) rfl) 3).trans (zM_F hMξ (List.mem_of_getElem? (i := 1) rfl))))))) ?_
        refine zp_const (pc := 85) hx hb (zd_X12_person (85, .bipush 11, 2, 0, []) (List.mem_of_getElem? (i := 53) rfl)) rfl rfl ?_
        refine zp_const (pc := 87) hx hb (zd_X12_person (87, .iconst 3, 1, 0, []) (List.mem_of_getElem? (i := 54) rfl)) rfl rfl ?_
        refine zp_load (pc := 88) hx hb (zd_X12_person (88, .iload_n 3, 1, 0, []) (List.mem_of_getElem? (i := 55) rfl)) rfl (j := 0) rfl ?_
        refine zp_mul (n := (3 * (npξ : Int))) (pc := 89) hx hb (zd_X12_person (89, .imul, 1, 0, []) (List.mem_of_getElem? (i := 56) rfl)) (by omega) (zp_r0 (by omega) (by omega)) ?_
        refine zp_add (n := (3 * (npξ : Int) + 11)) (pc := 90) hx hb (zd_X12_person (90, .iadd, 1, 0, []) (List.mem_of_getElem? (i := 57) rfl)) (by omega) (zp_r0 (by omega) (by omega)) ?_
        refine zp_const (pc := 91) hx hb (zd_X12_person (91, .iconst 2, 1, 0, []) (List.mem_of_getElem? (i := 58) rfl)) rfl rfl ?_
        refine zp_add (n := (3 * (npξ : Int) + 13)) (pc := 92) hx hb (zd_X12_person (92, .iadd, 1, 0, []) (List.mem_of_getElem? (i := 59) rfl)) (by omega) (zp_r0 (by omega) (by omega)) ?_
        refine zp_const (pc := 93) hx hb (zd_X12_person (93, .iconst 0, 1, 0, []) (List.mem_of_getElem? (i := 60) rfl)) rfl rfl ?_
        refine zp_iastR (j := (3 * npξ + 13)) (pc := 94) hx hb hwξ heffξ (zd_X12_person (94, .iastore, 1, 0, []) (List.mem_of_getElem? (i := 61) rfl)) (zM_P hMξ (List.mem_of_getElem? (i := 2) rfl)) (by omega) (show (3 * npξ + 13) < 180 by omega) (zr_st (lo := 0) (hi := 9) (zr_l npξ (by omega)) (by omega) (by omega) (by omega) (by omega)) ⟨1002, rfl, zp_1002 (by omega)⟩ ?_
        refine zp_load (pc := 95) hx hb (zd_X12_person (95, .aload_n 0, 1, 0, []) (List.mem_of_getElem? (i := 62) rfl)) rfl (j := 1) rfl ?_
        refine zp_getf (n := (A 3 : Int)) (pc := 96) hx hb hEξ hwξ (zd_X12_person (96, .getfield 13, 3, 0, []) (List.mem_of_getElem? (i := 63) rfl)) (j := 21) rfl rfl rfl (zM_P hMξ (List.mem_of_getElem? (i := 0) rfl)) ((zp_set_ne (Or.inl (zM_ne hMξ (List.mem_of_getElem? (i := 0) rfl) (List.mem_of_getElem? (i := 2) rfl) (by decide)))).trans ((zp_set_ne (Or.inl (zM_ne hMξ (List.mem_of_getElem? (i := 0) rfl) (List.mem_of_getElem? (i := 2) rfl) (by decide)))).trans ((zp_set_ne (Or.inl (zM_ne hMξ (List.mem_of_getElem? (i := 0) rfl) (List.mem_of_getElem? (i := 2) rfl) (by decide)))).trans ((zp_set_ne (Or.inr (by decide))).trans (((zM_G hMξ (List.mem_of_getElem? (i := 0) rfl) 3).trans (zM_F hMξ (List.mem_of_getElem? (i := 1) rfl)))))))) ?_
        refine zp_const (pc := 99) hx hb (zd_X12_person (99, .iconst 0, 1, 0, []) (List.mem_of_getElem? (i := 64) rfl)) rfl rfl ?_
        refine zp_dup2 (pc := 100) hx hb (zd_X12_person (100, .dup2, 1, 0, []) (List.mem_of_getElem? (i := 65) rfl)) (show (0 : Nat) ≠ 1 by decide) (show (2 : Nat) ≠ 1 by decide) ?_
        refine zp_ialdT (j := 0) (v := (npξ : Int)) (pc := 101) hx hb hwξ (zd_X12_person (101, .iaload, 1, 0, []) (List.mem_of_getElem? (i := 66) rfl)) zl_T59 rfl (zl_kd 0) (zM_P hMξ (List.mem_of_getElem? (i := 2) rfl)) (by omega) (show 0 < 5580 by omega) ((zp_set_ne (Or.inr (by omega))).trans ((zp_set_ne (Or.inr (by omega))).trans ((zp_set_ne (Or.inr (by omega))).trans ((zp_set_ne (Or.inl (zM_ne hMξ (List.mem_of_getElem? (i := 2) rfl) (List.mem_of_getElem? (i := 0) rfl) (by decide)))).trans ((((zM_G hMξ (List.mem_of_getElem? (i := 2) rfl) (2000 + 0)).trans (hVξ 3 (2000 + 0) (Or.inl (by decide)))).trans hnpξ)))))) (fun _ => ?_)
        refine zp_const (pc := 102) hx hb (zd_X12_person (102, .iconst 1, 1, 0, []) (List.mem_of_getElem? (i := 67) rfl)) rfl rfl ?_
        refine zp_add (n := ((npξ : Int) + 1)) (pc := 103) hx hb (zd_X12_person (103, .iadd, 1, 0, []) (List.mem_of_getElem? (i := 68) rfl)) (by omega) (zp_r0 (by omega) (by omega)) ?_
        refine zp_iastR (j := 0) (pc := 104) hx hb hwξ heffξ (zd_X12_person (104, .iastore, 1, 0, []) (List.mem_of_getElem? (i := 69) rfl)) (zM_P hMξ (List.mem_of_getElem? (i := 2) rfl)) (by omega) (show 0 < 180 by omega) (zr_st (lo := 0) (hi := 6) ⟨rfl, rfl, rfl⟩ (by omega) (by omega) (by omega) (by omega)) ⟨1002, rfl, zp_1002 (by omega)⟩ ?_
        refine zp_load (pc := 105) hx hb (zd_X12_person (105, .aload_n 0, 1, 0, []) (List.mem_of_getElem? (i := 70) rfl)) rfl (j := 1) rfl ?_
        refine zp_load (pc := 106) hx hb (zd_X12_person (106, .iload_n 3, 1, 0, []) (List.mem_of_getElem? (i := 71) rfl)) rfl (j := 0) rfl ?_
        refine zp_call (pc := 107) (how := 0) (idx := 185) (mi := 188) (S := []) hx hb hEξ hwξ heffξ hrmξ (zX_stl hWξ A (zp_set (zp_set (zp_set (zp_set (zp_set V 0 0 0) 3 (2000 + (3 * npξ + 11)) p1ξ) 3 (2000 + (3 * npξ + 12)) p2ξ) 3 (2000 + (3 * npξ + 13)) 0) 3 (2000 + 0) ((npξ : Int) + 1))) rfl (j := 3) rfl rfl (by decide +kernel) (zd_X12_person (107, .invokevirtual 185, 3, 0, []) (List.mem_of_getElem? (i := 72) rfl)) [(A 0 : Int), (npξ : Int)] rfl ⟨zp_o2 (zM_P hMξ (List.mem_of_getElem? (i := 0) rfl)), zp_o0 (by omega) (by omega) (by omega) (by omega), trivial⟩ (Nat.le_of_ble_eq_true rfl) ⟨⟨(zp_set (zp_set (zp_set (zp_set (zp_set M 0 0 0) 3 (2000 + (3 * npξ + 11)) p1ξ) 3 (2000 + (3 * npξ + 12)) p2ξ) 3 (2000 + (3 * npξ + 13)) 0) 3 (2000 + 0) ((npξ : Int) + 1)), (zM_setE (zM_setE (zM_setE (zM_setE (zM_set hMξ (List.mem_of_getElem? (i := 0) rfl) (by decide)) (List.mem_of_getElem? (i := 2) rfl)) (List.mem_of_getElem? (i := 2) rfl)) (List.mem_of_getElem? (i := 2) rfl)) (List.mem_of_getElem? (i := 2) rfl)), (zV_set (zV_set (zV_set (zV_set (zV_set hVξ))))), (zSb_set (by decide) (zSb_set (by decide) (zSb_set (by decide) (zSb_set (by decide) (zSb_set (by decide) hSbξ)))))⟩, rfl, (show -6 ≤ (npξ : Int) by omega)⟩ (fun al halξ rnt93ξ Pt93 Gt93 hextt93ξ hfrt93ξ hokt93ξ hcst93ξ hpsit93ξ => ?_)
        obtain rfl := List.mem_singleton.mp halξ
        have hrt93ξ := zp_int (hokt93ξ _ rfl).1
        obtain ⟨hPet93ξ, ⟨Mt93, hMt93ξ, hVt93ξ, hSbt93ξ⟩, htt93ξ⟩ := hpsit93ξ
        subst hPet93ξ
        clear hextt93ξ hfrt93ξ hcst93ξ hokt93ξ
        have hVt93ξ : ∀ o k, zNs o k → Mt93 o k = (zf_stl (zp_set (zp_set (zp_set (zp_set (zp_set V 0 0 0) 3 (2000 + (3 * npξ + 11)) p1ξ) 3 (2000 + (3 * npξ + 12)) p2ξ) 3 (2000 + (3 * npξ + 13)) 0) 3 (2000 + 0) ((npξ : Int) + 1)) (npξ : Int)).2 o k := hVt93ξ
        have htt93ξ : rnt93ξ = (npξ : Int) := Eq.trans htt93ξ (zf_stl1 _ _)
        have htt93ξ := (Eq.symm htt93ξ)
        subst htt93ξ
        refine zp_iret (pc := 110) (n := (npξ : Int)) hx hb hEξ hQξ hU5ξ rfl (by decide) (zd_X12_person (110, .ireturn, 1, 0, []) (List.mem_of_getElem? (i := 73) rfl)) (j := 0) rfl (zp_o0 (by omega) (by omega) (by omega) (by omega)) ?_
        rw [hpsξ]
        refine ⟨rfl, ?_⟩
        have hffξ : zf_per V npξ p1ξ p2ξ = ((npξ : Int), (zf_stl (zp_set (zp_set (zp_set (zp_set (zp_set V 0 0 0) 3 (2000 + (3 * npξ + 11)) p1ξ) 3 (2000 + (3 * npξ + 12)) p2ξ) 3 (2000 + (3 * npξ + 13)) 0) 3 (2000 + 0) ((npξ : Int) + 1)) (npξ : Int)).2) := by
          unfold zf_per
          rw [if_pos ((Iff.mp htn81ξ) (by omega)), if_pos ((Iff.mp htn86ξ) (by omega)), if_pos hc91ξ]
        show zMVr A (zf_per V npξ p1ξ p2ξ).2 u.1 Gt93 ∧ (npξ : Int) = (zf_per V npξ p1ξ p2ξ).1
        rw [hffξ]
        exact ⟨⟨Mt93, hMt93ξ, hVt93ξ, hSbt93ξ⟩, rfl⟩
      · refine zp_load (pc := 48) hx hb (zd_X12_person (48, .aload_n 0, 1, 0, []) (List.mem_of_getElem? (i := 27) rfl)) rfl (j := 1) rfl ?_
        refine zp_const (pc := 49) hx hb (zd_X12_person (49, .bipush (-5), 2, 0, []) (List.mem_of_getElem? (i := 28) rfl)) rfl rfl ?_
        refine zp_call (pc := 51) (how := 0) (idx := 170) (mi := 183) (S := []) hx hb hEξ hwξ heffξ hrmξ (zX_tll hWξ A (zp_set V 0 0 0)) rfl (j := 0) rfl rfl (by decide +kernel) (zd_X12_person (51, .invokevirtual 170, 3, 0, []) (List.mem_of_getElem? (i := 29) rfl)) [(A 0 : Int), (-5)] rfl ⟨zp_o2 (zM_P hMξ (List.mem_of_getElem? (i := 0) rfl)), zp_o0 (by omega) (by omega) (by omega) (by omega), trivial⟩ (Nat.le_of_ble_eq_true rfl) ⟨⟨(zp_set M 0 0 0), (zM_set hMξ (List.mem_of_getElem? (i := 0) rfl) (by decide)), (zV_set hVξ), (zSb_set (by decide) hSbξ)⟩, rfl, (show -6 ≤ (-5) by omega)⟩ (fun al halξ rnt94ξ Pt94 Gt94 hextt94ξ hfrt94ξ hokt94ξ hcst94ξ hpsit94ξ => ?_)
        obtain rfl := List.mem_singleton.mp halξ
        have hrt94ξ := zp_int (hokt94ξ _ rfl).1
        obtain ⟨hPet94ξ, ⟨Mt94, hMt94ξ, hVt94ξ, hSbt94ξ⟩, htt94ξ⟩ := hpsit94ξ
        subst hPet94ξ
        clear hextt94ξ hfrt94ξ hcst94ξ hokt94ξ
        have hVt94ξ : ∀ o k, zNs o k → Mt94 o k = (zT_tell (zp_set V 0 0 0) (-5)) o k := hVt94ξ
        have htt94ξ : rnt94ξ = (-5) := htt94ξ
        have htt94ξ := (Eq.symm htt94ξ)
        subst htt94ξ
        refine zp_iret (pc := 54) (n := (-5)) hx hb hEξ hQξ hU5ξ rfl (by decide) (zd_X12_person (54, .ireturn, 1, 0, []) (List.mem_of_getElem? (i := 30) rfl)) (j := 0) rfl (zp_o0 (by omega) (by omega) (by omega) (by omega)) ?_
        rw [hpsξ]
        refine ⟨rfl, ?_⟩
        have hffξ : zf_per V npξ p1ξ p2ξ = ((-5), (zT_tell (zp_set V 0 0 0) (-5))) := by
          unfold zf_per
          rw [if_pos ((Iff.mp htn81ξ) (by omega)), if_pos ((Iff.mp htn86ξ) (by omega)), if_neg hc91ξ]
        show zMVr A (zf_per V npξ p1ξ p2ξ).2 u.1 Gt94 ∧ (-5) = (zf_per V npξ p1ξ p2ξ).1
        rw [hffξ]
        exact ⟨⟨Mt94, hMt94ξ, hVt94ξ, hSbt94ξ⟩, rfl⟩
    · have hbf89ξ : ¬ (0 ≤ p2ξ ∧ p2ξ ≤ 7) := fun h9ξ => absurd ((Iff.mpr htn86ξ) h9ξ) (by omega)
      refine zp_load (pc := 29) hx hb (zd_X12_person (29, .aload_n 0, 1, 0, []) (List.mem_of_getElem? (i := 15) rfl)) rfl (j := 0) rfl ?_
      refine zp_const (pc := 30) hx hb (zd_X12_person (30, .iconst (-1), 1, 0, []) (List.mem_of_getElem? (i := 16) rfl)) rfl rfl ?_
      refine zp_call (pc := 31) (how := 0) (idx := 170) (mi := 183) (S := []) hx hb hEξ hwξ heffξ hrmξ (zX_tll hWξ A (zp_set V 0 0 0)) rfl (j := 0) rfl rfl (by decide +kernel) (zd_X12_person (31, .invokevirtual 170, 3, 0, []) (List.mem_of_getElem? (i := 17) rfl)) [(A 0 : Int), (-1)] rfl ⟨zp_o2 (zM_P hMξ (List.mem_of_getElem? (i := 0) rfl)), zp_o0 (by omega) (by omega) (by omega) (by omega), trivial⟩ (Nat.le_of_ble_eq_true rfl) ⟨⟨(zp_set M 0 0 0), (zM_set hMξ (List.mem_of_getElem? (i := 0) rfl) (by decide)), (zV_set hVξ), (zSb_set (by decide) hSbξ)⟩, rfl, (show -6 ≤ (-1) by omega)⟩ (fun al halξ rnt95ξ Pt95 Gt95 hextt95ξ hfrt95ξ hokt95ξ hcst95ξ hpsit95ξ => ?_)
      obtain rfl := List.mem_singleton.mp halξ
      have hrt95ξ := zp_int (hokt95ξ _ rfl).1
      obtain ⟨hPet95ξ, ⟨Mt95, hMt95ξ, hVt95ξ, hSbt95ξ⟩, htt95ξ⟩ := hpsit95ξ
      subst hPet95ξ
      clear hextt95ξ hfrt95ξ hcst95ξ hokt95ξ
      have hVt95ξ : ∀ o k, zNs o k → Mt95 o k = (zT_tell (zp_set V 0 0 0) (-1)) o k := hVt95ξ
      have htt95ξ : rnt95ξ = (-1) := htt95ξ
      have htt95ξ := (Eq.symm htt95ξ)
      subst htt95ξ
      refine zp_iret (pc := 34) (n := (-1)) hx hb hEξ hQξ hU5ξ rfl (by decide) (zd_X12_person (34, .ireturn, 1, 0, []) (List.mem_of_getElem? (i := 18) rfl)) (j := 0) rfl (zp_o0 (by omega) (by omega) (by omega) (by omega)) ?_
      rw [hpsξ]
      refine ⟨rfl, ?_⟩
      have hffξ : zf_per V npξ p1ξ p2ξ = ((-1), (zT_tell (zp_set V 0 0 0) (-1))) := by
        unfold zf_per
        rw [if_pos ((Iff.mp htn81ξ) (by omega)), if_neg (fun h9ξ => absurd ((Iff.mpr htn86ξ) h9ξ) (by omega))]
      show zMVr A (zf_per V npξ p1ξ p2ξ).2 u.1 Gt95 ∧ (-1) = (zf_per V npξ p1ξ p2ξ).1
      rw [hffξ]
      exact ⟨⟨Mt95, hMt95ξ, hVt95ξ, hSbt95ξ⟩, rfl⟩
noncomputable def zf_oil (V : Nat → Nat → Int) (npξ : Nat) (p1ξ : Int) (p2ξ : Int) : Int × (Nat → Nat → Int) := if 0 ≤ p2ξ ∧ p2ξ ≤ 9 then if 0 ≤ p1ξ ∧ p1ξ < (npξ : Int) then ((V 3 (2000 + (3 * p1ξ.toNat + 11))), (zp_set (zp_set (zp_set (zp_set V 0 0 0) 0 8 0) 3 (2000 + (3 * p1ξ.toNat + 11)) p2ξ) 0 1 0)) else ((-2), (zT_tell (zp_set V 0 0 0) (-2))) else ((-1), (zT_tell (zp_set V 0 0 0) (-1)))
noncomputable def zK_oil : zk_K := (zt_mn 192, prog_14_method_24_code, 3, (Option.some Jvm.ClassFile.FieldType.int), 1, 12, [(2, 13, 0, 0), (0, 0, (-2147483648), 2147483647), (0, 0, (-2147483648), 2147483647)], [(some (0, 0, (-2147483648), 2147483647), [])], zUE, (3, 180, 0, 0))
noncomputable def zφ_oil (A : Nat → Nat) (V : Nat → Nat → Int) (npξ : Nat) : (Nat → Option Nat) → (Nat → Nat → Int) → List Int → Prop := fun P G ps => zMVr A V P G ∧ ps.getD 0 0 = (A 0 : Int) ∧ (∀ j, j < 5580 → -2147483648 ≤ V 3 (2000 + j) ∧ V 3 (2000 + j) ≤ 2147483647) ∧ V 3 (2000 + 0) = (npξ : Int) ∧ npξ ≤ 6
noncomputable def zψ_oil (A : Nat → Nat) (V : Nat → Nat → Int) (npξ : Nat) : (Nat → Option Nat) → (Nat → Nat → Int) → List Int → (Nat → Option Nat) → (Nat → Nat → Int) → Int → Prop := fun P G ps P' G' rn => P' = P ∧ zMVr A (zf_oil V npξ (ps.getD 1 0) (ps.getD 2 0)).2 P' G' ∧ rn = (zf_oil V npξ (ps.getD 1 0) (ps.getD 2 0)).1
theorem zX_oil {l : Launch} {w : zk_W} (hWξ : zh_W w) (A : Nat → Nat) (V : Nat → Nat → Int) (npξ : Nat) : zk_metX l w zt_dv zt_TB zK_oil (zp_A (zφ_oil A V npξ)) (zp_B (zψ_oil A V npξ)) ∧ zk_cok w zt_TB zK_oil := by
  refine zp_methX (cn := "WoundTownModel") zp_lkall hWξ (pl := 1599) rfl (by decide +kernel) (fun p e R s m args below meth c Q u hx hb hEξ hQξ hU5ξ heffξ hnLξ hokξ hφ => ?_)
  have hwξ := hWξ.1
  obtain ⟨p0ξ, p1ξ, p2ξ, hpsξ, tk0, tk1, tk2⟩ := zp_ps3 hokξ
  have hrmξ : zk_Kr (zk_ev (zt_types, zp_lk, zt_dv, [], [], zp_lc, zK_oil)) = zk_Kr zK_oil := rfl
  rw [hpsξ] at hφ ⊢
  have hφ : zMVr A V u.1 (zp_n u.2.1) ∧ p0ξ = (A 0 : Int) ∧ (∀ j, j < 5580 → -2147483648 ≤ V 3 (2000 + j) ∧ V 3 (2000 + j) ≤ 2147483647) ∧ V 3 (2000 + 0) = (npξ : Int) ∧ npξ ≤ 6 := hφ
  obtain ⟨⟨M, hMξ, hVξ, hSbξ⟩, rfl, hRξ, hnpξ, hnp6ξ⟩ := hφ
  have hi1ξ := zp_int tk1
  have hi2ξ := zp_int tk2
  show zp_J p l e R s m args below meth c Q w u [] 0 [(0, 2, (A 0 : Int)), (1, 0, p1ξ), (2, 0, p2ξ)] [] u.1 (zp_n u.2.1)
  refine zp_load (pc := 0) hx hb (zd_X12_oil (0, .aload_n 0, 1, 0, []) (List.mem_of_getElem? (i := 0) rfl)) rfl (j := 0) rfl ?_
  refine zp_const (pc := 1) hx hb (zd_X12_oil (1, .iconst 0, 1, 0, []) (List.mem_of_getElem? (i := 1) rfl)) rfl rfl ?_
  refine zp_putf (pc := 2) hx hb hEξ hwξ heffξ (zd_X12_oil (2, .putfield 161, 3, 0, []) (List.mem_of_getElem? (i := 2) rfl)) (j := 18) rfl rfl rfl (zM_P hMξ (List.mem_of_getElem? (i := 0) rfl)) (zp_o0 (by decide) (by decide) (by decide) (by decide)) ?_
  refine zp_load (pc := 5) hx hb (zd_X12_oil (5, .iload_n 2, 1, 0, []) (List.mem_of_getElem? (i := 3) rfl)) rfl (j := 2) rfl ?_
  refine zp_i2l (pc := 6) hx hb (zd_X12_oil (6, .i2l, 1, 0, []) (List.mem_of_getElem? (i := 4) rfl)) ?_
  refine zp_const (pc := 7) hx hb (zd_X12_oil (7, .lconst 0, 1, 0, []) (List.mem_of_getElem? (i := 5) rfl)) rfl rfl ?_
  refine zp_ldc2 (pc := 8) hx hb hEξ (zd_X12_oil (8, .ldc2_w 199, 3, 0, []) (List.mem_of_getElem? (i := 6) rfl)) (j := 84) rfl ?_
  refine zp_call (pc := 11) (how := 1) (idx := 181) (mi := 186) (S := []) hx hb hEξ hwξ heffξ hrmξ (zX_in2 hWξ) rfl (j := 2) rfl rfl (by decide +kernel) (zd_X12_oil (11, .invokestatic 181, 3, 0, []) (List.mem_of_getElem? (i := 7) rfl)) [p2ξ, 0, 9] rfl ⟨zp_o1 (by first | assumption | exact zp_r1 (by omega) (by omega)), zp_o1 (by first | assumption | exact zp_r1 (by omega) (by omega)), zp_o1 (by first | assumption | exact zp_r1 (by omega) (by omega)), trivial⟩ (Nat.le_of_ble_eq_true rfl) trivial (fun al halξ rnn96ξ Pn96 Gn96 hextn96ξ hfrn96ξ hokn96ξ hcsn96ξ hpsin96ξ => ?_)
  obtain rfl := List.mem_singleton.mp halξ
  have hrn96ξ := zp_int (hokn96ξ _ rfl).1
  obtain ⟨hPen96ξ, hGen96ξ, htn96ξ⟩ := hpsin96ξ
  rw [hPen96ξ, hGen96ξ]
  clear hextn96ξ hfrn96ξ hcsn96ξ hPen96ξ hGen96ξ
  have htn96ξ : rnn96ξ = 1 ↔ 0 ≤ p2ξ ∧ p2ξ ≤ 9 := htn96ξ
  refine zp_if (pc := 14) (tgt := 23) hx hb (zd_X12_oil (14, .ifCond .ne 9, 3, 0, []) (List.mem_of_getElem? (i := 8) rfl)) rfl (fun (hc97ξ : ¬ rnn96ξ = 0) => ?_) (fun (hc97ξ : ¬ (¬ rnn96ξ = 0)) => ?_)
  · have hbt98ξ := (Iff.mp htn96ξ) (by omega)
    refine zp_load (pc := 23) hx hb (zd_X12_oil (23, .aload_n 0, 1, 0, []) (List.mem_of_getElem? (i := 13) rfl)) rfl (j := 0) rfl ?_
    refine zp_load (pc := 24) hx hb (zd_X12_oil (24, .iload_n 1, 1, 0, []) (List.mem_of_getElem? (i := 14) rfl)) rfl (j := 1) rfl ?_
    refine zp_call (pc := 25) (how := 0) (idx := 201) (mi := 193) (S := []) hx hb hEξ hwξ heffξ hrmξ (zX_isp hWξ A (zp_set M 0 0 0)) rfl (j := 5) rfl rfl (by decide +kernel) (zd_X12_oil (25, .invokevirtual 201, 3, 0, []) (List.mem_of_getElem? (i := 15) rfl)) [(A 0 : Int), p1ξ] rfl ⟨zp_o2 (zM_P hMξ (List.mem_of_getElem? (i := 0) rfl)), zp_o0 (by omega) (by omega) (by omega) (by omega), trivial⟩ (Nat.le_of_ble_eq_true rfl) ⟨(zM_set hMξ (List.mem_of_getElem? (i := 0) rfl) (by decide)), rfl, (show -2147483647 ≤ (zp_set M 0 0 0) 3 (2000 + 0) ∧ (zp_set M 0 0 0) 3 (2000 + 0) ≤ 2147483647 by rw [((zp_set_ne (Or.inl (by decide))).trans (((hVξ 3 (2000 + 0) (Or.inl (by decide))).trans hnpξ)))]; omega)⟩ (fun al halξ rni100ξ Pi100 Gi100 hexti100ξ hfri100ξ hoki100ξ hcsi100ξ hpsii100ξ => ?_)
    obtain rfl := List.mem_singleton.mp halξ
    have hri100ξ := zp_int (hoki100ξ _ rfl).1
    obtain ⟨hPei100ξ, hGei100ξ, hti100ξ⟩ := hpsii100ξ
    rw [hPei100ξ, hGei100ξ]
    clear hexti100ξ hfri100ξ hcsi100ξ hPei100ξ hGei100ξ
    have hti100ξ : rni100ξ = 1 ↔ 0 ≤ p1ξ ∧ p1ξ < (npξ : Int) := by
      have h9ξ : rni100ξ = 1 ↔ 0 ≤ p1ξ ∧ p1ξ < (zp_set M 0 0 0) 3 (2000 + 0) := hti100ξ
      rw [((zp_set_ne (Or.inl (by decide))).trans (((hVξ 3 (2000 + 0) (Or.inl (by decide))).trans hnpξ)))] at h9ξ
      exact h9ξ
    refine zp_if (pc := 28) (tgt := 38) hx hb (zd_X12_oil (28, .ifCond .ne 10, 3, 0, []) (List.mem_of_getElem? (i := 16) rfl)) rfl (fun (hc101ξ : ¬ rni100ξ = 0) => ?_) (fun (hc101ξ : ¬ (¬ rni100ξ = 0)) => ?_)
    · have hbt102ξ := (Iff.mp hti100ξ) (by omega)
      refine zp_load (pc := 38) hx hb (zd_X12_oil (38, .aload_n 0, 1, 0, []) (List.mem_of_getElem? (i := 21) rfl)) rfl (j := 0) rfl ?_
      refine zp_const (pc := 39) hx hb (zd_X12_oil (39, .iconst 0, 1, 0, []) (List.mem_of_getElem? (i := 22) rfl)) rfl rfl ?_
      refine zp_putf (pc := 40) hx hb hEξ hwξ heffξ (zd_X12_oil (40, .putfield 167, 3, 0, []) (List.mem_of_getElem? (i := 23) rfl)) (j := 26) rfl rfl rfl (zM_P hMξ (List.mem_of_getElem? (i := 0) rfl)) (zp_o0 (by decide) (by decide) (by decide) (by decide)) ?_
      refine zp_load (pc := 43) hx hb (zd_X12_oil (43, .aload_n 0, 1, 0, []) (List.mem_of_getElem? (i := 24) rfl)) rfl (j := 0) rfl ?_
      refine zp_const (pc := 44) hx hb (zd_X12_oil (44, .bipush 11, 2, 0, []) (List.mem_of_getElem? (i := 25) rfl)) rfl rfl ?_
      refine zp_const (pc := 46) hx hb (zd_X12_oil (46, .iconst 3, 1, 0, []) (List.mem_of_getElem? (i := 26) rfl)) rfl rfl ?_
      refine zp_load (pc := 47) hx hb (zd_X12_oil (47, .iload_n 1, 1, 0, []) (List.mem_of_getElem? (i := 27) rfl)) rfl (j := 1) rfl ?_
      refine zp_mul (n := (3 * p1ξ)) (pc := 48) hx hb (zd_X12_oil (48, .imul, 1, 0, []) (List.mem_of_getElem? (i := 28) rfl)) (by omega) (zp_r0 (by omega) (by omega)) ?_
      refine zp_add (n := (11 + (3 * p1ξ))) (pc := 49) hx hb (zd_X12_oil (49, .iadd, 1, 0, []) (List.mem_of_getElem? (i := 29) rfl)) (by omega) (zp_r0 (by omega) (by omega)) ?_
      refine zp_const (pc := 50) hx hb (zd_X12_oil (50, .iconst 0, 1, 0, []) (List.mem_of_getElem? (i := 30) rfl)) rfl rfl ?_
      refine zp_add (n := ((11 + (3 * p1ξ)) + 0)) (pc := 51) hx hb (zd_X12_oil (51, .iadd, 1, 0, []) (List.mem_of_getElem? (i := 31) rfl)) (by omega) (zp_r0 (by omega) (by omega)) ?_
      refine zp_load (pc := 52) hx hb (zd_X12_oil (52, .iload_n 2, 1, 0, []) (List.mem_of_getElem? (i := 32) rfl)) rfl (j := 2) rfl ?_
      have hr105ξ := hRξ (3 * p1ξ.toNat + 11) (by omega)
      refine zp_call (pc := 53) (how := 0) (idx := 196) (mi := 190) (S := []) hx hb hEξ hwξ heffξ hrmξ (zX_chg hWξ A (zp_set (zp_set V 0 0 0) 0 8 0) (3 * p1ξ.toNat + 11)) rfl (j := 4) rfl rfl (by decide +kernel) (zd_X12_oil (53, .invokevirtual 196, 3, 0, []) (List.mem_of_getElem? (i := 33) rfl)) [(A 0 : Int), ((11 + (3 * p1ξ)) + 0), p2ξ] rfl ⟨zp_o2 (zM_P hMξ (List.mem_of_getElem? (i := 0) rfl)), zp_o0 (by omega) (by omega) (by omega) (by omega), zp_o0 (by omega) (by omega) (by omega) (by omega), trivial⟩ (Nat.le_of_ble_eq_true rfl) ⟨⟨(zp_set (zp_set M 0 0 0) 0 8 0), (zM_set (zM_set hMξ (List.mem_of_getElem? (i := 0) rfl) (by decide)) (List.mem_of_getElem? (i := 0) rfl) (by decide)), (zV_set (zV_set hVξ)), (zSb_set (by decide) (zSb_set (by decide) hSbξ))⟩, rfl, (show ((11 + (3 * p1ξ)) + 0) = (((3 * p1ξ.toNat + 11) : Nat) : Int) by omega), by omega, (show -2147483648 ≤ (zp_set (zp_set V 0 0 0) 0 8 0) 3 (2000 + (3 * p1ξ.toNat + 11)) ∧ (zp_set (zp_set V 0 0 0) 0 8 0) 3 (2000 + (3 * p1ξ.toNat + 11)) ≤ 2147483647 by rw [((zp_set_ne (Or.inl (by decide))).trans ((zp_set_ne (Or.inl (by decide))).trans (rfl)))]; omega), (show _ ≤ p2ξ by rw [(zr_o p1ξ.toNat (by omega)).2.1]; omega), (show p2ξ ≤ _ by rw [(zr_o p1ξ.toNat (by omega)).2.2]; omega)⟩ (fun al halξ rnc104ξ Pc104 Gc104 hextc104ξ hfrc104ξ hokc104ξ hcsc104ξ hpsic104ξ => ?_)
      obtain rfl := List.mem_singleton.mp halξ
      have hrc104ξ := zp_int (hokc104ξ _ rfl).1
      obtain ⟨hPec104ξ, ⟨Mc104, hMc104ξ, hVc104ξ, hSbc104ξ⟩, htc104ξ⟩ := hpsic104ξ
      subst hPec104ξ
      clear hextc104ξ hfrc104ξ hcsc104ξ hokc104ξ
      have hVc104ξ : ∀ o k, zNs o k → Mc104 o k = (zp_set (zp_set (zp_set (zp_set V 0 0 0) 0 8 0) 3 (2000 + (3 * p1ξ.toNat + 11)) p2ξ) 0 1 0) o k := hVc104ξ
      have htc104ξ : rnc104ξ = (V 3 (2000 + (3 * p1ξ.toNat + 11))) := (Eq.trans htc104ξ) (((zp_set_ne (Or.inl (by decide))).trans ((zp_set_ne (Or.inl (by decide))).trans (rfl))))
      have htc104ξ := (Eq.symm htc104ξ)
      subst htc104ξ
      refine zp_iret (pc := 56) (n := (V 3 (2000 + (3 * p1ξ.toNat + 11)))) hx hb hEξ hQξ hU5ξ rfl (by decide) (zd_X12_oil (56, .ireturn, 1, 0, []) (List.mem_of_getElem? (i := 34) rfl)) (j := 0) rfl (zp_o0 (by omega) (by omega) (by omega) (by omega)) ?_
      rw [hpsξ]
      refine ⟨rfl, ?_⟩
      have hffξ : zf_oil V npξ p1ξ p2ξ = ((V 3 (2000 + (3 * p1ξ.toNat + 11))), (zp_set (zp_set (zp_set (zp_set V 0 0 0) 0 8 0) 3 (2000 + (3 * p1ξ.toNat + 11)) p2ξ) 0 1 0)) := by
        unfold zf_oil
        rw [if_pos ((Iff.mp htn96ξ) (by omega)), if_pos ((Iff.mp hti100ξ) (by omega))]
      show zMVr A (zf_oil V npξ p1ξ p2ξ).2 u.1 Gc104 ∧ (V 3 (2000 + (3 * p1ξ.toNat + 11))) = (zf_oil V npξ p1ξ p2ξ).1
      rw [hffξ]
      exact ⟨⟨Mc104, hMc104ξ, hVc104ξ, hSbc104ξ⟩, rfl⟩
    · have hbf103ξ : ¬ (0 ≤ p1ξ ∧ p1ξ < (npξ : Int)) := fun h9ξ => absurd ((Iff.mpr hti100ξ) h9ξ) (by omega)
      refine zp_load (pc := 31) hx hb (zd_X12_oil (31, .aload_n 0, 1, 0, []) (List.mem_of_getElem? (i := 17) rfl)) rfl (j := 0) rfl ?_
      refine zp_const (pc := 32) hx hb (zd_X12_oil (32, .bipush (-2), 2, 0, []) (List.mem_of_getElem? (i := 18) rfl)) rfl rfl ?_
      refine zp_call (pc := 34) (how := 0) (idx := 170) (mi := 183) (S := []) hx hb hEξ hwξ heffξ hrmξ (zX_tll hWξ A (zp_set V 0 0 0)) rfl (j := 0) rfl rfl (by decide +kernel) (zd_X12_oil (34, .invokevirtual 170, 3, 0, []) (List.mem_of_getElem? (i := 19) rfl)) [(A 0 : Int), (-2)] rfl ⟨zp_o2 (zM_P hMξ (List.mem_of_getElem? (i := 0) rfl)), zp_o0 (by omega) (by omega) (by omega) (by omega), trivial⟩ (Nat.le_of_ble_eq_true rfl) ⟨⟨(zp_set M 0 0 0), (zM_set hMξ (List.mem_of_getElem? (i := 0) rfl) (by decide)), (zV_set hVξ), (zSb_set (by decide) hSbξ)⟩, rfl, (show -6 ≤ (-2) by omega)⟩ (fun al halξ rnt106ξ Pt106 Gt106 hextt106ξ hfrt106ξ hokt106ξ hcst106ξ hpsit106ξ => ?_)
      obtain rfl := List.mem_singleton.mp halξ
      have hrt106ξ := zp_int (hokt106ξ _ rfl).1
      obtain ⟨hPet106ξ, ⟨Mt106, hMt106ξ, hVt106ξ, hSbt106ξ⟩, htt106ξ⟩ := hpsit106ξ
      subst hPet106ξ
      clear hextt106ξ hfrt106ξ hcst106ξ hokt106ξ
      have hVt106ξ : ∀ o k, zNs o k → Mt106 o k = (zT_tell (zp_set V 0 0 0) (-2)) o k := hVt106ξ
      have htt106ξ : rnt106ξ = (-2) := htt106ξ
      have htt106ξ := (Eq.symm htt106ξ)
      subst htt106ξ
      refine zp_iret (pc := 37) (n := (-2)) hx hb hEξ hQξ hU5ξ rfl (by decide) (zd_X12_oil (37, .ireturn, 1, 0, []) (List.mem_of_getElem? (i := 20) rfl)) (j := 0) rfl (zp_o0 (by omega) (by omega) (by omega) (by omega)) ?_
      rw [hpsξ]
      refine ⟨rfl, ?_⟩
      have hffξ : zf_oil V npξ p1ξ p2ξ = ((-2), (zT_tell (zp_set V 0 0 0) (-2))) := by
        unfold zf_oil
        rw [if_pos ((Iff.mp htn96ξ) (by omega)), if_neg (fun h9ξ => absurd ((Iff.mpr hti100ξ) h9ξ) (by omega))]
      show zMVr A (zf_oil V npξ p1ξ p2ξ).2 u.1 Gt106 ∧ (-2) = (zf_oil V npξ p1ξ p2ξ).1
      rw [hffξ]
      exact ⟨⟨Mt106, hMt106ξ, hVt106ξ, hSbt106ξ⟩, rfl⟩
  · have hbf99ξ : ¬ (0 ≤ p2ξ ∧ p2ξ ≤ 9) := fun h9ξ => absurd ((Iff.mpr htn96ξ) h9ξ) (by omega)
    refine zp_load (pc := 17) hx hb (zd_X12_oil (17, .aload_n 0, 1, 0, []) (List.mem_of_getElem? (i := 9) rfl)) rfl (j := 0) rfl ?_
    refine zp_const (pc := 18) hx hb (zd_X12_oil (18, .iconst (-1), 1, 0, []) (List.mem_of_getElem? (i := 10) rfl)) rfl rfl ?_
    refine zp_call (pc := 19) (how := 0) (idx := 170) (mi := 183) (S := []) hx hb hEξ hwξ heffξ hrmξ (zX_tll hWξ A (zp_set V 0 0 0)) rfl (j := 0) rfl rfl (by decide +kernel) (zd_X12_oil (19, .invokevirtual 170, 3, 0, []) (List.mem_of_getElem? (i := 11) rfl)) [(A 0 : Int), (-1)] rfl ⟨zp_o2 (zM_P hMξ (List.mem_of_getElem? (i := 0) rfl)), zp_o0 (by omega) (by omega) (by omega) (by omega), trivial⟩ (Nat.le_of_ble_eq_true rfl) ⟨⟨(zp_set M 0 0 0), (zM_set hMξ (List.mem_of_getElem? (i := 0) rfl) (by decide)), (zV_set hVξ), (zSb_set (by decide) hSbξ)⟩, rfl, (show -6 ≤ (-1) by omega)⟩ (fun al halξ rnt107ξ Pt107 Gt107 hextt107ξ hfrt107ξ hokt107ξ hcst107ξ hpsit107ξ => ?_)
    obtain rfl := List.mem_singleton.mp halξ
    have hrt107ξ := zp_int (hokt107ξ _ rfl).1
    obtain ⟨hPet107ξ, ⟨Mt107, hMt107ξ, hVt107ξ, hSbt107ξ⟩, htt107ξ⟩ := hpsit107ξ
    subst hPet107ξ
    clear hextt107ξ hfrt107ξ hcst107ξ hokt107ξ
    have hVt107ξ : ∀ o k, zNs o k → Mt107 o k = (zT_tell (zp_set V 0 0 0) (-1)) o k := hVt107ξ
    have htt107ξ : rnt107ξ = (-1) := htt107ξ
    have htt107ξ := (Eq.symm htt107ξ)
    subst htt107ξ
    refine zp_iret (pc := 22) (n := (-1)) hx hb hEξ hQξ hU5ξ rfl (by decide) (zd_X12_oil (22, .ireturn, 1, 0, []) (List.mem_of_getElem? (i := 12) rfl)) (j := 0) rfl (zp_o0 (by omega) (by omega) (by omega) (by omega)) ?_
    rw [hpsξ]
    refine ⟨rfl, ?_⟩
    have hffξ : zf_oil V npξ p1ξ p2ξ = ((-1), (zT_tell (zp_set V 0 0 0) (-1))) := by
      unfold zf_oil
      rw [if_neg (fun h9ξ => absurd ((Iff.mpr htn96ξ) h9ξ) (by omega))]
    show zMVr A (zf_oil V npξ p1ξ p2ξ).2 u.1 Gt107 ∧ (-1) = (zf_oil V npξ p1ξ p2ξ).1
    rw [hffξ]
    exact ⟨⟨Mt107, hMt107ξ, hVt107ξ, hSbt107ξ⟩, rfl⟩
noncomputable def zf_ter (V : Nat → Nat → Int) (p1ξ : Int) (p2ξ : Int) : Int × (Nat → Nat → Int) := if ¬ p1ξ = 0 then if ¬ p1ξ = 1 then if ¬ p1ξ = 2 then ((-1), (zT_tell (zp_set V 0 0 0) (-1))) else if 0 ≤ p2ξ ∧ p2ξ ≤ 9 then ((V 3 (2000 + 7)), (zp_set (zp_set (zp_set (zp_set V 0 0 0) 0 8 0) 3 (2000 + 7) p2ξ) 0 1 0)) else ((-1), (zT_tell (zp_set V 0 0 0) (-1))) else if 1 ≤ p2ξ ∧ p2ξ ≤ 9 then ((V 3 (2000 + 6)), (zp_set (zp_set (zp_set (zp_set V 0 0 0) 0 8 0) 3 (2000 + 6) p2ξ) 0 1 0)) else ((-1), (zT_tell (zp_set V 0 0 0) (-1))) else if 0 ≤ p2ξ ∧ p2ξ ≤ 999 then ((V 3 (2000 + 5)), (zp_set (zp_set (zp_set (zp_set V 0 0 0) 0 8 0) 3 (2000 + 5) p2ξ) 0 1 0)) else ((-1), (zT_tell (zp_set V 0 0 0) (-1)))
noncomputable def zK_ter : zk_K := (zt_mn 202, prog_14_method_29_code, 4, (Option.some Jvm.ClassFile.FieldType.int), 1, 12, [(2, 13, 0, 0), (0, 0, (-2147483648), 2147483647), (0, 0, (-2147483648), 2147483647)], [(some (0, 0, (-2147483648), 2147483647), [])], zUE, (3, 180, 0, 0))
noncomputable def zφ_ter (A : Nat → Nat) (V : Nat → Nat → Int) : (Nat → Option Nat) → (Nat → Nat → Int) → List Int → Prop := fun P G ps => zMVr A V P G ∧ ps.getD 0 0 = (A 0 : Int) ∧ (∀ j, j < 5580 → -2147483648 ≤ V 3 (2000 + j) ∧ V 3 (2000 + j) ≤ 2147483647)
noncomputable def zψ_ter (A : Nat → Nat) (V : Nat → Nat → Int) : (Nat → Option Nat) → (Nat → Nat → Int) → List Int → (Nat → Option Nat) → (Nat → Nat → Int) → Int → Prop := fun P G ps P' G' rn => P' = P ∧ zMVr A (zf_ter V (ps.getD 1 0) (ps.getD 2 0)).2 P' G' ∧ rn = (zf_ter V (ps.getD 1 0) (ps.getD 2 0)).1
theorem zX_ter {l : Launch} {w : zk_W} (hWξ : zh_W w) (A : Nat → Nat) (V : Nat → Nat → Int) : zk_metX l w zt_dv zt_TB zK_ter (zp_A (zφ_ter A V)) (zp_B (zψ_ter A V)) ∧ zk_cok w zt_TB zK_ter := by
  refine zp_methX (cn := "WoundTownModel") zp_lkall hWξ (pl := 1643) rfl (by decide +kernel) (fun p e R s m args below meth c Q u hx hb hEξ hQξ hU5ξ heffξ hnLξ hokξ hφ => ?_)
  have hwξ := hWξ.1
  obtain ⟨p0ξ, p1ξ, p2ξ, hpsξ, tk0, tk1, tk2⟩ := zp_ps3 hokξ
  have hrmξ : zk_Kr (zk_ev (zt_types, zp_lk, zt_dv, [], [], zp_lc, zK_ter)) = zk_Kr zK_ter := rfl
  rw [hpsξ] at hφ ⊢
  have hφ : zMVr A V u.1 (zp_n u.2.1) ∧ p0ξ = (A 0 : Int) ∧ (∀ j, j < 5580 → -2147483648 ≤ V 3 (2000 + j) ∧ V 3 (2000 + j) ≤ 2147483647) := hφ
  obtain ⟨⟨M, hMξ, hVξ, hSbξ⟩, rfl, hRξ⟩ := hφ
  have hi1ξ := zp_int tk1
  have hi2ξ := zp_int tk2
  show zp_J p l e R s m args below meth c Q w u [] 0 [(0, 2, (A 0 : Int)), (1, 0, p1ξ), (2, 0, p2ξ)] [] u.1 (zp_n u.2.1)
  refine zp_load (pc := 0) hx hb (zd_X12_terms (0, .aload_n 0, 1, 0, []) (List.mem_of_getElem? (i := 0) rfl)) rfl (j := 0) rfl ?_
  refine zp_const (pc := 1) hx hb (zd_X12_terms (1, .iconst 0, 1, 0, []) (List.mem_of_getElem? (i := 1) rfl)) rfl rfl ?_
  refine zp_putf (pc := 2) hx hb hEξ hwξ heffξ (zd_X12_terms (2, .putfield 161, 3, 0, []) (List.mem_of_getElem? (i := 2) rfl)) (j := 18) rfl rfl rfl (zM_P hMξ (List.mem_of_getElem? (i := 0) rfl)) (zp_o0 (by decide) (by decide) (by decide) (by decide)) ?_
  refine zp_load (pc := 5) hx hb (zd_X12_terms (5, .iload_n 1, 1, 0, []) (List.mem_of_getElem? (i := 3) rfl)) rfl (j := 1) rfl ?_
  refine zp_if (pc := 6) (tgt := 21) hx hb (zd_X12_terms (6, .ifCond .ne 15, 3, 0, []) (List.mem_of_getElem? (i := 4) rfl)) rfl (fun (hc108ξ : ¬ p1ξ = 0) => ?_) (fun (hc108ξ : ¬ (¬ p1ξ = 0)) => ?_)
  · refine zp_load (pc := 21) hx hb (zd_X12_terms (21, .iload_n 1, 1, 0, []) (List.mem_of_getElem? (i := 11) rfl)) rfl (j := 1) rfl ?_
    refine zp_const (pc := 22) hx hb (zd_X12_terms (22, .iconst 1, 1, 0, []) (List.mem_of_getElem? (i := 12) rfl)) rfl rfl ?_
    refine zp_icmp (pc := 23) (tgt := 38) hx hb (zd_X12_terms (23, .if_icmp .ne 15, 3, 0, []) (List.mem_of_getElem? (i := 13) rfl)) rfl (fun (hc109ξ : ¬ p1ξ = 1) => ?_) (fun (hc109ξ : ¬ (¬ p1ξ = 1)) => ?_)
    · refine zp_load (pc := 38) hx hb (zd_X12_terms (38, .iload_n 1, 1, 0, []) (List.mem_of_getElem? (i := 20) rfl)) rfl (j := 1) rfl ?_
      refine zp_const (pc := 39) hx hb (zd_X12_terms (39, .iconst 2, 1, 0, []) (List.mem_of_getElem? (i := 21) rfl)) rfl rfl ?_
      refine zp_icmp (pc := 40) (tgt := 59) hx hb (zd_X12_terms (40, .if_icmp .ne 19, 3, 0, []) (List.mem_of_getElem? (i := 22) rfl)) rfl (fun (hc110ξ : ¬ p1ξ = 2) => ?_) (fun (hc110ξ : ¬ (¬ p1ξ = 2)) => ?_)
      · refine zp_const (pc := 59) hx hb (zd_X12_terms (59, .iconst 0, 1, 0, []) (List.mem_of_getElem? (i := 31) rfl)) rfl rfl ?_
        refine zp_store (L' := [(3, 0, 0), (0, 2, (A 0 : Int)), (1, 0, p1ξ), (2, 0, p2ξ)]) (pc := 60) hx hb hnLξ (zd_X12_terms (60, .istore_n 3, 1, 0, []) (List.mem_of_getElem? (i := 32) rfl)) rfl rfl rfl ?_
        refine zp_load (pc := 61) hx hb (zd_X12_terms (61, .iload_n 3, 1, 0, []) (List.mem_of_getElem? (i := 33) rfl)) rfl (j := 0) rfl ?_
        refine zp_if (pc := 62) (tgt := 71) hx hb (zd_X12_terms (62, .ifCond .ne 9, 3, 0, []) (List.mem_of_getElem? (i := 34) rfl)) rfl (fun (hc111ξ : ¬ (0 : Int) = 0) => ?_) (fun (hc111ξ : ¬ (¬ (0 : Int) = 0)) => ?_)
        · exfalso
          omega
        · refine zp_load (pc := 65) hx hb (zd_X12_terms (65, .aload_n 0, 1, 0, []) (List.mem_of_getElem? (i := 35) rfl)) rfl (j := 1) rfl ?_
          refine zp_const (pc := 66) hx hb (zd_X12_terms (66, .iconst (-1), 1, 0, []) (List.mem_of_getElem? (i := 36) rfl)) rfl rfl ?_
          refine zp_call (pc := 67) (how := 0) (idx := 170) (mi := 183) (S := []) hx hb hEξ hwξ heffξ hrmξ (zX_tll hWξ A (zp_set V 0 0 0)) rfl (j := 0) rfl rfl (by decide +kernel) (zd_X12_terms (67, .invokevirtual 170, 3, 0, []) (List.mem_of_getElem? (i := 37) rfl)) [(A 0 : Int), (-1)] rfl ⟨zp_o2 (zM_P hMξ (List.mem_of_getElem? (i := 0) rfl)), zp_o0 (by omega) (by omega) (by omega) (by omega), trivial⟩ (Nat.le_of_ble_eq_true rfl) ⟨⟨(zp_set M 0 0 0), (zM_set hMξ (List.mem_of_getElem? (i := 0) rfl) (by decide)), (zV_set hVξ), (zSb_set (by decide) hSbξ)⟩, rfl, (show -6 ≤ (-1) by omega)⟩ (fun al halξ rnt112ξ Pt112 Gt112 hextt112ξ hfrt112ξ hokt112ξ hcst112ξ hpsit112ξ => ?_)
          obtain rfl := List.mem_singleton.mp halξ
          have hrt112ξ := zp_int (hokt112ξ _ rfl).1
          obtain ⟨hPet112ξ, ⟨Mt112, hMt112ξ, hVt112ξ, hSbt112ξ⟩, htt112ξ⟩ := hpsit112ξ
          subst hPet112ξ
          clear hextt112ξ hfrt112ξ hcst112ξ hokt112ξ
          have hVt112ξ : ∀ o k, zNs o k → Mt112 o k = (zT_tell (zp_set V 0 0 0) (-1)) o k := hVt112ξ
          have htt112ξ : rnt112ξ = (-1) := htt112ξ
          have htt112ξ := (Eq.symm htt112ξ)
          subst htt112ξ
          refine zp_iret (pc := 70) (n := (-1)) hx hb hEξ hQξ hU5ξ rfl (by decide) (zd_X12_terms (70, .ireturn, 1, 0, []) (List.mem_of_getElem? (i := 38) rfl)) (j := 0) rfl (zp_o0 (by omega) (by omega) (by omega) (by omega)) ?_
          rw [hpsξ]
          refine ⟨rfl, ?_⟩
          have hffξ : zf_ter V p1ξ p2ξ = ((-1), (zT_tell (zp_set V 0 0 0) (-1))) := by
            unfold zf_ter
            rw [if_pos hc108ξ, if_pos hc109ξ, if_pos hc110ξ]
          show zMVr A (zf_ter V p1ξ p2ξ).2 u.1 Gt112 ∧ (-1) = (zf_ter V p1ξ p2ξ).1
          rw [hffξ]
          exact ⟨⟨Mt112, hMt112ξ, hVt112ξ, hSbt112ξ⟩, rfl⟩
      · refine zp_load (pc := 43) hx hb (zd_X12_terms (43, .iload_n 2, 1, 0, []) (List.mem_of_getElem? (i := 23) rfl)) rfl (j := 2) rfl ?_
        refine zp_i2l (pc := 44) hx hb (zd_X12_terms (44, .i2l, 1, 0, []) (List.mem_of_getElem? (i := 24) rfl)) ?_
        refine zp_const (pc := 45) hx hb (zd_X12_terms (45, .lconst 0, 1, 0, []) (List.mem_of_getElem? (i := 25) rfl)) rfl rfl ?_
        refine zp_ldc2 (pc := 46) hx hb hEξ (zd_X12_terms (46, .ldc2_w 199, 3, 0, []) (List.mem_of_getElem? (i := 26) rfl)) (j := 84) rfl ?_
        refine zp_call (pc := 49) (how := 1) (idx := 181) (mi := 186) (S := []) hx hb hEξ hwξ heffξ hrmξ (zX_in2 hWξ) rfl (j := 2) rfl rfl (by decide +kernel) (zd_X12_terms (49, .invokestatic 181, 3, 0, []) (List.mem_of_getElem? (i := 27) rfl)) [p2ξ, 0, 9] rfl ⟨zp_o1 (by first | assumption | exact zp_r1 (by omega) (by omega)), zp_o1 (by first | assumption | exact zp_r1 (by omega) (by omega)), zp_o1 (by first | assumption | exact zp_r1 (by omega) (by omega)), trivial⟩ (Nat.le_of_ble_eq_true rfl) trivial (fun al halξ rnn113ξ Pn113 Gn113 hextn113ξ hfrn113ξ hokn113ξ hcsn113ξ hpsin113ξ => ?_)
        obtain rfl := List.mem_singleton.mp halξ
        have hrn113ξ := zp_int (hokn113ξ _ rfl).1
        obtain ⟨hPen113ξ, hGen113ξ, htn113ξ⟩ := hpsin113ξ
        rw [hPen113ξ, hGen113ξ]
        clear hextn113ξ hfrn113ξ hcsn113ξ hPen113ξ hGen113ξ
        have htn113ξ : rnn113ξ = 1 ↔ 0 ≤ p2ξ ∧ p2ξ ≤ 9 := htn113ξ
        refine zp_if (pc := 52) (tgt := 59) hx hb (zd_X12_terms (52, .ifCond .eq 7, 3, 0, []) (List.mem_of_getElem? (i := 28) rfl)) rfl (fun (hc114ξ : rnn113ξ = 0) => ?_) (fun (hc114ξ : ¬ (rnn113ξ = 0)) => ?_)
        · have hbf115ξ : ¬ (0 ≤ p2ξ ∧ p2ξ ≤ 9) := fun h9ξ => absurd ((Iff.mpr htn113ξ) h9ξ) (by omega)
          refine zp_const (pc := 59) hx hb (zd_X12_terms (59, .iconst 0, 1, 0, []) (List.mem_of_getElem? (i := 31) rfl)) rfl rfl ?_
          refine zp_store (L' := [(3, 0, 0), (0, 2, (A 0 : Int)), (1, 0, p1ξ), (2, 0, p2ξ)]) (pc := 60) hx hb hnLξ (zd_X12_terms (60, .istore_n 3, 1, 0, []) (List.mem_of_getElem? (i := 32) rfl)) rfl rfl rfl ?_
          refine zp_load (pc := 61) hx hb (zd_X12_terms (61, .iload_n 3, 1, 0, []) (List.mem_of_getElem? (i := 33) rfl)) rfl (j := 0) rfl ?_
          refine zp_if (pc := 62) (tgt := 71) hx hb (zd_X12_terms (62, .ifCond .ne 9, 3, 0, []) (List.mem_of_getElem? (i := 34) rfl)) rfl (fun (hc117ξ : ¬ (0 : Int) = 0) => ?_) (fun (hc117ξ : ¬ (¬ (0 : Int) = 0)) => ?_)
          · exfalso
            omega
          · refine zp_load (pc := 65) hx hb (zd_X12_terms (65, .aload_n 0, 1, 0, []) (List.mem_of_getElem? (i := 35) rfl)) rfl (j := 1) rfl ?_
            refine zp_const (pc := 66) hx hb (zd_X12_terms (66, .iconst (-1), 1, 0, []) (List.mem_of_getElem? (i := 36) rfl)) rfl rfl ?_
            refine zp_call (pc := 67) (how := 0) (idx := 170) (mi := 183) (S := []) hx hb hEξ hwξ heffξ hrmξ (zX_tll hWξ A (zp_set V 0 0 0)) rfl (j := 0) rfl rfl (by decide +kernel) (zd_X12_terms (67, .invokevirtual 170, 3, 0, []) (List.mem_of_getElem? (i := 37) rfl)) [(A 0 : Int), (-1)] rfl ⟨zp_o2 (zM_P hMξ (List.mem_of_getElem? (i := 0) rfl)), zp_o0 (by omega) (by omega) (by omega) (by omega), trivial⟩ (Nat.le_of_ble_eq_true rfl) ⟨⟨(zp_set M 0 0 0), (zM_set hMξ (List.mem_of_getElem? (i := 0) rfl) (by decide)), (zV_set hVξ), (zSb_set (by decide) hSbξ)⟩, rfl, (show -6 ≤ (-1) by omega)⟩ (fun al halξ rnt118ξ Pt118 Gt118 hextt118ξ hfrt118ξ hokt118ξ hcst118ξ hpsit118ξ => ?_)
            obtain rfl := List.mem_singleton.mp halξ
            have hrt118ξ := zp_int (hokt118ξ _ rfl).1
            obtain ⟨hPet118ξ, ⟨Mt118, hMt118ξ, hVt118ξ, hSbt118ξ⟩, htt118ξ⟩ := hpsit118ξ
            subst hPet118ξ
            clear hextt118ξ hfrt118ξ hcst118ξ hokt118ξ
            have hVt118ξ : ∀ o k, zNs o k → Mt118 o k = (zT_tell (zp_set V 0 0 0) (-1)) o k := hVt118ξ
            have htt118ξ : rnt118ξ = (-1) := htt118ξ
            have htt118ξ := (Eq.symm htt118ξ)
            subst htt118ξ
            refine zp_iret (pc := 70) (n := (-1)) hx hb hEξ hQξ hU5ξ rfl (by decide) (zd_X12_terms (70, .ireturn, 1, 0, []) (List.mem_of_getElem? (i := 38) rfl)) (j := 0) rfl (zp_o0 (by omega) (by omega) (by omega) (by omega)) ?_
            rw [hpsξ]
            refine ⟨rfl, ?_⟩
            have hffξ : zf_ter V p1ξ p2ξ = ((-1), (zT_tell (zp_set V 0 0 0) (-1))) := by
              unfold zf_ter
              rw [if_pos hc108ξ, if_pos hc109ξ, if_neg hc110ξ, if_neg (fun h9ξ => absurd ((Iff.mpr htn113ξ) h9ξ) (by omega))]
            show zMVr A (zf_ter V p1ξ p2ξ).2 u.1 Gt118 ∧ (-1) = (zf_ter V p1ξ p2ξ).1
            rw [hffξ]
            exact ⟨⟨Mt118, hMt118ξ, hVt118ξ, hSbt118ξ⟩, rfl⟩
        · have hbt116ξ := (Iff.mp htn113ξ) (by omega)
          refine zp_const (pc := 55) hx hb (zd_X12_terms (55, .iconst 1, 1, 0, []) (List.mem_of_getElem? (i := 29) rfl)) rfl rfl ?_
          refine zp_goto (tgt := 60) (pc := 56) hx hb (zd_X12_terms (56, .goto 4, 3, 0, []) (List.mem_of_getElem? (i := 30) rfl)) rfl ?_
          refine zp_store (L' := [(3, 0, 1), (0, 2, (A 0 : Int)), (1, 0, p1ξ), (2, 0, p2ξ)]) (pc := 60) hx hb hnLξ (zd_X12_terms (60, .istore_n 3, 1, 0, []) (List.mem_of_getElem? (i := 32) rfl)) rfl rfl rfl ?_
          refine zp_load (pc := 61) hx hb (zd_X12_terms (61, .iload_n 3, 1, 0, []) (List.mem_of_getElem? (i := 33) rfl)) rfl (j := 0) rfl ?_
          refine zp_if (pc := 62) (tgt := 71) hx hb (zd_X12_terms (62, .ifCond .ne 9, 3, 0, []) (List.mem_of_getElem? (i := 34) rfl)) rfl (fun (hc119ξ : ¬ (1 : Int) = 0) => ?_) (fun (hc119ξ : ¬ (¬ (1 : Int) = 0)) => ?_)
          · refine zp_load (pc := 71) hx hb (zd_X12_terms (71, .aload_n 0, 1, 0, []) (List.mem_of_getElem? (i := 39) rfl)) rfl (j := 1) rfl ?_
            refine zp_const (pc := 72) hx hb (zd_X12_terms (72, .iconst 0, 1, 0, []) (List.mem_of_getElem? (i := 40) rfl)) rfl rfl ?_
            refine zp_putf (pc := 73) hx hb hEξ hwξ heffξ (zd_X12_terms (73, .putfield 167, 3, 0, []) (List.mem_of_getElem? (i := 41) rfl)) (j := 26) rfl rfl rfl (zM_P hMξ (List.mem_of_getElem? (i := 0) rfl)) (zp_o0 (by decide) (by decide) (by decide) (by decide)) ?_
            refine zp_load (pc := 76) hx hb (zd_X12_terms (76, .aload_n 0, 1, 0, []) (List.mem_of_getElem? (i := 42) rfl)) rfl (j := 1) rfl ?_
            refine zp_const (pc := 77) hx hb (zd_X12_terms (77, .iconst 5, 1, 0, []) (List.mem_of_getElem? (i := 43) rfl)) rfl rfl ?_
            refine zp_load (pc := 78) hx hb (zd_X12_terms (78, .iload_n 1, 1, 0, []) (List.mem_of_getElem? (i := 44) rfl)) rfl (j := 2) rfl ?_
            refine zp_add (n := (5 + p1ξ)) (pc := 79) hx hb (zd_X12_terms (79, .iadd, 1, 0, []) (List.mem_of_getElem? (i := 45) rfl)) (by omega) (zp_r0 (by omega) (by omega)) ?_
            refine zp_load (pc := 80) hx hb (zd_X12_terms (80, .iload_n 2, 1, 0, []) (List.mem_of_getElem? (i := 46) rfl)) rfl (j := 3) rfl ?_
            have hr121ξ := hRξ 7 (by omega)
            refine zp_call (pc := 81) (how := 0) (idx := 196) (mi := 190) (S := []) hx hb hEξ hwξ heffξ hrmξ (zX_chg hWξ A (zp_set (zp_set V 0 0 0) 0 8 0) 7) rfl (j := 4) rfl rfl (by decide +kernel) (zd_X12_terms (81, .invokevirtual 196, 3, 0, []) (List.mem_of_getElem? (i := 47) rfl)) [(A 0 : Int), (5 + p1ξ), p2ξ] rfl ⟨zp_o2 (zM_P hMξ (List.mem_of_getElem? (i := 0) rfl)), zp_o0 (by omega) (by omega) (by omega) (by omega), zp_o0 (by omega) (by omega) (by omega) (by omega), trivial⟩ (Nat.le_of_ble_eq_true rfl) ⟨⟨(zp_set (zp_set M 0 0 0) 0 8 0), (zM_set (zM_set hMξ (List.mem_of_getElem? (i := 0) rfl) (by decide)) (List.mem_of_getElem? (i := 0) rfl) (by decide)), (zV_set (zV_set hVξ)), (zSb_set (by decide) (zSb_set (by decide) hSbξ))⟩, rfl, (show (5 + p1ξ) = ((7 : Nat) : Int) by omega), by omega, (show -2147483648 ≤ (zp_set (zp_set V 0 0 0) 0 8 0) 3 (2000 + 7) ∧ (zp_set (zp_set V 0 0 0) 0 8 0) 3 (2000 + 7) ≤ 2147483647 by rw [((zp_set_ne (Or.inl (by decide))).trans ((zp_set_ne (Or.inl (by decide))).trans (rfl)))]; omega), (show (-2147483648) ≤ p2ξ by omega), (show p2ξ ≤ 2147483647 by omega)⟩ (fun al halξ rnc120ξ Pc120 Gc120 hextc120ξ hfrc120ξ hokc120ξ hcsc120ξ hpsic120ξ => ?_)
            obtain rfl := List.mem_singleton.mp halξ
            have hrc120ξ := zp_int (hokc120ξ _ rfl).1
            obtain ⟨hPec120ξ, ⟨Mc120, hMc120ξ, hVc120ξ, hSbc120ξ⟩, htc120ξ⟩ := hpsic120ξ
            subst hPec120ξ
            clear hextc120ξ hfrc120ξ hcsc120ξ hokc120ξ
            have hVc120ξ : ∀ o k, zNs o k → Mc120 o k = (zp_set (zp_set (zp_set (zp_set V 0 0 0) 0 8 0) 3 (2000 + 7) p2ξ) 0 1 0) o k := hVc120ξ
            have htc120ξ : rnc120ξ = (V 3 (2000 + 7)) := (Eq.trans htc120ξ) (((zp_set_ne (Or.inl (by decide))).trans ((zp_set_ne (Or.inl (by decide))).trans (rfl))))
            have htc120ξ := (Eq.symm htc120ξ)
            subst htc120ξ
            refine zp_iret (pc := 84) (n := (V 3 (2000 + 7))) hx hb hEξ hQξ hU5ξ rfl (by decide) (zd_X12_terms (84, .ireturn, 1, 0, []) (List.mem_of_getElem? (i := 48) rfl)) (j := 0) rfl (zp_o0 (by omega) (by omega) (by omega) (by omega)) ?_
            rw [hpsξ]
            refine ⟨rfl, ?_⟩
            have hffξ : zf_ter V p1ξ p2ξ = ((V 3 (2000 + 7)), (zp_set (zp_set (zp_set (zp_set V 0 0 0) 0 8 0) 3 (2000 + 7) p2ξ) 0 1 0)) := by
              unfold zf_ter
              rw [if_pos hc108ξ, if_pos hc109ξ, if_neg hc110ξ, if_pos ((Iff.mp htn113ξ) (by omega))]
            show zMVr A (zf_ter V p1ξ p2ξ).2 u.1 Gc120 ∧ (V 3 (2000 + 7)) = (zf_ter V p1ξ p2ξ).1
            rw [hffξ]
            exact ⟨⟨Mc120, hMc120ξ, hVc120ξ, hSbc120ξ⟩, rfl⟩
          · exfalso
            omega
    · refine zp_load (pc := 26) hx hb (zd_X12_terms (26, .iload_n 2, 1, 0, []) (List.mem_of_getElem? (i := 14) rfl)) rfl (j := 2) rfl ?_
      refine zp_i2l (pc := 27) hx hb (zd_X12_terms (27, .i2l, 1, 0, []) (List.mem_of_getElem? (i := 15) rfl)) ?_
      refine zp_const (pc := 28) hx hb (zd_X12_terms (28, .lconst 1, 1, 0, []) (List.mem_of_getElem? (i := 16) rfl)) rfl rfl ?_
      refine zp_ldc2 (pc := 29) hx hb hEξ (zd_X12_terms (29, .ldc2_w 199, 3, 0, []) (List.mem_of_getElem? (i := 17) rfl)) (j := 84) rfl ?_
      refine zp_call (pc := 32) (how := 1) (idx := 181) (mi := 186) (S := []) hx hb hEξ hwξ heffξ hrmξ (zX_in2 hWξ) rfl (j := 2) rfl rfl (by decide +kernel) (zd_X12_terms (32, .invokestatic 181, 3, 0, []) (List.mem_of_getElem? (i := 18) rfl)) [p2ξ, 1, 9] rfl ⟨zp_o1 (by first | assumption | exact zp_r1 (by omega) (by omega)), zp_o1 (by first | assumption | exact zp_r1 (by omega) (by omega)), zp_o1 (by first | assumption | exact zp_r1 (by omega) (by omega)), trivial⟩ (Nat.le_of_ble_eq_true rfl) trivial (fun al halξ rnn122ξ Pn122 Gn122 hextn122ξ hfrn122ξ hokn122ξ hcsn122ξ hpsin122ξ => ?_)
      obtain rfl := List.mem_singleton.mp halξ
      have hrn122ξ := zp_int (hokn122ξ _ rfl).1
      obtain ⟨hPen122ξ, hGen122ξ, htn122ξ⟩ := hpsin122ξ
      rw [hPen122ξ, hGen122ξ]
      clear hextn122ξ hfrn122ξ hcsn122ξ hPen122ξ hGen122ξ
      have htn122ξ : rnn122ξ = 1 ↔ 1 ≤ p2ξ ∧ p2ξ ≤ 9 := htn122ξ
      refine zp_goto (tgt := 60) (pc := 35) hx hb (zd_X12_terms (35, .goto 25, 3, 0, []) (List.mem_of_getElem? (i := 19) rfl)) rfl ?_
      refine zp_store (L' := [(3, 0, rnn122ξ), (0, 2, (A 0 : Int)), (1, 0, p1ξ), (2, 0, p2ξ)]) (pc := 60) hx hb hnLξ (zd_X12_terms (60, .istore_n 3, 1, 0, []) (List.mem_of_getElem? (i := 32) rfl)) rfl rfl rfl ?_
      refine zp_load (pc := 61) hx hb (zd_X12_terms (61, .iload_n 3, 1, 0, []) (List.mem_of_getElem? (i := 33) rfl)) rfl (j := 0) rfl ?_
      refine zp_if (pc := 62) (tgt := 71) hx hb (zd_X12_terms (62, .ifCond .ne 9, 3, 0, []) (List.mem_of_getElem? (i := 34) rfl)) rfl (fun (hc123ξ : ¬ rnn122ξ = 0) => ?_) (fun (hc123ξ : ¬ (¬ rnn122ξ = 0)) => ?_)
      · have hbt124ξ := (Iff.mp htn122ξ) (by omega)
        refine zp_load (pc := 71) hx hb (zd_X12_terms (71, .aload_n 0, 1, 0, []) (List.mem_of_getElem? (i := 39) rfl)) rfl (j := 1) rfl ?_
        refine zp_const (pc := 72) hx hb (zd_X12_terms (72, .iconst 0, 1, 0, []) (List.mem_of_getElem? (i := 40) rfl)) rfl rfl ?_
        refine zp_putf (pc := 73) hx hb hEξ hwξ heffξ (zd_X12_terms (73, .putfield 167, 3, 0, []) (List.mem_of_getElem? (i := 41) rfl)) (j := 26) rfl rfl rfl (zM_P hMξ (List.mem_of_getElem? (i := 0) rfl)) (zp_o0 (by decide) (by decide) (by decide) (by decide)) ?_
        refine zp_load (pc := 76) hx hb (zd_X12_terms (76, .aload_n 0, 1, 0, []) (List.mem_of_getElem? (i := 42) rfl)) rfl (j := 1) rfl ?_
        refine zp_const (pc := 77) hx hb (zd_X12_terms (77, .iconst 5, 1, 0, []) (List.mem_of_getElem? (i := 43) rfl)) rfl rfl ?_
        refine zp_load (pc := 78) hx hb (zd_X12_terms (78, .iload_n 1, 1, 0, []) (List.mem_of_getElem? (i := 44) rfl)) rfl (j := 2) rfl ?_
        refine zp_add (n := (5 + p1ξ)) (pc := 79) hx hb (zd_X12_terms (79, .iadd, 1, 0, []) (List.mem_of_getElem? (i := 45) rfl)) (by omega) (zp_r0 (by omega) (by omega)) ?_
        refine zp_load (pc := 80) hx hb (zd_X12_terms (80, .iload_n 2, 1, 0, []) (List.mem_of_getElem? (i := 46) rfl)) rfl (j := 3) rfl ?_
        have hr127ξ := hRξ 6 (by omega)
        refine zp_call (pc := 81) (how := 0) (idx := 196) (mi := 190) (S := []) hx hb hEξ hwξ heffξ hrmξ (zX_chg hWξ A (zp_set (zp_set V 0 0 0) 0 8 0) 6) rfl (j := 4) rfl rfl (by decide +kernel) (zd_X12_terms (81, .invokevirtual 196, 3, 0, []) (List.mem_of_getElem? (i := 47) rfl)) [(A 0 : Int), (5 + p1ξ), p2ξ] rfl ⟨zp_o2 (zM_P hMξ (List.mem_of_getElem? (i := 0) rfl)), zp_o0 (by omega) (by omega) (by omega) (by omega), zp_o0 (by omega) (by omega) (by omega) (by omega), trivial⟩ (Nat.le_of_ble_eq_true rfl) ⟨⟨(zp_set (zp_set M 0 0 0) 0 8 0), (zM_set (zM_set hMξ (List.mem_of_getElem? (i := 0) rfl) (by decide)) (List.mem_of_getElem? (i := 0) rfl) (by decide)), (zV_set (zV_set hVξ)), (zSb_set (by decide) (zSb_set (by decide) hSbξ))⟩, rfl, (show (5 + p1ξ) = ((6 : Nat) : Int) by omega), by omega, (show -2147483648 ≤ (zp_set (zp_set V 0 0 0) 0 8 0) 3 (2000 + 6) ∧ (zp_set (zp_set V 0 0 0) 0 8 0) 3 (2000 + 6) ≤ 2147483647 by rw [((zp_set_ne (Or.inl (by decide))).trans ((zp_set_ne (Or.inl (by decide))).trans (rfl)))]; omega), (show (-2147483648) ≤ p2ξ by omega), (show p2ξ ≤ 2147483647 by omega)⟩ (fun al halξ rnc126ξ Pc126 Gc126 hextc126ξ hfrc126ξ hokc126ξ hcsc126ξ hpsic126ξ => ?_)
        obtain rfl := List.mem_singleton.mp halξ
        have hrc126ξ := zp_int (hokc126ξ _ rfl).1
        obtain ⟨hPec126ξ, ⟨Mc126, hMc126ξ, hVc126ξ, hSbc126ξ⟩, htc126ξ⟩ := hpsic126ξ
        subst hPec126ξ
        clear hextc126ξ hfrc126ξ hcsc126ξ hokc126ξ
        have hVc126ξ : ∀ o k, zNs o k → Mc126 o k = (zp_set (zp_set (zp_set (zp_set V 0 0 0) 0 8 0) 3 (2000 + 6) p2ξ) 0 1 0) o k := hVc126ξ
        have htc126ξ : rnc126ξ = (V 3 (2000 + 6)) := (Eq.trans htc126ξ) (((zp_set_ne (Or.inl (by decide))).trans ((zp_set_ne (Or.inl (by decide))).trans (rfl))))
        have htc126ξ := (Eq.symm htc126ξ)
        subst htc126ξ
        refine zp_iret (pc := 84) (n := (V 3 (2000 + 6))) hx hb hEξ hQξ hU5ξ rfl (by decide) (zd_X12_terms (84, .ireturn, 1, 0, []) (List.mem_of_getElem? (i := 48) rfl)) (j := 0) rfl (zp_o0 (by omega) (by omega) (by omega) (by omega)) ?_
        rw [hpsξ]
        refine ⟨rfl, ?_⟩
        have hffξ : zf_ter V p1ξ p2ξ = ((V 3 (2000 + 6)), (zp_set (zp_set (zp_set (zp_set V 0 0 0) 0 8 0) 3 (2000 + 6) p2ξ) 0 1 0)) := by
          unfold zf_ter
          rw [if_pos hc108ξ, if_neg hc109ξ, if_pos ((Iff.mp htn122ξ) (by omega))]
        show zMVr A (zf_ter V p1ξ p2ξ).2 u.1 Gc126 ∧ (V 3 (2000 + 6)) = (zf_ter V p1ξ p2ξ).1
        rw [hffξ]
        exact ⟨⟨Mc126, hMc126ξ, hVc126ξ, hSbc126ξ⟩, rfl⟩
      · have hbf125ξ : ¬ (1 ≤ p2ξ ∧ p2ξ ≤ 9) := fun h9ξ => absurd ((Iff.mpr htn122ξ) h9ξ) (by omega)
        refine zp_load (pc := 65) hx hb (zd_X12_terms (65, .aload_n 0, 1, 0, []) (List.mem_of_getElem? (i := 35) rfl)) rfl (j := 1) rfl ?_
        refine zp_const (pc := 66) hx hb (zd_X12_terms (66, .iconst (-1), 1, 0, []) (List.mem_of_getElem? (i := 36) rfl)) rfl rfl ?_
        refine zp_call (pc := 67) (how := 0) (idx := 170) (mi := 183) (S := []) hx hb hEξ hwξ heffξ hrmξ (zX_tll hWξ A (zp_set V 0 0 0)) rfl (j := 0) rfl rfl (by decide +kernel) (zd_X12_terms (67, .invokevirtual 170, 3, 0, []) (List.mem_of_getElem? (i := 37) rfl)) [(A 0 : Int), (-1)] rfl ⟨zp_o2 (zM_P hMξ (List.mem_of_getElem? (i := 0) rfl)), zp_o0 (by omega) (by omega) (by omega) (by omega), trivial⟩ (Nat.le_of_ble_eq_true rfl) ⟨⟨(zp_set M 0 0 0), (zM_set hMξ (List.mem_of_getElem? (i := 0) rfl) (by decide)), (zV_set hVξ), (zSb_set (by decide) hSbξ)⟩, rfl, (show -6 ≤ (-1) by omega)⟩ (fun al halξ rnt128ξ Pt128 Gt128 hextt128ξ hfrt128ξ hokt128ξ hcst128ξ hpsit128ξ => ?_)
        obtain rfl := List.mem_singleton.mp halξ
        have hrt128ξ := zp_int (hokt128ξ _ rfl).1
        obtain ⟨hPet128ξ, ⟨Mt128, hMt128ξ, hVt128ξ, hSbt128ξ⟩, htt128ξ⟩ := hpsit128ξ
        subst hPet128ξ
        clear hextt128ξ hfrt128ξ hcst128ξ hokt128ξ
        have hVt128ξ : ∀ o k, zNs o k → Mt128 o k = (zT_tell (zp_set V 0 0 0) (-1)) o k := hVt128ξ
        have htt128ξ : rnt128ξ = (-1) := htt128ξ
        have htt128ξ := (Eq.symm htt128ξ)
        subst htt128ξ
        refine zp_iret (pc := 70) (n := (-1)) hx hb hEξ hQξ hU5ξ rfl (by decide) (zd_X12_terms (70, .ireturn, 1, 0, []) (List.mem_of_getElem? (i := 38) rfl)) (j := 0) rfl (zp_o0 (by omega) (by omega) (by omega) (by omega)) ?_
        rw [hpsξ]
        refine ⟨rfl, ?_⟩
        have hffξ : zf_ter V p1ξ p2ξ = ((-1), (zT_tell (zp_set V 0 0 0) (-1))) := by
          unfold zf_ter
          rw [if_pos hc108ξ, if_neg hc109ξ, if_neg (fun h9ξ => absurd ((Iff.mpr htn122ξ) h9ξ) (by omega))]
        show zMVr A (zf_ter V p1ξ p2ξ).2 u.1 Gt128 ∧ (-1) = (zf_ter V p1ξ p2ξ).1
        rw [hffξ]
        exact ⟨⟨Mt128, hMt128ξ, hVt128ξ, hSbt128ξ⟩, rfl⟩
  · refine zp_load (pc := 9) hx hb (zd_X12_terms (9, .iload_n 2, 1, 0, []) (List.mem_of_getElem? (i := 5) rfl)) rfl (j := 2) rfl ?_
    refine zp_i2l (pc := 10) hx hb (zd_X12_terms (10, .i2l, 1, 0, []) (List.mem_of_getElem? (i := 6) rfl)) ?_
    refine zp_const (pc := 11) hx hb (zd_X12_terms (11, .lconst 0, 1, 0, []) (List.mem_of_getElem? (i := 7) rfl)) rfl rfl ?_
    refine zp_ldc2 (pc := 12) hx hb hEξ (zd_X12_terms (12, .ldc2_w 226, 3, 0, []) (List.mem_of_getElem? (i := 8) rfl)) (j := 89) rfl ?_
    refine zp_call (pc := 15) (how := 1) (idx := 181) (mi := 186) (S := []) hx hb hEξ hwξ heffξ hrmξ (zX_in2 hWξ) rfl (j := 2) rfl rfl (by decide +kernel) (zd_X12_terms (15, .invokestatic 181, 3, 0, []) (List.mem_of_getElem? (i := 9) rfl)) [p2ξ, 0, 999] rfl ⟨zp_o1 (by first | assumption | exact zp_r1 (by omega) (by omega)), zp_o1 (by first | assumption | exact zp_r1 (by omega) (by omega)), zp_o1 (by first | assumption | exact zp_r1 (by omega) (by omega)), trivial⟩ (Nat.le_of_ble_eq_true rfl) trivial (fun al halξ rnn129ξ Pn129 Gn129 hextn129ξ hfrn129ξ hokn129ξ hcsn129ξ hpsin129ξ => ?_)
    obtain rfl := List.mem_singleton.mp halξ
    have hrn129ξ := zp_int (hokn129ξ _ rfl).1
    obtain ⟨hPen129ξ, hGen129ξ, htn129ξ⟩ := hpsin129ξ
    rw [hPen129ξ, hGen129ξ]
    clear hextn129ξ hfrn129ξ hcsn129ξ hPen129ξ hGen129ξ
    have htn129ξ : rnn129ξ = 1 ↔ 0 ≤ p2ξ ∧ p2ξ ≤ 999 := htn129ξ
    refine zp_goto (tgt := 60) (pc := 18) hx hb (zd_X12_terms (18, .goto 42, 3, 0, []) (List.mem_of_getElem? (i := 10) rfl)) rfl ?_
    refine zp_store (L' := [(3, 0, rnn129ξ), (0, 2, (A 0 : Int)), (1, 0, p1ξ), (2, 0, p2ξ)]) (pc := 60) hx hb hnLξ (zd_X12_terms (60, .istore_n 3, 1, 0, []) (List.mem_of_getElem? (i := 32) rfl)) rfl rfl rfl ?_
    refine zp_load (pc := 61) hx hb (zd_X12_terms (61, .iload_n 3, 1, 0, []) (List.mem_of_getElem? (i := 33) rfl)) rfl (j := 0) rfl ?_
    refine zp_if (pc := 62) (tgt := 71) hx hb (zd_X12_terms (62, .ifCond .ne 9, 3, 0, []) (List.mem_of_getElem? (i := 34) rfl)) rfl (fun (hc130ξ : ¬ rnn129ξ = 0) => ?_) (fun (hc130ξ : ¬ (¬ rnn129ξ = 0)) => ?_)
    · have hbt131ξ := (Iff.mp htn129ξ) (by omega)
      refine zp_load (pc := 71) hx hb (zd_X12_terms (71, .aload_n 0, 1, 0, []) (List.mem_of_getElem? (i := 39) rfl)) rfl (j := 1) rfl ?_
      refine zp_const (pc := 72) hx hb (zd_X12_terms (72, .iconst 0, 1, 0, []) (List.mem_of_getElem? (i := 40) rfl)) rfl rfl ?_
      refine zp_putf (pc := 73) hx hb hEξ hwξ heffξ (zd_X12_terms (73, .putfield 167, 3, 0, []) (List.mem_of_getElem? (i := 41) rfl)) (j := 26) rfl rfl rfl (zM_P hMξ (List.mem_of_getElem? (i := 0) rfl)) (zp_o0 (by decide) (by decide) (by decide) (by decide)) ?_
      refine zp_load (pc := 76) hx hb (zd_X12_terms (76, .aload_n 0, 1, 0, []) (List.mem_of_getElem? (i := 42) rfl)) rfl (j := 1) rfl ?_
      refine zp_const (pc := 77) hx hb (zd_X12_terms (77, .iconst 5, 1, 0, []) (List.mem_of_getElem? (i := 43) rfl)) rfl rfl ?_
      refine zp_load (pc := 78) hx hb (zd_X12_terms (78, .iload_n 1, 1, 0, []) (List.mem_of_getElem? (i := 44) rfl)) rfl (j := 2) rfl ?_
      refine zp_add (n := (5 + p1ξ)) (pc := 79) hx hb (zd_X12_terms (79, .iadd, 1, 0, []) (List.mem_of_getElem? (i := 45) rfl)) (by omega) (zp_r0 (by omega) (by omega)) ?_
      refine zp_load (pc := 80) hx hb (zd_X12_terms (80, .iload_n 2, 1, 0, []) (List.mem_of_getElem? (i := 46) rfl)) rfl (j := 3) rfl ?_
      have hr134ξ := hRξ 5 (by omega)
      refine zp_call (pc := 81) (how := 0) (idx := 196) (mi := 190) (S := []) hx hb hEξ hwξ heffξ hrmξ (zX_chg hWξ A (zp_set (zp_set V 0 0 0) 0 8 0) 5) rfl (j := 4) rfl rfl (by decide +kernel) (zd_X12_terms (81, .invokevirtual 196, 3, 0, []) (List.mem_of_getElem? (i := 47) rfl)) [(A 0 : Int), (5 + p1ξ), p2ξ] rfl ⟨zp_o2 (zM_P hMξ (List.mem_of_getElem? (i := 0) rfl)), zp_o0 (by omega) (by omega) (by omega) (by omega), zp_o0 (by omega) (by omega) (by omega) (by omega), trivial⟩ (Nat.le_of_ble_eq_true rfl) ⟨⟨(zp_set (zp_set M 0 0 0) 0 8 0), (zM_set (zM_set hMξ (List.mem_of_getElem? (i := 0) rfl) (by decide)) (List.mem_of_getElem? (i := 0) rfl) (by decide)), (zV_set (zV_set hVξ)), (zSb_set (by decide) (zSb_set (by decide) hSbξ))⟩, rfl, (show (5 + p1ξ) = ((5 : Nat) : Int) by omega), by omega, (show -2147483648 ≤ (zp_set (zp_set V 0 0 0) 0 8 0) 3 (2000 + 5) ∧ (zp_set (zp_set V 0 0 0) 0 8 0) 3 (2000 + 5) ≤ 2147483647 by rw [((zp_set_ne (Or.inl (by decide))).trans ((zp_set_ne (Or.inl (by decide))).trans (rfl)))]; omega), (show (-2147483648) ≤ p2ξ by omega), (show p2ξ ≤ 2147483647 by omega)⟩ (fun al halξ rnc133ξ Pc133 Gc133 hextc133ξ hfrc133ξ hokc133ξ hcsc133ξ hpsic133ξ => ?_)
      obtain rfl := List.mem_singleton.mp halξ
      have hrc133ξ := zp_int (hokc133ξ _ rfl).1
      obtain ⟨hPec133ξ, ⟨Mc133, hMc133ξ, hVc133ξ, hSbc133ξ⟩, htc133ξ⟩ := hpsic133ξ
      subst hPec133ξ
      clear hextc133ξ hfrc133ξ hcsc133ξ hokc133ξ
      have hVc133ξ : ∀ o k, zNs o k → Mc133 o k = (zp_set (zp_set (zp_set (zp_set V 0 0 0) 0 8 0) 3 (2000 + 5) p2ξ) 0 1 0) o k := hVc133ξ
      have htc133ξ : rnc133ξ = (V 3 (2000 + 5)) := (Eq.trans htc133ξ) (((zp_set_ne (Or.inl (by decide))).trans ((zp_set_ne (Or.inl (by decide))).trans (rfl))))
      have htc133ξ := (Eq.symm htc133ξ)
      subst htc133ξ
      refine zp_iret (pc := 84) (n := (V 3 (2000 + 5))) hx hb hEξ hQξ hU5ξ rfl (by decide) (zd_X12_terms (84, .ireturn, 1, 0, []) (List.mem_of_getElem? (i := 48) rfl)) (j := 0) rfl (zp_o0 (by omega) (by omega) (by omega) (by omega)) ?_
      rw [hpsξ]
      refine ⟨rfl, ?_⟩
      have hffξ : zf_ter V p1ξ p2ξ = ((V 3 (2000 + 5)), (zp_set (zp_set (zp_set (zp_set V 0 0 0) 0 8 0) 3 (2000 + 5) p2ξ) 0 1 0)) := by
        unfold zf_ter
        rw [if_neg hc108ξ, if_pos ((Iff.mp htn129ξ) (by omega))]
      show zMVr A (zf_ter V p1ξ p2ξ).2 u.1 Gc133 ∧ (V 3 (2000 + 5)) = (zf_ter V p1ξ p2ξ).1
      rw [hffξ]
      exact ⟨⟨Mc133, hMc133ξ, hVc133ξ, hSbc133ξ⟩, rfl⟩
    · have hbf132ξ : ¬ (0 ≤ p2ξ ∧ p2ξ ≤ 999) := fun h9ξ => absurd ((Iff.mpr htn129ξ) h9ξ) (by omega)
      refine zp_load (pc := 65) hx hb (zd_X12_terms (65, .aload_n 0, 1, 0, []) (List.mem_of_getElem? (i := 35) rfl)) rfl (j := 1) rfl ?_
      refine zp_const (pc := 66) hx hb (zd_X12_terms (66, .iconst (-1), 1, 0, []) (List.mem_of_getElem? (i := 36) rfl)) rfl rfl ?_
      refine zp_call (pc := 67) (how := 0) (idx := 170) (mi := 183) (S := []) hx hb hEξ hwξ heffξ hrmξ (zX_tll hWξ A (zp_set V 0 0 0)) rfl (j := 0) rfl rfl (by decide +kernel) (zd_X12_terms (67, .invokevirtual 170, 3, 0, []) (List.mem_of_getElem? (i := 37) rfl)) [(A 0 : Int), (-1)] rfl ⟨zp_o2 (zM_P hMξ (List.mem_of_getElem? (i := 0) rfl)), zp_o0 (by omega) (by omega) (by omega) (by omega), trivial⟩ (Nat.le_of_ble_eq_true rfl) ⟨⟨(zp_set M 0 0 0), (zM_set hMξ (List.mem_of_getElem? (i := 0) rfl) (by decide)), (zV_set hVξ), (zSb_set (by decide) hSbξ)⟩, rfl, (show -6 ≤ (-1) by omega)⟩ (fun al halξ rnt135ξ Pt135 Gt135 hextt135ξ hfrt135ξ hokt135ξ hcst135ξ hpsit135ξ => ?_)
      obtain rfl := List.mem_singleton.mp halξ
      have hrt135ξ := zp_int (hokt135ξ _ rfl).1
      obtain ⟨hPet135ξ, ⟨Mt135, hMt135ξ, hVt135ξ, hSbt135ξ⟩, htt135ξ⟩ := hpsit135ξ
      subst hPet135ξ
      clear hextt135ξ hfrt135ξ hcst135ξ hokt135ξ
      have hVt135ξ : ∀ o k, zNs o k → Mt135 o k = (zT_tell (zp_set V 0 0 0) (-1)) o k := hVt135ξ
      have htt135ξ : rnt135ξ = (-1) := htt135ξ
      have htt135ξ := (Eq.symm htt135ξ)
      subst htt135ξ
      refine zp_iret (pc := 70) (n := (-1)) hx hb hEξ hQξ hU5ξ rfl (by decide) (zd_X12_terms (70, .ireturn, 1, 0, []) (List.mem_of_getElem? (i := 38) rfl)) (j := 0) rfl (zp_o0 (by omega) (by omega) (by omega) (by omega)) ?_
      rw [hpsξ]
      refine ⟨rfl, ?_⟩
      have hffξ : zf_ter V p1ξ p2ξ = ((-1), (zT_tell (zp_set V 0 0 0) (-1))) := by
        unfold zf_ter
        rw [if_neg hc108ξ, if_neg (fun h9ξ => absurd ((Iff.mpr htn129ξ) h9ξ) (by omega))]
      show zMVr A (zf_ter V p1ξ p2ξ).2 u.1 Gt135 ∧ (-1) = (zf_ter V p1ξ p2ξ).1
      rw [hffξ]
      exact ⟨⟨Mt135, hMt135ξ, hVt135ξ, hSbt135ξ⟩, rfl⟩
noncomputable def zf_wk1 (V : Nat → Nat → Int) (npξ n1ξ : Nat) (p1ξ : Int) (p2ξ : Int) (p3ξ : Int) (p4ξ : Int) (p5ξ : Int) : Int × (Nat → Nat → Int) := if 1 ≤ p2ξ ∧ p2ξ ≤ 600 then if 0 ≤ p3ξ ∧ p3ξ ≤ 23 then if 1 ≤ p4ξ ∧ p4ξ ≤ 99 then if 0 ≤ p1ξ ∧ p1ξ < (npξ : Int) then if p5ξ = (-1) then if ¬ (n1ξ : Int) = 10 then ((n1ξ : Int), (zp_set (zp_set (zp_set (zp_set (zp_set (zp_set (zp_set V 3 (2000 + (5 * n1ξ + 39)) p1ξ) 3 (2000 + (5 * n1ξ + 40)) p2ξ) 3 (2000 + (5 * n1ξ + 41)) p3ξ) 3 (2000 + (5 * n1ξ + 42)) p4ξ) 3 (2000 + (5 * n1ξ + 43)) p5ξ) 3 (2000 + (n1ξ + 29)) 0) 3 (2000 + 1) ((n1ξ : Int) + 1))) else ((-5), V) else if 0 ≤ p5ξ ∧ p5ξ < (n1ξ : Int) then if ¬ (n1ξ : Int) = 10 then ((n1ξ : Int), (zp_set (zp_set (zp_set (zp_set (zp_set (zp_set (zp_set V 3 (2000 + (5 * n1ξ + 39)) p1ξ) 3 (2000 + (5 * n1ξ + 40)) p2ξ) 3 (2000 + (5 * n1ξ + 41)) p3ξ) 3 (2000 + (5 * n1ξ + 42)) p4ξ) 3 (2000 + (5 * n1ξ + 43)) p5ξ) 3 (2000 + (n1ξ + 29)) 0) 3 (2000 + 1) ((n1ξ : Int) + 1))) else ((-5), V) else ((-2), V) else ((-2), V) else ((-1), V) else ((-1), V) else ((-1), V)
noncomputable def zK_wk1 : zk_K := (zt_mn 199, prog_14_method_26_code, 8, (Option.some Jvm.ClassFile.FieldType.int), 1, 12, [(2, 13, 0, 0), (0, 0, (-2147483648), 2147483647), (0, 0, (-2147483648), 2147483647), (0, 0, (-2147483648), 2147483647), (0, 0, (-2147483648), 2147483647), (0, 0, (-2147483648), 2147483647)], [(some (0, 0, (-2147483648), 2147483647), [])], zUE, (3, 180, 0, 0))
noncomputable def zφ_wk1 (A : Nat → Nat) (V : Nat → Nat → Int) (npξ n1ξ : Nat) : (Nat → Option Nat) → (Nat → Nat → Int) → List Int → Prop := fun P G ps => zMVr A V P G ∧ ps.getD 0 0 = (A 0 : Int) ∧ (∀ j, j < 5580 → -2147483648 ≤ V 3 (2000 + j) ∧ V 3 (2000 + j) ≤ 2147483647) ∧ V 3 (2000 + 0) = (npξ : Int) ∧ npξ ≤ 6 ∧ V 3 (2000 + 1) = (n1ξ : Int) ∧ n1ξ ≤ 10
noncomputable def zψ_wk1 (A : Nat → Nat) (V : Nat → Nat → Int) (npξ n1ξ : Nat) : (Nat → Option Nat) → (Nat → Nat → Int) → List Int → (Nat → Option Nat) → (Nat → Nat → Int) → Int → Prop := fun P G ps P' G' rn => P' = P ∧ zMVr A (zf_wk1 V npξ n1ξ (ps.getD 1 0) (ps.getD 2 0) (ps.getD 3 0) (ps.getD 4 0) (ps.getD 5 0)).2 P' G' ∧ rn = (zf_wk1 V npξ n1ξ (ps.getD 1 0) (ps.getD 2 0) (ps.getD 3 0) (ps.getD 4 0) (ps.getD 5 0)).1
theorem zX_wk1 {l : Launch} {w : zk_W} (hWξ : zh_W w) (A : Nat → Nat) (V : Nat → Nat → Int) (npξ n1ξ : Nat) : zk_metX l w zt_dv zt_TB zK_wk1 (zp_A (zφ_wk1 A V npξ n1ξ)) (zp_B (zψ_wk1 A V npξ n1ξ)) ∧ zk_cok w zt_TB zK_wk1 := by
  refine zp_methX (cn := "WoundTownModel") zp_lkall hWξ (pl := 1628) rfl (by decide +kernel) (fun p e R s m args below meth c Q u hx hb hEξ hQξ hU5ξ heffξ hnLξ hokξ hφ => ?_)
  have hwξ := hWξ.1
  obtain ⟨p0ξ, p1ξ, p2ξ, p3ξ, p4ξ, p5ξ, hpsξ, tk0, tk1, tk2, tk3, tk4, tk5⟩ := zp_ps6 hokξ
  have hrmξ : zk_Kr (zk_ev (zt_types, zp_lk, zt_dv, [], [], zp_lc, zK_wk1)) = zk_Kr zK_wk1 := rfl
  rw [hpsξ] at hφ ⊢
  have hφ : zMVr A V u.1 (zp_n u.2.1) ∧ p0ξ = (A 0 : Int) ∧ (∀ j, j < 5580 → -2147483648 ≤ V 3 (2000 + j) ∧ V 3 (2000 + j) ≤ 2147483647) ∧ V 3 (2000 + 0) = (npξ : Int) ∧ npξ ≤ 6 ∧ V 3 (2000 + 1) = (n1ξ : Int) ∧ n1ξ ≤ 10 := hφ
  obtain ⟨⟨M, hMξ, hVξ, hSbξ⟩, rfl, hRξ, hnpξ, hnp6ξ, hn1ξ, hn10ξ⟩ := hφ
  have hi1ξ := zp_int tk1
  have hi2ξ := zp_int tk2
  have hi3ξ := zp_int tk3
  have hi4ξ := zp_int tk4
  have hi5ξ := zp_int tk5
  show zp_J p l e R s m args below meth c Q w u [] 0 [(0, 2, (A 0 : Int)), (1, 0, p1ξ), (2, 0, p2ξ), (3, 0, p3ξ), (4, 0, p4ξ), (5, 0, p5ξ)] [] u.1 (zp_n u.2.1)
  refine zp_load (pc := 0) hx hb (zd_X12_work1 (0, .iload_n 2, 1, 0, []) (List.mem_of_getElem? (i := 0) rfl)) rfl (j := 2) rfl ?_
  refine zp_i2l (pc := 1) hx hb (zd_X12_work1 (1, .i2l, 1, 0, []) (List.mem_of_getElem? (i := 1) rfl)) ?_
  refine zp_const (pc := 2) hx hb (zd_X12_work1 (2, .lconst 1, 1, 0, []) (List.mem_of_getElem? (i := 2) rfl)) rfl rfl ?_
  refine zp_ldc2 (pc := 3) hx hb hEξ (zd_X12_work1 (3, .ldc2_w 213, 3, 0, []) (List.mem_of_getElem? (i := 3) rfl)) (j := 86) rfl ?_
  refine zp_call (pc := 6) (how := 1) (idx := 181) (mi := 186) (S := []) hx hb hEξ hwξ heffξ hrmξ (zX_in2 hWξ) rfl (j := 2) rfl rfl (by decide +kernel) (zd_X12_work1 (6, .invokestatic 181, 3, 0, []) (List.mem_of_getElem? (i := 4) rfl)) [p2ξ, 1, 600] rfl ⟨zp_o1 (by first | assumption | exact zp_r1 (by omega) (by omega)), zp_o1 (by first | assumption | exact zp_r1 (by omega) (by omega)), zp_o1 (by first | assumption | exact zp_r1 (by omega) (by omega)), trivial⟩ (Nat.le_of_ble_eq_true rfl) trivial (fun al halξ rnn136ξ Pn136 Gn136 hextn136ξ hfrn136ξ hokn136ξ hcsn136ξ hpsin136ξ => ?_)
  obtain rfl := List.mem_singleton.mp halξ
  have hrn136ξ := zp_int (hokn136ξ _ rfl).1
  obtain ⟨hPen136ξ, hGen136ξ, htn136ξ⟩ := hpsin136ξ
  rw [hPen136ξ, hGen136ξ]
  clear hextn136ξ hfrn136ξ hcsn136ξ hPen136ξ hGen136ξ
  have htn136ξ : rnn136ξ = 1 ↔ 1 ≤ p2ξ ∧ p2ξ ≤ 600 := htn136ξ
  refine zp_if (pc := 9) (tgt := 37) hx hb (zd_X12_work1 (9, .ifCond .eq 28, 3, 0, []) (List.mem_of_getElem? (i := 5) rfl)) rfl (fun (hc137ξ : rnn136ξ = 0) => ?_) (fun (hc137ξ : ¬ (rnn136ξ = 0)) => ?_)
  · have hbf138ξ : ¬ (1 ≤ p2ξ ∧ p2ξ ≤ 600) := fun h9ξ => absurd ((Iff.mpr htn136ξ) h9ξ) (by omega)
    refine zp_const (pc := 37) hx hb (zd_X12_work1 (37, .iconst (-1), 1, 0, []) (List.mem_of_getElem? (i := 18) rfl)) rfl rfl ?_
    refine zp_iret (pc := 38) (n := (-1)) hx hb hEξ hQξ hU5ξ rfl (by decide) (zd_X12_work1 (38, .ireturn, 1, 0, []) (List.mem_of_getElem? (i := 19) rfl)) (j := 0) rfl (zp_o0 (by omega) (by omega) (by omega) (by omega)) ?_
    rw [hpsξ]
    refine ⟨rfl, ?_⟩
    have hffξ : zf_wk1 V npξ n1ξ p1ξ p2ξ p3ξ p4ξ p5ξ = ((-1), V) := by
      unfold zf_wk1
      rw [if_neg (fun h9ξ => absurd ((Iff.mpr htn136ξ) h9ξ) (by omega))]
    show zMVr A (zf_wk1 V npξ n1ξ p1ξ p2ξ p3ξ p4ξ p5ξ).2 u.1 (zp_n u.2.1) ∧ (-1) = (zf_wk1 V npξ n1ξ p1ξ p2ξ p3ξ p4ξ p5ξ).1
    rw [hffξ]
    exact ⟨⟨M, hMξ, hVξ, hSbξ⟩, rfl⟩
  · have hbt139ξ := (Iff.mp htn136ξ) (by omega)
    refine zp_load (pc := 12) hx hb (zd_X12_work1 (12, .iload_n 3, 1, 0, []) (List.mem_of_getElem? (i := 6) rfl)) rfl (j := 3) rfl ?_
    refine zp_i2l (pc := 13) hx hb (zd_X12_work1 (13, .i2l, 1, 0, []) (List.mem_of_getElem? (i := 7) rfl)) ?_
    refine zp_const (pc := 14) hx hb (zd_X12_work1 (14, .lconst 0, 1, 0, []) (List.mem_of_getElem? (i := 8) rfl)) rfl rfl ?_
    refine zp_ldc2 (pc := 15) hx hb hEξ (zd_X12_work1 (15, .ldc2_w 215, 3, 0, []) (List.mem_of_getElem? (i := 9) rfl)) (j := 87) rfl ?_
    refine zp_call (pc := 18) (how := 1) (idx := 181) (mi := 186) (S := []) hx hb hEξ hwξ heffξ hrmξ (zX_in2 hWξ) rfl (j := 2) rfl rfl (by decide +kernel) (zd_X12_work1 (18, .invokestatic 181, 3, 0, []) (List.mem_of_getElem? (i := 10) rfl)) [p3ξ, 0, 23] rfl ⟨zp_o1 (by first | assumption | exact zp_r1 (by omega) (by omega)), zp_o1 (by first | assumption | exact zp_r1 (by omega) (by omega)), zp_o1 (by first | assumption | exact zp_r1 (by omega) (by omega)), trivial⟩ (Nat.le_of_ble_eq_true rfl) trivial (fun al halξ rnn140ξ Pn140 Gn140 hextn140ξ hfrn140ξ hokn140ξ hcsn140ξ hpsin140ξ => ?_)
    obtain rfl := List.mem_singleton.mp halξ
    have hrn140ξ := zp_int (hokn140ξ _ rfl).1
    obtain ⟨hPen140ξ, hGen140ξ, htn140ξ⟩ := hpsin140ξ
    rw [hPen140ξ, hGen140ξ]
    clear hextn140ξ hfrn140ξ hcsn140ξ hPen140ξ hGen140ξ
    have htn140ξ : rnn140ξ = 1 ↔ 0 ≤ p3ξ ∧ p3ξ ≤ 23 := htn140ξ
    refine zp_if (pc := 21) (tgt := 37) hx hb (zd_X12_work1 (21, .ifCond .eq 16, 3, 0, []) (List.mem_of_getElem? (i := 11) rfl)) rfl (fun (hc141ξ : rnn140ξ = 0) => ?_) (fun (hc141ξ : ¬ (rnn140ξ = 0)) => ?_)
    · have hbf142ξ : ¬ (0 ≤ p3ξ ∧ p3ξ ≤ 23) := fun h9ξ => absurd ((Iff.mpr htn140ξ) h9ξ) (by omega)
      refine zp_const (pc := 37) hx hb (zd_X12_work1 (37, .iconst (-1), 1, 0, []) (List.mem_of_getElem? (i := 18) rfl)) rfl rfl ?_
      refine zp_iret (pc := 38) (n := (-1)) hx hb hEξ hQξ hU5ξ rfl (by decide) (zd_X12_work1 (38, .ireturn, 1, 0, []) (List.mem_of_getElem? (i := 19) rfl)) (j := 0) rfl (zp_o0 (by omega) (by omega) (by omega) (by omega)) ?_
      rw [hpsξ]
      refine ⟨rfl, ?_⟩
      have hffξ : zf_wk1 V npξ n1ξ p1ξ p2ξ p3ξ p4ξ p5ξ = ((-1), V) := by
        unfold zf_wk1
        rw [if_pos ((Iff.mp htn136ξ) (by omega)), if_neg (fun h9ξ => absurd ((Iff.mpr htn140ξ) h9ξ) (by omega))]
      show zMVr A (zf_wk1 V npξ n1ξ p1ξ p2ξ p3ξ p4ξ p5ξ).2 u.1 (zp_n u.2.1) ∧ (-1) = (zf_wk1 V npξ n1ξ p1ξ p2ξ p3ξ p4ξ p5ξ).1
      rw [hffξ]
      exact ⟨⟨M, hMξ, hVξ, hSbξ⟩, rfl⟩
    · have hbt143ξ := (Iff.mp htn140ξ) (by omega)
      refine zp_load (pc := 24) hx hb (zd_X12_work1 (24, .iload 4, 2, 0, []) (List.mem_of_getElem? (i := 12) rfl)) rfl (j := 4) rfl ?_
      refine zp_i2l (pc := 26) hx hb (zd_X12_work1 (26, .i2l, 1, 0, []) (List.mem_of_getElem? (i := 13) rfl)) ?_
      refine zp_const (pc := 27) hx hb (zd_X12_work1 (27, .lconst 1, 1, 0, []) (List.mem_of_getElem? (i := 14) rfl)) rfl rfl ?_
      refine zp_ldc2 (pc := 28) hx hb hEξ (zd_X12_work1 (28, .ldc2_w 194, 3, 0, []) (List.mem_of_getElem? (i := 15) rfl)) (j := 83) rfl ?_
      refine zp_call (pc := 31) (how := 1) (idx := 181) (mi := 186) (S := []) hx hb hEξ hwξ heffξ hrmξ (zX_in2 hWξ) rfl (j := 2) rfl rfl (by decide +kernel) (zd_X12_work1 (31, .invokestatic 181, 3, 0, []) (List.mem_of_getElem? (i := 16) rfl)) [p4ξ, 1, 99] rfl ⟨zp_o1 (by first | assumption | exact zp_r1 (by omega) (by omega)), zp_o1 (by first | assumption | exact zp_r1 (by omega) (by omega)), zp_o1 (by first | assumption | exact zp_r1 (by omega) (by omega)), trivial⟩ (Nat.le_of_ble_eq_true rfl) trivial (fun al halξ rnn144ξ Pn144 Gn144 hextn144ξ hfrn144ξ hokn144ξ hcsn144ξ hpsin144ξ => ?_)
      obtain rfl := List.mem_singleton.mp halξ
      have hrn144ξ := zp_int (hokn144ξ _ rfl).1
      obtain ⟨hPen144ξ, hGen144ξ, htn144ξ⟩ := hpsin144ξ
      rw [hPen144ξ, hGen144ξ]
      clear hextn144ξ hfrn144ξ hcsn144ξ hPen144ξ hGen144ξ
      have htn144ξ : rnn144ξ = 1 ↔ 1 ≤ p4ξ ∧ p4ξ ≤ 99 := htn144ξ
      refine zp_if (pc := 34) (tgt := 39) hx hb (zd_X12_work1 (34, .ifCond .ne 5, 3, 0, []) (List.mem_of_getElem? (i := 17) rfl)) rfl (fun (hc145ξ : ¬ rnn144ξ = 0) => ?_) (fun (hc145ξ : ¬ (¬ rnn144ξ = 0)) => ?_)
      · have hbt146ξ := (Iff.mp htn144ξ) (by omega)
        refine zp_load (pc := 39) hx hb (zd_X12_work1 (39, .aload_n 0, 1, 0, []) (List.mem_of_getElem? (i := 20) rfl)) rfl (j := 0) rfl ?_
        refine zp_load (pc := 40) hx hb (zd_X12_work1 (40, .iload_n 1, 1, 0, []) (List.mem_of_getElem? (i := 21) rfl)) rfl (j := 1) rfl ?_
        refine zp_call (pc := 41) (how := 0) (idx := 201) (mi := 193) (S := []) hx hb hEξ hwξ heffξ hrmξ (zX_isp hWξ A M) rfl (j := 5) rfl rfl (by decide +kernel) (zd_X12_work1 (41, .invokevirtual 201, 3, 0, []) (List.mem_of_getElem? (i := 22) rfl)) [(A 0 : Int), p1ξ] rfl ⟨zp_o2 (zM_P hMξ (List.mem_of_getElem? (i := 0) rfl)), zp_o0 (by omega) (by omega) (by omega) (by omega), trivial⟩ (Nat.le_of_ble_eq_true rfl) ⟨hMξ, rfl, (show -2147483647 ≤ M 3 (2000 + 0) ∧ M 3 (2000 + 0) ≤ 2147483647 by rw [((hVξ 3 (2000 + 0) (Or.inl (by decide))).trans hnpξ)]; omega)⟩ (fun al halξ rni148ξ Pi148 Gi148 hexti148ξ hfri148ξ hoki148ξ hcsi148ξ hpsii148ξ => ?_)
        obtain rfl := List.mem_singleton.mp halξ
        have hri148ξ := zp_int (hoki148ξ _ rfl).1
        obtain ⟨hPei148ξ, hGei148ξ, hti148ξ⟩ := hpsii148ξ
        rw [hPei148ξ, hGei148ξ]
        clear hexti148ξ hfri148ξ hcsi148ξ hPei148ξ hGei148ξ
        have hti148ξ : rni148ξ = 1 ↔ 0 ≤ p1ξ ∧ p1ξ < (npξ : Int) := by
          have h9ξ : rni148ξ = 1 ↔ 0 ≤ p1ξ ∧ p1ξ < M 3 (2000 + 0) := hti148ξ
          rw [((hVξ 3 (2000 + 0) (Or.inl (by decide))).trans hnpξ)] at h9ξ
          exact h9ξ
        refine zp_if (pc := 44) (tgt := 62) hx hb (zd_X12_work1 (44, .ifCond .eq 18, 3, 0, []) (List.mem_of_getElem? (i := 23) rfl)) rfl (fun (hc149ξ : rni148ξ = 0) => ?_) (fun (hc149ξ : ¬ (rni148ξ = 0)) => ?_)
        · have hbf150ξ : ¬ (0 ≤ p1ξ ∧ p1ξ < (npξ : Int)) := fun h9ξ => absurd ((Iff.mpr hti148ξ) h9ξ) (by omega)
          refine zp_const (pc := 62) hx hb (zd_X12_work1 (62, .bipush (-2), 2, 0, []) (List.mem_of_getElem? (i := 31) rfl)) rfl rfl ?_
          refine zp_iret (pc := 64) (n := (-2)) hx hb hEξ hQξ hU5ξ rfl (by decide) (zd_X12_work1 (64, .ireturn, 1, 0, []) (List.mem_of_getElem? (i := 32) rfl)) (j := 0) rfl (zp_o0 (by omega) (by omega) (by omega) (by omega)) ?_
          rw [hpsξ]
          refine ⟨rfl, ?_⟩
          have hffξ : zf_wk1 V npξ n1ξ p1ξ p2ξ p3ξ p4ξ p5ξ = ((-2), V) := by
            unfold zf_wk1
            rw [if_pos ((Iff.mp htn136ξ) (by omega)), if_pos ((Iff.mp htn140ξ) (by omega)), if_pos ((Iff.mp htn144ξ) (by omega)), if_neg (fun h9ξ => absurd ((Iff.mpr hti148ξ) h9ξ) (by omega))]
          show zMVr A (zf_wk1 V npξ n1ξ p1ξ p2ξ p3ξ p4ξ p5ξ).2 u.1 (zp_n u.2.1) ∧ (-2) = (zf_wk1 V npξ n1ξ p1ξ p2ξ p3ξ p4ξ p5ξ).1
          rw [hffξ]
          exact ⟨⟨M, hMξ, hVξ, hSbξ⟩, rfl⟩
        · have hbt151ξ := (Iff.mp hti148ξ) (by omega)
          refine zp_load (pc := 47) hx hb (zd_X12_work1 (47, .iload 5, 2, 0, []) (List.mem_of_getElem? (i := 24) rfl)) rfl (j := 5) rfl ?_
          refine zp_const (pc := 49) hx hb (zd_X12_work1 (49, .iconst (-1), 1, 0, []) (List.mem_of_getElem? (i := 25) rfl)) rfl rfl ?_
          refine zp_icmp (pc := 50) (tgt := 65) hx hb (zd_X12_work1 (50, .if_icmp .eq 15, 3, 0, []) (List.mem_of_getElem? (i := 26) rfl)) rfl (fun (hc152ξ : p5ξ = (-1)) => ?_) (fun (hc152ξ : ¬ (p5ξ = (-1))) => ?_)
          · refine zp_load (pc := 65) hx hb (zd_X12_work1 (65, .aload_n 0, 1, 0, []) (List.mem_of_getElem? (i := 33) rfl)) rfl (j := 0) rfl ?_
            refine zp_getf (n := (A 3 : Int)) (pc := 66) hx hb hEξ hwξ (zd_X12_work1 (66, .getfield 13, 3, 0, []) (List.mem_of_getElem? (i := 34) rfl)) (j := 21) rfl rfl rfl (zM_P hMξ (List.mem_of_getElem? (i := 0) rfl)) ((zM_G hMξ (List.mem_of_getElem? (i := 0) rfl) 3).trans (zM_F hMξ (List.mem_of_getElem? (i := 1) rfl))) ?_
            refine zp_const (pc := 69) hx hb (zd_X12_work1 (69, .iconst 1, 1, 0, []) (List.mem_of_getElem? (i := 35) rfl)) rfl rfl ?_
            refine zp_ialdT (j := 1) (v := (n1ξ : Int)) (pc := 70) hx hb hwξ (zd_X12_work1 (70, .iaload, 1, 0, []) (List.mem_of_getElem? (i := 36) rfl)) zl_T59 rfl (zl_kd 1) (zM_P hMξ (List.mem_of_getElem? (i := 2) rfl)) (by omega) (show 1 < 5580 by omega) (((zM_G hMξ (List.mem_of_getElem? (i := 2) rfl) (2000 + 1)).trans (hVξ 3 (2000 + 1) (Or.inl (by decide)))).trans hn1ξ) (fun _ => ?_)
            refine zp_store (L' := [(6, 0, (n1ξ : Int)), (0, 2, (A 0 : Int)), (1, 0, p1ξ), (2, 0, p2ξ), (3, 0, p3ξ), (4, 0, p4ξ), (5, 0, p5ξ)]) (pc := 71) hx hb hnLξ (zd_X12_work1 (71, .istore 6, 2, 0, []) (List.mem_of_getElem? (i := 37) rfl)) rfl rfl rfl ?_
            refine zp_load (pc := 73) hx hb (zd_X12_work1 (73, .iload 6, 2, 0, []) (List.mem_of_getElem? (i := 38) rfl)) rfl (j := 0) rfl ?_
            refine zp_const (pc := 75) hx hb (zd_X12_work1 (75, .bipush 10, 2, 0, []) (List.mem_of_getElem? (i := 39) rfl)) rfl rfl ?_
            refine zp_icmp (pc := 77) (tgt := 83) hx hb (zd_X12_work1 (77, .if_icmp .ne 6, 3, 0, []) (List.mem_of_getElem? (i := 40) rfl)) rfl (fun (hc154ξ : ¬ (n1ξ : Int) = 10) => ?_) (fun (hc154ξ : ¬ (¬ (n1ξ : Int) = 10)) => ?_)
            · refine zp_const (pc := 83) hx hb (zd_X12_work1 (83, .bipush 39, 2, 0, []) (List.mem_of_getElem? (i := 43) rfl)) rfl rfl ?_
              refine zp_const (pc := 85) hx hb (zd_X12_work1 (85, .iconst 5, 1, 0, []) (List.mem_of_getElem? (i := 44) rfl)) rfl rfl ?_
              refine zp_load (pc := 86) hx hb (zd_X12_work1 (86, .iload 6, 2, 0, []) (List.mem_of_getElem? (i := 45) rfl)) rfl (j := 0) rfl ?_
              refine zp_mul (n := (5 * (n1ξ : Int))) (pc := 88) hx hb (zd_X12_work1 (88, .imul, 1, 0, []) (List.mem_of_getElem? (i := 46) rfl)) (by omega) (zp_r0 (by omega) (by omega)) ?_
              refine zp_add (n := (5 * (n1ξ : Int) + 39)) (pc := 89) hx hb (zd_X12_work1 (89, .iadd, 1, 0, []) (List.mem_of_getElem? (i := 47) rfl)) (by omega) (zp_r0 (by omega) (by omega)) ?_
              refine zp_store (L' := [(7, 0, (5 * (n1ξ : Int) + 39)), (6, 0, (n1ξ : Int)), (0, 2, (A 0 : Int)), (1, 0, p1ξ), (2, 0, p2ξ), (3, 0, p3ξ), (4, 0, p4ξ), (5, 0, p5ξ)]) (pc := 90) hx hb hnLξ (zd_X12_work1 (90, .istore 7, 2, 0, []) (List.mem_of_getElem? (i := 48) rfl)) rfl rfl rfl ?_
              refine zp_load (pc := 92) hx hb (zd_X12_work1 (92, .aload_n 0, 1, 0, []) (List.mem_of_getElem? (i := 49) rfl)) rfl (j := 2) rfl ?_
              refine zp_getf (n := (A 3 : Int)) (pc := 93) hx hb hEξ hwξ (zd_X12_work1 (93, .getfield 13, 3, 0, []) (List.mem_of_getElem? (i := 50) rfl)) (j := 21) rfl rfl rfl (zM_P hMξ (List.mem_of_getElem? (i := 0) rfl)) ((zM_G hMξ (List.mem_of_getElem? (i := 0) rfl) 3).trans (zM_F hMξ (List.mem_of_getElem? (i := 1) rfl))) ?_
              refine zp_load (pc := 96) hx hb (zd_X12_work1 (96, .iload 7, 2, 0, []) (List.mem_of_getElem? (i := 51) rfl)) rfl (j := 0) rfl ?_
              refine zp_load (pc := 98) hx hb (zd_X12_work1 (98, .iload_n 1, 1, 0, []) (List.mem_of_getElem? (i := 52) rfl)) rfl (j := 3) rfl ?_
              refine zp_iastR (j := (5 * n1ξ + 39)) (pc := 99) hx hb hwξ heffξ (zd_X12_work1 (99, .iastore, 1, 0, []) (List.mem_of_getElem? (i := 53) rfl)) (zM_P hMξ (List.mem_of_getElem? (i := 2) rfl)) (by omega) (show (5 * n1ξ + 39) < 180 by omega) (zr_st (lo := 0) (hi := 5) (zr_w0 n1ξ (by omega)) (by omega) (by omega) (by omega) (by omega)) ⟨1002, rfl, zp_1002 (by omega)⟩ ?_
              refine zp_load (pc := 100) hx hb (zd_X12_work1 (100, .aload_n 0, 1, 0, []) (List.mem_of_getElem? (i := 54) rfl)) rfl (j := 2) rfl ?_
              refine zp_getf (n := (A 3 : Int)) (pc := 101) hx hb hEξ hwξ (zd_X12_work1 (101, .getfield 13, 3, 0, []) (List.mem_of_getElem? (i := 55) rfl)) (j := 21) rfl rfl rfl (zM_P hMξ (List.mem_of_getElem? (i := 0) rfl)) ((zp_set_ne (Or.inl (zM_ne hMξ (List.mem_of_getElem? (i := 0) rfl) (List.mem_of_getElem? (i := 2) rfl) (by decide)))).trans (((zM_G hMξ (List.mem_of_getElem? (i := 0) rfl) 3).trans (zM_F hMξ (List.mem_of_getElem? (i := 1) rfl))))) ?_
              refine zp_load (pc := 104) hx hb (zd_X12_work1 (104, .iload 7, 2, 0, []) (List.mem_of_getElem? (i := 56) rfl)) rfl (j := 0) rfl ?_
              refine zp_const (pc := 106) hx hb (zd_X12_work1 (106, .iconst 1, 1, 0, []) (List.mem_of_getElem? (i := 57) rfl)) rfl rfl ?_
              refine zp_add (n := (5 * (n1ξ : Int) + 40)) (pc := 107) hx hb (zd_X12_work1 (107, .iadd, 1, 0, []) (List.mem_of_getElem? (i := 58) rfl)) (by omega) (zp_r0 (by omega) (by omega)) ?_
              refine zp_load (pc := 108) hx hb (zd_X12_work1 (108, .iload_n 2, 1, 0, []) (List.mem_of_getElem? (i := 59) rfl)) rfl (j := 4) rfl ?_
              refine zp_iastR (j := (5 * n1ξ + 40)) (pc := 109) hx hb hwξ heffξ (zd_X12_work1 (109, .iastore, 1, 0, []) (List.mem_of_getElem? (i := 60) rfl)) (zM_P hMξ (List.mem_of_getElem? (i := 2) rfl)) (by omega) (show (5 * n1ξ + 40) < 180 by omega) (zr_st (lo := (-2147483648)) (hi := 2147483647) (zr_w1 n1ξ (by omega)) (by omega) (by omega) (by omega) (by omega)) ⟨1002, rfl, zp_1002 (by omega)⟩ ?_
              refine zp_load (pc := 110) hx hb (zd_X12_work1 (110, .aload_n 0, 1, 0, []) (List.mem_of_getElem? (i := 61) rfl)) rfl (j := 2) rfl ?_
              refine zp_getf (n := (A 3 : Int)) (pc := 111) hx hb hEξ hwξ (zd_X12_work1 (111, .getfield 13, 3, 0, []) (List.mem_of_getElem? (i := 62) rfl)) (j := 21) rfl rfl rfl (zM_P hMξ (List.mem_of_getElem? (i := 0) rfl)) ((zp_set_ne (Or.inl (zM_ne hMξ (List.mem_of_getElem? (i := 0) rfl) (List.mem_of_getElem? (i := 2) rfl) (by decide)))).trans ((zp_set_ne (Or.inl (zM_ne hMξ (List.mem_of_getElem? (i := 0) rfl) (List.mem_of_getElem? (i := 2) rfl) (by decide)))).trans (((zM_G hMξ (List.mem_of_getElem? (i := 0) rfl) 3).trans (zM_F hMξ (List.mem_of_getElem? (i := 1) rfl)))))) ?_
              refine zp_load (pc := 114) hx hb (zd_X12_work1 (114, .iload 7, 2, 0, []) (List.mem_of_getElem? (i := 63) rfl)) rfl (j := 0) rfl ?_
              refine zp_const (pc := 116) hx hb (zd_X12_work1 (116, .iconst 2, 1, 0, []) (List.mem_of_getElem? (i := 64) rfl)) rfl rfl ?_
              refine zp_add (n := (5 * (n1ξ : Int) + 41)) (pc := 117) hx hb (zd_X12_work1 (117, .iadd, 1, 0, []) (List.mem_of_getElem? (i := 65) rfl)) (by omega) (zp_r0 (by omega) (by omega)) ?_
              refine zp_load (pc := 118) hx hb (zd_X12_work1 (118, .iload_n 3, 1, 0, []) (List.mem_of_getElem? (i := 66) rfl)) rfl (j := 5) rfl ?_
              refine zp_iastR (j := (5 * n1ξ + 41)) (pc := 119) hx hb hwξ heffξ (zd_X12_work1 (119, .iastore, 1, 0, []) (List.mem_of_getElem? (i := 67) rfl)) (zM_P hMξ (List.mem_of_getElem? (i := 2) rfl)) (by omega) (show (5 * n1ξ + 41) < 180 by omega) (zr_st (lo := (-2147483648)) (hi := 2147483647) (zr_w2 n1ξ (by omega)) (by omega) (by omega) (by omega) (by omega)) ⟨1002, rfl, zp_1002 (by omega)⟩ ?_
              refine zp_load (pc := 120) hx hb (zd_X12_work1 (120, .aload_n 0, 1, 0, []) (List.mem_of_getElem? (i := 68) rfl)) rfl (j := 2) rfl ?_
              refine zp_getf (n := (A 3 : Int)) (pc := 121) hx hb hEξ hwξ (zd_X12_work1 (121, .getfield 13, 3, 0, []) (List.mem_of_getElem? (i := 69) rfl)) (j := 21) rfl rfl rfl (zM_P hMξ (List.mem_of_getElem? (i := 0) rfl)) ((zp_set_ne (Or.inl (zM_ne hMξ (List.mem_of_getElem? (i := 0) rfl) (List.mem_of_getElem? (i := 2) rfl) (by decide)))).trans ((zp_set_ne (Or.inl (zM_ne hMξ (List.mem_of_getElem? (i := 0) rfl) (List.mem_of_getElem? (i := 2) rfl) (by decide)))).trans ((zp_set_ne (Or.inl (zM_ne hMξ (List.mem_of_getElem? (i := 0) rfl) (List.mem_of_getElem? (i := 2) rfl) (by decide)))).trans (((zM_G hMξ (List.mem_of_getElem? (i := 0) rfl) 3).trans (zM_F hMξ (List.mem_of_getElem? (i := 1) rfl))))))) ?_
              refine zp_load (pc := 124) hx hb (zd_X12_work1 (124, .iload 7, 2, 0, []) (List.mem_of_getElem? (i := 70) rfl)) rfl (j := 0) rfl ?_
              refine zp_const (pc := 126) hx hb (zd_X12_work1 (126, .iconst 3, 1, 0, []) (List.mem_of_getElem? (i := 71) rfl)) rfl rfl ?_
              refine zp_add (n := (5 * (n1ξ : Int) + 42)) (pc := 127) hx hb (zd_X12_work1 (127, .iadd, 1, 0, []) (List.mem_of_getElem? (i := 72) rfl)) (by omega) (zp_r0 (by omega) (by omega)) ?_
              refine zp_load (pc := 128) hx hb (zd_X12_work1 (128, .iload 4, 2, 0, []) (List.mem_of_getElem? (i := 73) rfl)) rfl (j := 6) rfl ?_
              refine zp_iastR (j := (5 * n1ξ + 42)) (pc := 130) hx hb hwξ heffξ (zd_X12_work1 (130, .iastore, 1, 0, []) (List.mem_of_getElem? (i := 74) rfl)) (zM_P hMξ (List.mem_of_getElem? (i := 2) rfl)) (by omega) (show (5 * n1ξ + 42) < 180 by omega) (zr_st (lo := (-2147483648)) (hi := 2147483647) (zr_w3 n1ξ (by omega)) (by omega) (by omega) (by omega) (by omega)) ⟨1002, rfl, zp_1002 (by omega)⟩ ?_
              refine zp_load (pc := 131) hx hb (zd_X12_work1 (131, .aload_n 0, 1, 0, []) (List.mem_of_getElem? (i := 75) rfl)) rfl (j := 2) rfl ?_
              refine zp_getf (n := (A 3 : Int)) (pc := 132) hx hb hEξ hwξ (zd_X12_work1 (132, .getfield 13, 3, 0, []) (List.mem_of_getElem? (i := 76) rfl)) (j := 21) rfl rfl rfl (zM_P hMξ (List.mem_of_getElem? (i := 0) rfl)) ((zp_set_ne (Or.inl (zM_ne hMξ (List.mem_of_getElem? (i := 0) rfl) (List.mem_of_getElem? (i := 2) rfl) (by decide)))).trans ((zp_set_ne (Or.inl (zM_ne hMξ (List.mem_of_getElem? (i := 0) rfl) (List.mem_of_getElem? (i := 2) rfl) (by decide)))).trans ((zp_set_ne (Or.inl (zM_ne hMξ (List.mem_of_getElem? (i := 0) rfl) (List.mem_of_getElem? (i := 2) rfl) (by decide)))).trans ((zp_set_ne (Or.inl (zM_ne hMξ (List.mem_of_getElem? (i := 0) rfl) (List.mem_of_getElem? (i := 2) rfl) (by decide)))).trans (((zM_G hMξ (List.mem_of_getElem? (i := 0) rfl) 3).trans (zM_F hMξ (List.mem_of_getElem? (i := 1) rfl)))))))) ?_
              refine zp_load (pc := 135) hx hb (zd_X12_work1 (135, .iload 7, 2, 0, []) (List.mem_of_getElem? (i := 77) rfl)) rfl (j := 0) rfl ?_
              refine zp_const (pc := 137) hx hb (zd_X12_work1 (137, .iconst 4, 1, 0, []) (List.mem_of_getElem? (i := 78) rfl)) rfl rfl ?_
              refine zp_add (n := (5 * (n1ξ : Int) + 43)) (pc := 138) hx hb (zd_X12_work1 (138, .iadd, 1, 0, []) (List.mem_of_getElem? (i := 79) rfl)) (by omega) (zp_r0 (by omega) (by omega)) ?_
              refine zp_load (pc := 139) hx hb (zd_X12_work1 (139, .iload 5, 2, 0, []) (List.mem_of_getElem? (i := 80) rfl)) rfl (j := 7) rfl ?_
              refine zp_iastR (j := (5 * n1ξ + 43)) (pc := 141) hx hb hwξ heffξ (zd_X12_work1 (141, .iastore, 1, 0, []) (List.mem_of_getElem? (i := 81) rfl)) (zM_P hMξ (List.mem_of_getElem? (i := 2) rfl)) (by omega) (show (5 * n1ξ + 43) < 180 by omega) (zr_st (lo := (-1)) (hi := 9) (zr_w4 n1ξ (by omega)) (by omega) (by omega) (by omega) (by omega)) ⟨1002, rfl, zp_1002 (by omega)⟩ ?_
              refine zp_load (pc := 142) hx hb (zd_X12_work1 (142, .aload_n 0, 1, 0, []) (List.mem_of_getElem? (i := 82) rfl)) rfl (j := 2) rfl ?_
              refine zp_getf (n := (A 3 : Int)) (pc := 143) hx hb hEξ hwξ (zd_X12_work1 (143, .getfield 13, 3, 0, []) (List.mem_of_getElem? (i := 83) rfl)) (j := 21) rfl rfl rfl (zM_P hMξ (List.mem_of_getElem? (i := 0) rfl)) ((zp_set_ne (Or.inl (zM_ne hMξ (List.mem_of_getElem? (i := 0) rfl) (List.mem_of_getElem? (i := 2) rfl) (by decide)))).trans ((zp_set_ne (Or.inl (zM_ne hMξ (List.mem_of_getElem? (i := 0) rfl) (List.mem_of_getElem? (i := 2) rfl) (by decide)))).trans ((zp_set_ne (Or.inl (zM_ne hMξ (List.mem_of_getElem? (i := 0) rfl) (List.mem_of_getElem? (i := 2) rfl) (by decide)))).trans ((zp_set_ne (Or.inl (zM_ne hMξ (List.mem_of_getElem? (i := 0) rfl) (List.mem_of_getElem? (i := 2) rfl) (by decide)))).trans ((zp_set_ne (Or.inl (zM_ne hMξ (List.mem_of_getElem? (i := 0) rfl) (List.mem_of_getElem? (i := 2) rfl) (by decide)))).trans (((zM_G hMξ (List.mem_of_getElem? (i := 0) rfl) 3).trans (zM_F hMξ (List.mem_of_getElem? (i := 1) rfl))))))))) ?_
              refine zp_const (pc := 146) hx hb (zd_X12_work1 (146, .bipush 29, 2, 0, []) (List.mem_of_getElem? (i := 84) rfl)) rfl rfl ?_
              refine zp_load (pc := 148) hx hb (zd_X12_work1 (148, .iload 6, 2, 0, []) (List.mem_of_getElem? (i := 85) rfl)) rfl (j := 1) rfl ?_
              refine zp_add (n := ((n1ξ : Int) + 29)) (pc := 150) hx hb (zd_X12_work1 (150, .iadd, 1, 0, []) (List.mem_of_getElem? (i := 86) rfl)) (by omega) (zp_r0 (by omega) (by omega)) ?_
              refine zp_const (pc := 151) hx hb (zd_X12_work1 (151, .iconst 0, 1, 0, []) (List.mem_of_getElem? (i := 87) rfl)) rfl rfl ?_
              refine zp_iastR (j := (n1ξ + 29)) (pc := 152) hx hb hwξ heffξ (zd_X12_work1 (152, .iastore, 1, 0, []) (List.mem_of_getElem? (i := 88) rfl)) (zM_P hMξ (List.mem_of_getElem? (i := 2) rfl)) (by omega) (show (n1ξ + 29) < 180 by omega) (zr_st (lo := (-2147483648)) (hi := 2147483647) (zr_d n1ξ (by omega)) (by omega) (by omega) (by omega) (by omega)) ⟨1002, rfl, zp_1002 (by omega)⟩ ?_
              refine zp_load (pc := 153) hx hb (zd_X12_work1 (153, .aload_n 0, 1, 0, []) (List.mem_of_getElem? (i := 89) rfl)) rfl (j := 2) rfl ?_
              refine zp_getf (n := (A 3 : Int)) (pc := 154) hx hb hEξ hwξ (zd_X12_work1 (154, .getfield 13, 3, 0, []) (List.mem_of_getElem? (i := 90) rfl)) (j := 21) rfl rfl rfl (zM_P hMξ (List.mem_of_getElem? (i := 0) rfl)) ((zp_set_ne (Or.inl (zM_ne hMξ (List.mem_of_getElem? (i := 0) rfl) (List.mem_of_getElem? (i := 2) rfl) (by decide)))).trans ((zp_set_ne (Or.inl (zM_ne hMξ (List.mem_of_getElem? (i := 0) rfl) (List.mem_of_getElem? (i := 2) rfl) (by decide)))).trans ((zp_set_ne (Or.inl (zM_ne hMξ (List.mem_of_getElem? (i := 0) rfl) (List.mem_of_getElem? (i := 2) rfl) (by decide)))).trans ((zp_set_ne (Or.inl (zM_ne hMξ (List.mem_of_getElem? (i := 0) rfl) (List.mem_of_getElem? (i := 2) rfl) (by decide)))).trans ((zp_set_ne (Or.inl (zM_ne hMξ (List.mem_of_getElem? (i := 0) rfl) (List.mem_of_getElem? (i := 2) rfl) (by decide)))).trans ((zp_set_ne (Or.inl (zM_ne hMξ (List.mem_of_getElem? (i := 0) rfl) (List.mem_of_getElem? (i := 2) rfl) (by decide)))).trans (((zM_G hMξ (List.mem_of_getElem? (i := 0) rfl) 3).trans (zM_F hMξ (List.mem_of_getElem? (i := 1) rfl)))))))))) ?_
              refine zp_const (pc := 157) hx hb (zd_X12_work1 (157, .iconst 1, 1, 0, []) (List.mem_of_getElem? (i := 91) rfl)) rfl rfl ?_
              refine zp_dup2 (pc := 158) hx hb (zd_X12_work1 (158, .dup2, 1, 0, []) (List.mem_of_getElem? (i := 92) rfl)) (show (0 : Nat) ≠ 1 by decide) (show (2 : Nat) ≠ 1 by decide) ?_
              refine zp_ialdT (j := 1) (v := (n1ξ : Int)) (pc := 159) hx hb hwξ (zd_X12_work1 (159, .iaload, 1, 0, []) (List.mem_of_getElem? (i := 93) rfl)) zl_T59 rfl (zl_kd 1) (zM_P hMξ (List.mem_of_getElem? (i := 2) rfl)) (by omega) (show 1 < 5580 by omega) ((zp_set_ne (Or.inr (by omega))).trans ((zp_set_ne (Or.inr (by omega))).trans ((zp_set_ne (Or.inr (by omega))).trans ((zp_set_ne (Or.inr (by omega))).trans ((zp_set_ne (Or.inr (by omega))).trans ((zp_set_ne (Or.inr (by omega))).trans ((((zM_G hMξ (List.mem_of_getElem? (i := 2) rfl) (2000 + 1)).trans (hVξ 3 (2000 + 1) (Or.inl (by decide)))).trans hn1ξ)))))))) (fun _ => ?_)
              refine zp_const (pc := 160) hx hb (zd_X12_work1 (160, .iconst 1, 1, 0, []) (List.mem_of_getElem? (i := 94) rfl)) rfl rfl ?_
              refine zp_add (n := ((n1ξ : Int) + 1)) (pc := 161) hx hb (zd_X12_work1 (161, .iadd, 1, 0, []) (List.mem_of_getElem? (i := 95) rfl)) (by omega) (zp_r0 (by omega) (by omega)) ?_
              refine zp_iastR (j := 1) (pc := 162) hx hb hwξ heffξ (zd_X12_work1 (162, .iastore, 1, 0, []) (List.mem_of_getElem? (i := 96) rfl)) (zM_P hMξ (List.mem_of_getElem? (i := 2) rfl)) (by omega) (show 1 < 180 by omega) (zr_st (lo := 0) (hi := 10) ⟨rfl, rfl, rfl⟩ (by omega) (by omega) (by omega) (by omega)) ⟨1002, rfl, zp_1002 (by omega)⟩ ?_
              refine zp_load (pc := 163) hx hb (zd_X12_work1 (163, .iload 6, 2, 0, []) (List.mem_of_getElem? (i := 97) rfl)) rfl (j := 1) rfl ?_
              refine zp_iret (pc := 165) (n := (n1ξ : Int)) hx hb hEξ hQξ hU5ξ rfl (by decide) (zd_X12_work1 (165, .ireturn, 1, 0, []) (List.mem_of_getElem? (i := 98) rfl)) (j := 0) rfl (zp_o0 (by omega) (by omega) (by omega) (by omega)) ?_
              rw [hpsξ]
              refine ⟨rfl, ?_⟩
              have hffξ : zf_wk1 V npξ n1ξ p1ξ p2ξ p3ξ p4ξ p5ξ = ((n1ξ : Int), (zp_set (zp_set (zp_set (zp_set (zp_set (zp_set (zp_set V 3 (2000 + (5 * n1ξ + 39)) p1ξ) 3 (2000 + (5 * n1ξ + 40)) p2ξ) 3 (2000 + (5 * n1ξ + 41)) p3ξ) 3 (2000 + (5 * n1ξ + 42)) p4ξ) 3 (2000 + (5 * n1ξ + 43)) p5ξ) 3 (2000 + (n1ξ + 29)) 0) 3 (2000 + 1) ((n1ξ : Int) + 1))) := by
                unfold zf_wk1
                rw [if_pos ((Iff.mp htn136ξ) (by omega)), if_pos ((Iff.mp htn140ξ) (by omega)), if_pos ((Iff.mp htn144ξ) (by omega)), if_pos ((Iff.mp hti148ξ) (by omega)), if_pos hc152ξ, if_pos hc154ξ]
              show zMVr A (zf_wk1 V npξ n1ξ p1ξ p2ξ p3ξ p4ξ p5ξ).2 u.1 (zp_set (zp_set (zp_set (zp_set (zp_set (zp_set (zp_set (zp_n u.2.1) (A 3) (2000 + (5 * n1ξ + 39)) p1ξ) (A 3) (2000 + (5 * n1ξ + 40)) p2ξ) (A 3) (2000 + (5 * n1ξ + 41)) p3ξ) (A 3) (2000 + (5 * n1ξ + 42)) p4ξ) (A 3) (2000 + (5 * n1ξ + 43)) p5ξ) (A 3) (2000 + (n1ξ + 29)) 0) (A 3) (2000 + 1) ((n1ξ : Int) + 1)) ∧ (n1ξ : Int) = (zf_wk1 V npξ n1ξ p1ξ p2ξ p3ξ p4ξ p5ξ).1
              rw [hffξ]
              exact ⟨⟨(zp_set (zp_set (zp_set (zp_set (zp_set (zp_set (zp_set M 3 (2000 + (5 * n1ξ + 39)) p1ξ) 3 (2000 + (5 * n1ξ + 40)) p2ξ) 3 (2000 + (5 * n1ξ + 41)) p3ξ) 3 (2000 + (5 * n1ξ + 42)) p4ξ) 3 (2000 + (5 * n1ξ + 43)) p5ξ) 3 (2000 + (n1ξ + 29)) 0) 3 (2000 + 1) ((n1ξ : Int) + 1)), (zM_setE (zM_setE (zM_setE (zM_setE (zM_setE (zM_setE (zM_setE hMξ (List.mem_of_getElem? (i := 2) rfl)) (List.mem_of_getElem? (i := 2) rfl)) (List.mem_of_getElem? (i := 2) rfl)) (List.mem_of_getElem? (i := 2) rfl)) (List.mem_of_getElem? (i := 2) rfl)) (List.mem_of_getElem? (i := 2) rfl)) (List.mem_of_getElem? (i := 2) rfl)), (zV_set (zV_set (zV_set (zV_set (zV_set (zV_set (zV_set hVξ))))))), (zSb_set (by decide) (zSb_set (by decide) (zSb_set (by decide) (zSb_set (by decide) (zSb_set (by decide) (zSb_set (by decide) (zSb_set (by decide) hSbξ)))))))⟩, rfl⟩
            · refine zp_const (pc := 80) hx hb (zd_X12_work1 (80, .bipush (-5), 2, 0, []) (List.mem_of_getElem? (i := 41) rfl)) rfl rfl ?_
              refine zp_iret (pc := 82) (n := (-5)) hx hb hEξ hQξ hU5ξ rfl (by decide) (zd_X12_work1 (82, .ireturn, 1, 0, []) (List.mem_of_getElem? (i := 42) rfl)) (j := 0) rfl (zp_o0 (by omega) (by omega) (by omega) (by omega)) ?_
              rw [hpsξ]
              refine ⟨rfl, ?_⟩
              have hffξ : zf_wk1 V npξ n1ξ p1ξ p2ξ p3ξ p4ξ p5ξ = ((-5), V) := by
                unfold zf_wk1
                rw [if_pos ((Iff.mp htn136ξ) (by omega)), if_pos ((Iff.mp htn140ξ) (by omega)), if_pos ((Iff.mp htn144ξ) (by omega)), if_pos ((Iff.mp hti148ξ) (by omega)), if_pos hc152ξ, if_neg hc154ξ]
              show zMVr A (zf_wk1 V npξ n1ξ p1ξ p2ξ p3ξ p4ξ p5ξ).2 u.1 (zp_n u.2.1) ∧ (-5) = (zf_wk1 V npξ n1ξ p1ξ p2ξ p3ξ p4ξ p5ξ).1
              rw [hffξ]
              exact ⟨⟨M, hMξ, hVξ, hSbξ⟩, rfl⟩
          · refine zp_load (pc := 53) hx hb (zd_X12_work1 (53, .aload_n 0, 1, 0, []) (List.mem_of_getElem? (i := 27) rfl)) rfl (j := 0) rfl ?_
            refine zp_load (pc := 54) hx hb (zd_X12_work1 (54, .iload 5, 2, 0, []) (List.mem_of_getElem? (i := 28) rfl)) rfl (j := 5) rfl ?_
            refine zp_call (pc := 56) (how := 0) (idx := 217) (mi := 200) (S := []) hx hb hEξ hwξ heffξ hrmξ (zX_isw hWξ A M) rfl (j := 10) rfl rfl (by decide +kernel) (zd_X12_work1 (56, .invokevirtual 217, 3, 0, []) (List.mem_of_getElem? (i := 29) rfl)) [(A 0 : Int), p5ξ] rfl ⟨zp_o2 (zM_P hMξ (List.mem_of_getElem? (i := 0) rfl)), zp_o0 (by omega) (by omega) (by omega) (by omega), trivial⟩ (Nat.le_of_ble_eq_true rfl) ⟨hMξ, rfl, (show -2147483647 ≤ M 3 (2000 + 1) ∧ M 3 (2000 + 1) ≤ 2147483647 by rw [((hVξ 3 (2000 + 1) (Or.inl (by decide))).trans hn1ξ)]; omega)⟩ (fun al halξ rni156ξ Pi156 Gi156 hexti156ξ hfri156ξ hoki156ξ hcsi156ξ hpsii156ξ => ?_)
            obtain rfl := List.mem_singleton.mp halξ
            have hri156ξ := zp_int (hoki156ξ _ rfl).1
            obtain ⟨hPei156ξ, hGei156ξ, hti156ξ⟩ := hpsii156ξ
            rw [hPei156ξ, hGei156ξ]
            clear hexti156ξ hfri156ξ hcsi156ξ hPei156ξ hGei156ξ
            have hti156ξ : rni156ξ = 1 ↔ 0 ≤ p5ξ ∧ p5ξ < (n1ξ : Int) := by
              have h9ξ : rni156ξ = 1 ↔ 0 ≤ p5ξ ∧ p5ξ < M 3 (2000 + 1) := hti156ξ
              rw [((hVξ 3 (2000 + 1) (Or.inl (by decide))).trans hn1ξ)] at h9ξ
              exact h9ξ
            refine zp_if (pc := 59) (tgt := 65) hx hb (zd_X12_work1 (59, .ifCond .ne 6, 3, 0, []) (List.mem_of_getElem? (i := 30) rfl)) rfl (fun (hc157ξ : ¬ rni156ξ = 0) => ?_) (fun (hc157ξ : ¬ (¬ rni156ξ = 0)) => ?_)
            · have hbt158ξ := (Iff.mp hti156ξ) (by omega)
              refine zp_load (pc := 65) hx hb (zd_X12_work1 (65, .aload_n 0, 1, 0, []) (List.mem_of_getElem? (i := 33) rfl)) rfl (j := 0) rfl ?_
              refine zp_getf (n := (A 3 : Int)) (pc := 66) hx hb hEξ hwξ (zd_X12_work1 (66, .getfield 13, 3, 0, []) (List.mem_of_getElem? (i := 34) rfl)) (j := 21) rfl rfl rfl (zM_P hMξ (List.mem_of_getElem? (i := 0) rfl)) ((zM_G hMξ (List.mem_of_getElem? (i := 0) rfl) 3).trans (zM_F hMξ (List.mem_of_getElem? (i := 1) rfl))) ?_
              refine zp_const (pc := 69) hx hb (zd_X12_work1 (69, .iconst 1, 1, 0, []) (List.mem_of_getElem? (i := 35) rfl)) rfl rfl ?_
              refine zp_ialdT (j := 1) (v := (n1ξ : Int)) (pc := 70) hx hb hwξ (zd_X12_work1 (70, .iaload, 1, 0, []) (List.mem_of_getElem? (i := 36) rfl)) zl_T59 rfl (zl_kd 1) (zM_P hMξ (List.mem_of_getElem? (i := 2) rfl)) (by omega) (show 1 < 5580 by omega) (((zM_G hMξ (List.mem_of_getElem? (i := 2) rfl) (2000 + 1)).trans (hVξ 3 (2000 + 1) (Or.inl (by decide)))).trans hn1ξ) (fun _ => ?_)
              refine zp_store (L' := [(6, 0, (n1ξ : Int)), (0, 2, (A 0 : Int)), (1, 0, p1ξ), (2, 0, p2ξ), (3, 0, p3ξ), (4, 0, p4ξ), (5, 0, p5ξ)]) (pc := 71) hx hb hnLξ (zd_X12_work1 (71, .istore 6, 2, 0, []) (List.mem_of_getElem? (i := 37) rfl)) rfl rfl rfl ?_
              refine zp_load (pc := 73) hx hb (zd_X12_work1 (73, .iload 6, 2, 0, []) (List.mem_of_getElem? (i := 38) rfl)) rfl (j := 0) rfl ?_
              refine zp_const (pc := 75) hx hb (zd_X12_work1 (75, .bipush 10, 2, 0, []) (List.mem_of_getElem? (i := 39) rfl)) rfl rfl ?_
              refine zp_icmp (pc := 77) (tgt := 83) hx hb (zd_X12_work1 (77, .if_icmp .ne 6, 3, 0, []) (List.mem_of_getElem? (i := 40) rfl)) rfl (fun (hc161ξ : ¬ (n1ξ : Int) = 10) => ?_) (fun (hc161ξ : ¬ (¬ (n1ξ : Int) = 10)) => ?_)
              · refine zp_const (pc := 83) hx hb (zd_X12_work1 (83, .bipush 39, 2, 0, []) (List.mem_of_getElem? (i := 43) rfl)) rfl rfl ?_
                refine zp_const (pc := 85) hx hb (zd_X12_work1 (85, .iconst 5, 1, 0, []) (List.mem_of_getElem? (i := 44) rfl)) rfl rfl ?_
                refine zp_load (pc := 86) hx hb (zd_X12_work1 (86, .iload 6, 2, 0, []) (List.mem_of_getElem? (i := 45) rfl)) rfl (j := 0) rfl ?_
                refine zp_mul (n := (5 * (n1ξ : Int))) (pc := 88) hx hb (zd_X12_work1 (88, .imul, 1, 0, []) (List.mem_of_getElem? (i := 46) rfl)) (by omega) (zp_r0 (by omega) (by omega)) ?_
                refine zp_add (n := (5 * (n1ξ : Int) + 39)) (pc := 89) hx hb (zd_X12_work1 (89, .iadd, 1, 0, []) (List.mem_of_getElem? (i := 47) rfl)) (by omega) (zp_r0 (by omega) (by omega)) ?_
                refine zp_store (L' := [(7, 0, (5 * (n1ξ : Int) + 39)), (6, 0, (n1ξ : Int)), (0, 2, (A 0 : Int)), (1, 0, p1ξ), (2, 0, p2ξ), (3, 0, p3ξ), (4, 0, p4ξ), (5, 0, p5ξ)]) (pc := 90) hx hb hnLξ (zd_X12_work1 (90, .istore 7, 2, 0, []) (List.mem_of_getElem? (i := 48) rfl)) rfl rfl rfl ?_
                refine zp_load (pc := 92) hx hb (zd_X12_work1 (92, .aload_n 0, 1, 0, []) (List.mem_of_getElem? (i := 49) rfl)) rfl (j := 2) rfl ?_
                refine zp_getf (n := (A 3 : Int)) (pc := 93) hx hb hEξ hwξ (zd_X12_work1 (93, .getfield 13, 3, 0, []) (List.mem_of_getElem? (i := 50) rfl)) (j := 21) rfl rfl rfl (zM_P hMξ (List.mem_of_getElem? (i := 0) rfl)) ((zM_G hMξ (List.mem_of_getElem? (i := 0) rfl) 3).trans (zM_F hMξ (List.mem_of_getElem? (i := 1) rfl))) ?_
                refine zp_load (pc := 96) hx hb (zd_X12_work1 (96, .iload 7, 2, 0, []) (List.mem_of_getElem? (i := 51) rfl)) rfl (j := 0) rfl ?_
                refine zp_load (pc := 98) hx hb (zd_X12_work1 (98, .iload_n 1, 1, 0, []) (List.mem_of_getElem? (i := 52) rfl)) rfl (j := 3) rfl ?_
                refine zp_iastR (j := (5 * n1ξ + 39)) (pc := 99) hx hb hwξ heffξ (zd_X12_work1 (99, .iastore, 1, 0, []) (List.mem_of_getElem? (i := 53) rfl)) (zM_P hMξ (List.mem_of_getElem? (i := 2) rfl)) (by omega) (show (5 * n1ξ + 39) < 180 by omega) (zr_st (lo := 0) (hi := 5) (zr_w0 n1ξ (by omega)) (by omega) (by omega) (by omega) (by omega)) ⟨1002, rfl, zp_1002 (by omega)⟩ ?_
                refine zp_load (pc := 100) hx hb (zd_X12_work1 (100, .aload_n 0, 1, 0, []) (List.mem_of_getElem? (i := 54) rfl)) rfl (j := 2) rfl ?_
                refine zp_getf (n := (A 3 : Int)) (pc := 101) hx hb hEξ hwξ (zd_X12_work1 (101, .getfield 13, 3, 0, []) (List.mem_of_getElem? (i := 55) rfl)) (j := 21) rfl rfl rfl (zM_P hMξ (List.mem_of_getElem? (i := 0) rfl)) ((zp_set_ne (Or.inl (zM_ne hMξ (List.mem_of_getElem? (i := 0) rfl) (List.mem_of_getElem? (i := 2) rfl) (by decide)))).trans (((zM_G hMξ (List.mem_of_getElem? (i := 0) rfl) 3).trans (zM_F hMξ (List.mem_of_getElem? (i := 1) rfl))))) ?_
                refine zp_load (pc := 104) hx hb (zd_X12_work1 (104, .iload 7, 2, 0, []) (List.mem_of_getElem? (i := 56) rfl)) rfl (j := 0) rfl ?_
                refine zp_const (pc := 106) hx hb (zd_X12_work1 (106, .iconst 1, 1, 0, []) (List.mem_of_getElem? (i := 57) rfl)) rfl rfl ?_
                refine zp_add (n := (5 * (n1ξ : Int) + 40)) (pc := 107) hx hb (zd_X12_work1 (107, .iadd, 1, 0, []) (List.mem_of_getElem? (i := 58) rfl)) (by omega) (zp_r0 (by omega) (by omega)) ?_
                refine zp_load (pc := 108) hx hb (zd_X12_work1 (108, .iload_n 2, 1, 0, []) (List.mem_of_getElem? (i := 59) rfl)) rfl (j := 4) rfl ?_
                refine zp_iastR (j := (5 * n1ξ + 40)) (pc := 109) hx hb hwξ heffξ (zd_X12_work1 (109, .iastore, 1, 0, []) (List.mem_of_getElem? (i := 60) rfl)) (zM_P hMξ (List.mem_of_getElem? (i := 2) rfl)) (by omega) (show (5 * n1ξ + 40) < 180 by omega) (zr_st (lo := (-2147483648)) (hi := 2147483647) (zr_w1 n1ξ (by omega)) (by omega) (by omega) (by omega) (by omega)) ⟨1002, rfl, zp_1002 (by omega)⟩ ?_
                refine zp_load (pc := 110) hx hb (zd_X12_work1 (110, .aload_n 0, 1, 0, []) (List.mem_of_getElem? (i := 61) rfl)) rfl (j := 2) rfl ?_
                refine zp_getf (n := (A 3 : Int)) (pc := 111) hx hb hEξ hwξ (zd_X12_work1 (111, .getfield 13, 3, 0, []) (List.mem_of_getElem? (i := 62) rfl)) (j := 21) rfl rfl rfl (zM_P hMξ (List.mem_of_getElem? (i := 0) rfl)) ((zp_set_ne (Or.inl (zM_ne hMξ (List.mem_of_getElem? (i := 0) rfl) (List.mem_of_getElem? (i := 2) rfl) (by decide)))).trans ((zp_set_ne (Or.inl (zM_ne hMξ (List.mem_of_getElem? (i := 0) rfl) (List.mem_of_getElem? (i := 2) rfl) (by decide)))).trans (((zM_G hMξ (List.mem_of_getElem? (i := 0) rfl) 3).trans (zM_F hMξ (List.mem_of_getElem? (i := 1) rfl)))))) ?_
                refine zp_load (pc := 114) hx hb (zd_X12_work1 (114, .iload 7, 2, 0, []) (List.mem_of_getElem? (i := 63) rfl)) rfl (j := 0) rfl ?_
                refine zp_const (pc := 116) hx hb (zd_X12_work1 (116, .iconst 2, 1, 0, []) (List.mem_of_getElem? (i := 64) rfl)) rfl rfl ?_
                refine zp_add (n := (5 * (n1ξ : Int) + 41)) (pc := 117) hx hb (zd_X12_work1 (117, .iadd, 1, 0, []) (List.mem_of_getElem? (i := 65) rfl)) (by omega) (zp_r0 (by omega) (by omega)) ?_
                refine zp_load (pc := 118) hx hb (zd_X12_work1 (118, .iload_n 3, 1, 0, []) (List.mem_of_getElem? (i := 66) rfl)) rfl (j := 5) rfl ?_
                refine zp_iastR (j := (5 * n1ξ + 41)) (pc := 119) hx hb hwξ heffξ (zd_X12_work1 (119, .iastore, 1, 0, []) (List.mem_of_getElem? (i := 67) rfl)) (zM_P hMξ (List.mem_of_getElem? (i := 2) rfl)) (by omega) (show (5 * n1ξ + 41) < 180 by omega) (zr_st (lo := (-2147483648)) (hi := 2147483647) (zr_w2 n1ξ (by omega)) (by omega) (by omega) (by omega) (by omega)) ⟨1002, rfl, zp_1002 (by omega)⟩ ?_
                refine zp_load (pc := 120) hx hb (zd_X12_work1 (120, .aload_n 0, 1, 0, []) (List.mem_of_getElem? (i := 68) rfl)) rfl (j := 2) rfl ?_
                refine zp_getf (n := (A 3 : Int)) (pc := 121) hx hb hEξ hwξ (zd_X12_work1 (121, .getfield 13, 3, 0, []) (List.mem_of_getElem? (i := 69) rfl)) (j := 21) rfl rfl rfl (zM_P hMξ (List.mem_of_getElem? (i := 0) rfl)) ((zp_set_ne (Or.inl (zM_ne hMξ (List.mem_of_getElem? (i := 0) rfl) (List.mem_of_getElem? (i := 2) rfl) (by decide)))).trans ((zp_set_ne (Or.inl (zM_ne hMξ (List.mem_of_getElem? (i := 0) rfl) (List.mem_of_getElem? (i := 2) rfl) (by decide)))).trans ((zp_set_ne (Or.inl (zM_ne hMξ (List.mem_of_getElem? (i := 0) rfl) (List.mem_of_getElem? (i := 2) rfl) (by decide)))).trans (((zM_G hMξ (List.mem_of_getElem? (i := 0) rfl) 3).trans (zM_F hMξ (List.mem_of_getElem? (i := 1) rfl))))))) ?_
                refine zp_load (pc := 124) hx hb (zd_X12_work1 (124, .iload 7, 2, 0, []) (List.mem_of_getElem? (i := 70) rfl)) rfl (j := 0) rfl ?_
                refine zp_const (pc := 126) hx hb (zd_X12_work1 (126, .iconst 3, 1, 0, []) (List.mem_of_getElem? (i := 71) rfl)) rfl rfl ?_
                refine zp_add (n := (5 * (n1ξ : Int) + 42)) (pc := 127) hx hb (zd_X12_work1 (127, .iadd, 1, 0, []) (List.mem_of_getElem? (i := 72) rfl)) (by omega) (zp_r0 (by omega) (by omega)) ?_
                refine zp_load (pc := 128) hx hb (zd_X12_work1 (128, .iload 4, 2, 0, []) (List.mem_of_getElem? (i := 73) rfl)) rfl (j := 6) rfl ?_
                refine zp_iastR (j := (5 * n1ξ + 42)) (pc := 130) hx hb hwξ heffξ (zd_X12_work1 (130, .iastore, 1, 0, []) (List.mem_of_getElem? (i := 74) rfl)) (zM_P hMξ (List.mem_of_getElem? (i := 2) rfl)) (by omega) (show (5 * n1ξ + 42) < 180 by omega) (zr_st (lo := (-2147483648)) (hi := 2147483647) (zr_w3 n1ξ (by omega)) (by omega) (by omega) (by omega) (by omega)) ⟨1002, rfl, zp_1002 (by omega)⟩ ?_
                refine zp_load (pc := 131) hx hb (zd_X12_work1 (131, .aload_n 0, 1, 0, []) (List.mem_of_getElem? (i := 75) rfl)) rfl (j := 2) rfl ?_
                refine zp_getf (n := (A 3 : Int)) (pc := 132) hx hb hEξ hwξ (zd_X12_work1 (132, .getfield 13, 3, 0, []) (List.mem_of_getElem? (i := 76) rfl)) (j := 21) rfl rfl rfl (zM_P hMξ (List.mem_of_getElem? (i := 0) rfl)) ((zp_set_ne (Or.inl (zM_ne hMξ (List.mem_of_getElem? (i := 0) rfl) (List.mem_of_getElem? (i := 2) rfl) (by decide)))).trans ((zp_set_ne (Or.inl (zM_ne hMξ (List.mem_of_getElem? (i := 0) rfl) (List.mem_of_getElem? (i := 2) rfl) (by decide)))).trans ((zp_set_ne (Or.inl (zM_ne hMξ (List.mem_of_getElem? (i := 0) rfl) (List.mem_of_getElem? (i := 2) rfl) (by decide)))).trans ((zp_set_ne (Or.inl (zM_ne hMξ (List.mem_of_getElem? (i := 0) rfl) (List.mem_of_getElem? (i := 2) rfl) (by decide)))).trans (((zM_G hMξ (List.mem_of_getElem? (i := 0) rfl) 3).trans (zM_F hMξ (List.mem_of_getElem? (i := 1) rfl)))))))) ?_
                refine zp_load (pc := 135) hx hb (zd_X12_work1 (135, .iload 7, 2, 0, []) (List.mem_of_getElem? (i := 77) rfl)) rfl (j := 0) rfl ?_
                refine zp_const (pc := 137) hx hb (zd_X12_work1 (137, .iconst 4, 1, 0, []) (List.mem_of_getElem? (i := 78) rfl)) rfl rfl ?_
                refine zp_add (n := (5 * (n1ξ : Int) + 43)) (pc := 138) hx hb (zd_X12_work1 (138, .iadd, 1, 0, []) (List.mem_of_getElem? (i := 79) rfl)) (by omega) (zp_r0 (by omega) (by omega)) ?_
                refine zp_load (pc := 139) hx hb (zd_X12_work1 (139, .iload 5, 2, 0, []) (List.mem_of_getElem? (i := 80) rfl)) rfl (j := 7) rfl ?_
                refine zp_iastR (j := (5 * n1ξ + 43)) (pc := 141) hx hb hwξ heffξ (zd_X12_work1 (141, .iastore, 1, 0, []) (List.mem_of_getElem? (i := 81) rfl)) (zM_P hMξ (List.mem_of_getElem? (i := 2) rfl)) (by omega) (show (5 * n1ξ + 43) < 180 by omega) (zr_st (lo := (-1)) (hi := 9) (zr_w4 n1ξ (by omega)) (by omega) (by omega) (by omega) (by omega)) ⟨1002, rfl, zp_1002 (by omega)⟩ ?_
                refine zp_load (pc := 142) hx hb (zd_X12_work1 (142, .aload_n 0, 1, 0, []) (List.mem_of_getElem? (i := 82) rfl)) rfl (j := 2) rfl ?_
                refine zp_getf (n := (A 3 : Int)) (pc := 143) hx hb hEξ hwξ (zd_X12_work1 (143, .getfield 13, 3, 0, []) (List.mem_of_getElem? (i := 83) rfl)) (j := 21) rfl rfl rfl (zM_P hMξ (List.mem_of_getElem? (i := 0) rfl)) ((zp_set_ne (Or.inl (zM_ne hMξ (List.mem_of_getElem? (i := 0) rfl) (List.mem_of_getElem? (i := 2) rfl) (by decide)))).trans ((zp_set_ne (Or.inl (zM_ne hMξ (List.mem_of_getElem? (i := 0) rfl) (List.mem_of_getElem? (i := 2) rfl) (by decide)))).trans ((zp_set_ne (Or.inl (zM_ne hMξ (List.mem_of_getElem? (i := 0) rfl) (List.mem_of_getElem? (i := 2) rfl) (by decide)))).trans ((zp_set_ne (Or.inl (zM_ne hMξ (List.mem_of_getElem? (i := 0) rfl) (List.mem_of_getElem? (i := 2) rfl) (by decide)))).trans ((zp_set_ne (Or.inl (zM_ne hMξ (List.mem_of_getElem? (i := 0) rfl) (List.mem_of_getElem? (i := 2) rfl) (by decide)))).trans (((zM_G hMξ (List.mem_of_getElem? (i := 0) rfl) 3).trans (zM_F hMξ (List.mem_of_getElem? (i := 1) rfl))))))))) ?_
                refine zp_const (pc := 146) hx hb (zd_X12_work1 (146, .bipush 29, 2, 0, []) (List.mem_of_getElem? (i := 84) rfl)) rfl rfl ?_
                refine zp_load (pc := 148) hx hb (zd_X12_work1 (148, .iload 6, 2, 0, []) (List.mem_of_getElem? (i := 85) rfl)) rfl (j := 1) rfl ?_
                refine zp_add (n := ((n1ξ : Int) + 29)) (pc := 150) hx hb (zd_X12_work1 (150, .iadd, 1, 0, []) (List.mem_of_getElem? (i := 86) rfl)) (by omega) (zp_r0 (by omega) (by omega)) ?_
                refine zp_const (pc := 151) hx hb (zd_X12_work1 (151, .iconst 0, 1, 0, []) (List.mem_of_getElem? (i := 87) rfl)) rfl rfl ?_
                refine zp_iastR (j := (n1ξ + 29)) (pc := 152) hx hb hwξ heffξ (zd_X12_work1 (152, .iastore, 1, 0, []) (List.mem_of_getElem? (i := 88) rfl)) (zM_P hMξ (List.mem_of_getElem? (i := 2) rfl)) (by omega) (show (n1ξ + 29) < 180 by omega) (zr_st (lo := (-2147483648)) (hi := 2147483647) (zr_d n1ξ (by omega)) (by omega) (by omega) (by omega) (by omega)) ⟨1002, rfl, zp_1002 (by omega)⟩ ?_
                refine zp_load (pc := 153) hx hb (zd_X12_work1 (153, .aload_n 0, 1, 0, []) (List.mem_of_getElem? (i := 89) rfl)) rfl (j := 2) rfl ?_
                refine zp_getf (n := (A 3 : Int)) (pc := 154) hx hb hEξ hwξ (zd_X12_work1 (154, .getfield 13, 3, 0, []) (List.mem_of_getElem? (i := 90) rfl)) (j := 21) rfl rfl rfl (zM_P hMξ (List.mem_of_getElem? (i := 0) rfl)) ((zp_set_ne (Or.inl (zM_ne hMξ (List.mem_of_getElem? (i := 0) rfl) (List.mem_of_getElem? (i := 2) rfl) (by decide)))).trans ((zp_set_ne (Or.inl (zM_ne hMξ (List.mem_of_getElem? (i := 0) rfl) (List.mem_of_getElem? (i := 2) rfl) (by decide)))).trans ((zp_set_ne (Or.inl (zM_ne hMξ (List.mem_of_getElem? (i := 0) rfl) (List.mem_of_getElem? (i := 2) rfl) (by decide)))).trans ((zp_set_ne (Or.inl (zM_ne hMξ (List.mem_of_getElem? (i := 0) rfl) (List.mem_of_getElem? (i := 2) rfl) (by decide)))).trans ((zp_set_ne (Or.inl (zM_ne hMξ (List.mem_of_getElem? (i := 0) rfl) (List.mem_of_getElem? (i := 2) rfl) (by decide)))).trans ((zp_set_ne (Or.inl (zM_ne hMξ (List.mem_of_getElem? (i := 0) rfl) (List.mem_of_getElem? (i := 2) rfl) (by decide)))).trans (((zM_G hMξ (List.mem_of_getElem? (i := 0) rfl) 3).trans (zM_F hMξ (List.mem_of_getElem? (i := 1) rfl)))))))))) ?_
                refine zp_const (pc := 157) hx hb (zd_X12_work1 (157, .iconst 1, 1, 0, []) (List.mem_of_getElem? (i := 91) rfl)) rfl rfl ?_
                refine zp_dup2 (pc := 158) hx hb (zd_X12_work1 (158, .dup2, 1, 0, []) (List.mem_of_getElem? (i := 92) rfl)) (show (0 : Nat) ≠ 1 by decide) (show (2 : Nat) ≠ 1 by decide) ?_
                refine zp_ialdT (j := 1) (v := (n1ξ : Int)) (pc := 159) hx hb hwξ (zd_X12_work1 (159, .iaload, 1, 0, []) (List.mem_of_getElem? (i := 93) rfl)) zl_T59 rfl (zl_kd 1) (zM_P hMξ (List.mem_of_getElem? (i := 2) rfl)) (by omega) (show 1 < 5580 by omega) ((zp_set_ne (Or.inr (by omega))).trans ((zp_set_ne (Or.inr (by omega))).trans ((zp_set_ne (Or.inr (by omega))).trans ((zp_set_ne (Or.inr (by omega))).trans ((zp_set_ne (Or.inr (by omega))).trans ((zp_set_ne (Or.inr (by omega))).trans ((((zM_G hMξ (List.mem_of_getElem? (i := 2) rfl) (2000 + 1)).trans (hVξ 3 (2000 + 1) (Or.inl (by decide)))).trans hn1ξ)))))))) (fun _ => ?_)
                refine zp_const (pc := 160) hx hb (zd_X12_work1 (160, .iconst 1, 1, 0, []) (List.mem_of_getElem? (i := 94) rfl)) rfl rfl ?_
                refine zp_add (n := ((n1ξ : Int) + 1)) (pc := 161) hx hb (zd_X12_work1 (161, .iadd, 1, 0, []) (List.mem_of_getElem? (i := 95) rfl)) (by omega) (zp_r0 (by omega) (by omega)) ?_
                refine zp_iastR (j := 1) (pc := 162) hx hb hwξ heffξ (zd_X12_work1 (162, .iastore, 1, 0, []) (List.mem_of_getElem? (i := 96) rfl)) (zM_P hMξ (List.mem_of_getElem? (i := 2) rfl)) (by omega) (show 1 < 180 by omega) (zr_st (lo := 0) (hi := 10) ⟨rfl, rfl, rfl⟩ (by omega) (by omega) (by omega) (by omega)) ⟨1002, rfl, zp_1002 (by omega)⟩ ?_
                refine zp_load (pc := 163) hx hb (zd_X12_work1 (163, .iload 6, 2, 0, []) (List.mem_of_getElem? (i := 97) rfl)) rfl (j := 1) rfl ?_
                refine zp_iret (pc := 165) (n := (n1ξ : Int)) hx hb hEξ hQξ hU5ξ rfl (by decide) (zd_X12_work1 (165, .ireturn, 1, 0, []) (List.mem_of_getElem? (i := 98) rfl)) (j := 0) rfl (zp_o0 (by omega) (by omega) (by omega) (by omega)) ?_
                rw [hpsξ]
                refine ⟨rfl, ?_⟩
                have hffξ : zf_wk1 V npξ n1ξ p1ξ p2ξ p3ξ p4ξ p5ξ = ((n1ξ : Int), (zp_set (zp_set (zp_set (zp_set (zp_set (zp_set (zp_set V 3 (2000 + (5 * n1ξ + 39)) p1ξ) 3 (2000 + (5 * n1ξ + 40)) p2ξ) 3 (2000 + (5 * n1ξ + 41)) p3ξ) 3 (2000 + (5 * n1ξ + 42)) p4ξ) 3 (2000 + (5 * n1ξ + 43)) p5ξ) 3 (2000 + (n1ξ + 29)) 0) 3 (2000 + 1) ((n1ξ : Int) + 1))) := by
                  unfold zf_wk1
                  rw [if_pos ((Iff.mp htn136ξ) (by omega)), if_pos ((Iff.mp htn140ξ) (by omega)), if_pos ((Iff.mp htn144ξ) (by omega)), if_pos ((Iff.mp hti148ξ) (by omega)), if_neg hc152ξ, if_pos ((Iff.mp hti156ξ) (by omega)), if_pos hc161ξ]
                show zMVr A (zf_wk1 V npξ n1ξ p1ξ p2ξ p3ξ p4ξ p5ξ).2 u.1 (zp_set (zp_set (zp_set (zp_set (zp_set (zp_set (zp_set (zp_n u.2.1) (A 3) (2000 + (5 * n1ξ + 39)) p1ξ) (A 3) (2000 + (5 * n1ξ + 40)) p2ξ) (A 3) (2000 + (5 * n1ξ + 41)) p3ξ) (A 3) (2000 + (5 * n1ξ + 42)) p4ξ) (A 3) (2000 + (5 * n1ξ + 43)) p5ξ) (A 3) (2000 + (n1ξ + 29)) 0) (A 3) (2000 + 1) ((n1ξ : Int) + 1)) ∧ (n1ξ : Int) = (zf_wk1 V npξ n1ξ p1ξ p2ξ p3ξ p4ξ p5ξ).1
                rw [hffξ]
                exact ⟨⟨(zp_set (zp_set (zp_set (zp_set (zp_set (zp_set (zp_set M 3 (2000 + (5 * n1ξ + 39)) p1ξ) 3 (2000 + (5 * n1ξ + 40)) p2ξ) 3 (2000 + (5 * n1ξ + 41)) p3ξ) 3 (2000 + (5 * n1ξ + 42)) p4ξ) 3 (2000 + (5 * n1ξ + 43)) p5ξ) 3 (2000 + (n1ξ + 29)) 0) 3 (2000 + 1) ((n1ξ : Int) + 1)), (zM_setE (zM_setE (zM_setE (zM_setE (zM_setE (zM_setE (zM_setE hMξ (List.mem_of_getElem? (i := 2) rfl)) (List.mem_of_getElem? (i := 2) rfl)) (List.mem_of_getElem? (i := 2) rfl)) (List.mem_of_getElem? (i := 2) rfl)) (List.mem_of_getElem? (i := 2) rfl)) (List.mem_of_getElem? (i := 2) rfl)) (List.mem_of_getElem? (i := 2) rfl)), (zV_set (zV_set (zV_set (zV_set (zV_set (zV_set (zV_set hVξ))))))), (zSb_set (by decide) (zSb_set (by decide) (zSb_set (by decide) (zSb_set (by decide) (zSb_set (by decide) (zSb_set (by decide) (zSb_set (by decide) hSbξ)))))))⟩, rfl⟩
              · refine zp_const (pc := 80) hx hb (zd_X12_work1 (80, .bipush (-5), 2, 0, []) (List.mem_of_getElem? (i := 41) rfl)) rfl rfl ?_
                refine zp_iret (pc := 82) (n := (-5)) hx hb hEξ hQξ hU5ξ rfl (by decide) (zd_X12_work1 (82, .ireturn, 1, 0, []) (List.mem_of_getElem? (i := 42) rfl)) (j := 0) rfl (zp_o0 (by omega) (by omega) (by omega) (by omega)) ?_
                rw [hpsξ]
                refine ⟨rfl, ?_⟩
                have hffξ : zf_wk1 V npξ n1ξ p1ξ p2ξ p3ξ p4ξ p5ξ = ((-5), V) := by
                  unfold zf_wk1
                  rw [if_pos ((Iff.mp htn136ξ) (by omega)), if_pos ((Iff.mp htn140ξ) (by omega)), if_pos ((Iff.mp htn144ξ) (by omega)), if_pos ((Iff.mp hti148ξ) (by omega)), if_neg hc152ξ, if_pos ((Iff.mp hti156ξ) (by omega)), if_neg hc161ξ]
                show zMVr A (zf_wk1 V npξ n1ξ p1ξ p2ξ p3ξ p4ξ p5ξ).2 u.1 (zp_n u.2.1) ∧ (-5) = (zf_wk1 V npξ n1ξ p1ξ p2ξ p3ξ p4ξ p5ξ).1
                rw [hffξ]
                exact ⟨⟨M, hMξ, hVξ, hSbξ⟩, rfl⟩
            · have hbf159ξ : ¬ (0 ≤ p5ξ ∧ p5ξ < (n1ξ : Int)) := fun h9ξ => absurd ((Iff.mpr hti156ξ) h9ξ) (by omega)
              refine zp_const (pc := 62) hx hb (zd_X12_work1 (62, .bipush (-2), 2, 0, []) (List.mem_of_getElem? (i := 31) rfl)) rfl rfl ?_
              refine zp_iret (pc := 64) (n := (-2)) hx hb hEξ hQξ hU5ξ rfl (by decide) (zd_X12_work1 (64, .ireturn, 1, 0, []) (List.mem_of_getElem? (i := 32) rfl)) (j := 0) rfl (zp_o0 (by omega) (by omega) (by omega) (by omega)) ?_
              rw [hpsξ]
              refine ⟨rfl, ?_⟩
              have hffξ : zf_wk1 V npξ n1ξ p1ξ p2ξ p3ξ p4ξ p5ξ = ((-2), V) := by
                unfold zf_wk1
                rw [if_pos ((Iff.mp htn136ξ) (by omega)), if_pos ((Iff.mp htn140ξ) (by omega)), if_pos ((Iff.mp htn144ξ) (by omega)), if_pos ((Iff.mp hti148ξ) (by omega)), if_neg hc152ξ, if_neg (fun h9ξ => absurd ((Iff.mpr hti156ξ) h9ξ) (by omega))]
              show zMVr A (zf_wk1 V npξ n1ξ p1ξ p2ξ p3ξ p4ξ p5ξ).2 u.1 (zp_n u.2.1) ∧ (-2) = (zf_wk1 V npξ n1ξ p1ξ p2ξ p3ξ p4ξ p5ξ).1
              rw [hffξ]
              exact ⟨⟨M, hMξ, hVξ, hSbξ⟩, rfl⟩
      · have hbf147ξ : ¬ (1 ≤ p4ξ ∧ p4ξ ≤ 99) := fun h9ξ => absurd ((Iff.mpr htn144ξ) h9ξ) (by omega)
        refine zp_const (pc := 37) hx hb (zd_X12_work1 (37, .iconst (-1), 1, 0, []) (List.mem_of_getElem? (i := 18) rfl)) rfl rfl ?_
        refine zp_iret (pc := 38) (n := (-1)) hx hb hEξ hQξ hU5ξ rfl (by decide) (zd_X12_work1 (38, .ireturn, 1, 0, []) (List.mem_of_getElem? (i := 19) rfl)) (j := 0) rfl (zp_o0 (by omega) (by omega) (by omega) (by omega)) ?_
        rw [hpsξ]
        refine ⟨rfl, ?_⟩
        have hffξ : zf_wk1 V npξ n1ξ p1ξ p2ξ p3ξ p4ξ p5ξ = ((-1), V) := by
          unfold zf_wk1
          rw [if_pos ((Iff.mp htn136ξ) (by omega)), if_pos ((Iff.mp htn140ξ) (by omega)), if_neg (fun h9ξ => absurd ((Iff.mpr htn144ξ) h9ξ) (by omega))]
        show zMVr A (zf_wk1 V npξ n1ξ p1ξ p2ξ p3ξ p4ξ p5ξ).2 u.1 (zp_n u.2.1) ∧ (-1) = (zf_wk1 V npξ n1ξ p1ξ p2ξ p3ξ p4ξ p5ξ).1
        rw [hffξ]
        exact ⟨⟨M, hMξ, hVξ, hSbξ⟩, rfl⟩
theorem zf_wk1_f {V : Nat → Nat → Int} {npξ n1ξ : Nat} {p1ξ : Int} {p2ξ : Int} {p3ξ : Int} {p4ξ : Int} {p5ξ : Int} {o k : Nat} (h9ξ : o ∉ ([3] : List Nat)) : (zf_wk1 V npξ n1ξ p1ξ p2ξ p3ξ p4ξ p5ξ).2 o k = V o k := by
  unfold zf_wk1
  by_cases hd2ξ : 1 ≤ p2ξ ∧ p2ξ ≤ 600
  · rw [if_pos hd2ξ]
    by_cases hd4ξ : 0 ≤ p3ξ ∧ p3ξ ≤ 23
    · rw [if_pos hd4ξ]
      by_cases hd6ξ : 1 ≤ p4ξ ∧ p4ξ ≤ 99
      · rw [if_pos hd6ξ]
        by_cases hd8ξ : 0 ≤ p1ξ ∧ p1ξ < (npξ : Int)
        · rw [if_pos hd8ξ]
          by_cases hd10ξ : p5ξ = (-1)
          · rw [if_pos hd10ξ]
            by_cases hd12ξ : ¬ (n1ξ : Int) = 10
            · rw [if_pos hd12ξ]
              show (zp_set (zp_set (zp_set (zp_set (zp_set (zp_set (zp_set V 3 (2000 + (5 * n1ξ + 39)) p1ξ) 3 (2000 + (5 * n1ξ + 40)) p2ξ) 3 (2000 + (5 * n1ξ + 41)) p3ξ) 3 (2000 + (5 * n1ξ + 42)) p4ξ) 3 (2000 + (5 * n1ξ + 43)) p5ξ) 3 (2000 + (n1ξ + 29)) 0) 3 (2000 + 1) ((n1ξ : Int) + 1)) o k = V o k
              exact ((zp_set_ne (Or.inl (zc_nin h9ξ (by decide)))).trans ((zp_set_ne (Or.inl (zc_nin h9ξ (by decide)))).trans ((zp_set_ne (Or.inl (zc_nin h9ξ (by decide)))).trans ((zp_set_ne (Or.inl (zc_nin h9ξ (by decide)))).trans ((zp_set_ne (Or.inl (zc_nin h9ξ (by decide)))).trans ((zp_set_ne (Or.inl (zc_nin h9ξ (by decide)))).trans (zp_set_ne (Or.inl (zc_nin h9ξ (by decide))))))))))
            · rw [if_neg hd12ξ]
          · rw [if_neg hd10ξ]
            by_cases hd12ξ : 0 ≤ p5ξ ∧ p5ξ < (n1ξ : Int)
            · rw [if_pos hd12ξ]
              by_cases hd14ξ : ¬ (n1ξ : Int) = 10
              · rw [if_pos hd14ξ]
                show (zp_set (zp_set (zp_set (zp_set (zp_set (zp_set (zp_set V 3 (2000 + (5 * n1ξ + 39)) p1ξ) 3 (2000 + (5 * n1ξ + 40)) p2ξ) 3 (2000 + (5 * n1ξ + 41)) p3ξ) 3 (2000 + (5 * n1ξ + 42)) p4ξ) 3 (2000 + (5 * n1ξ + 43)) p5ξ) 3 (2000 + (n1ξ + 29)) 0) 3 (2000 + 1) ((n1ξ : Int) + 1)) o k = V o k
                exact ((zp_set_ne (Or.inl (zc_nin h9ξ (by decide)))).trans ((zp_set_ne (Or.inl (zc_nin h9ξ (by decide)))).trans ((zp_set_ne (Or.inl (zc_nin h9ξ (by decide)))).trans ((zp_set_ne (Or.inl (zc_nin h9ξ (by decide)))).trans ((zp_set_ne (Or.inl (zc_nin h9ξ (by decide)))).trans ((zp_set_ne (Or.inl (zc_nin h9ξ (by decide)))).trans (zp_set_ne (Or.inl (zc_nin h9ξ (by decide))))))))))
              · rw [if_neg hd14ξ]
            · rw [if_neg hd12ξ]
        · rw [if_neg hd8ξ]
      · rw [if_neg hd6ξ]
    · rw [if_neg hd4ξ]
  · rw [if_neg hd2ξ]
theorem zf_wk16 (V : Nat → Nat → Int) (npξ n1ξ : Nat) (p1ξ p2ξ p3ξ p4ξ p5ξ : Int) (h : n1ξ ≤ 10) : -6 ≤ (zf_wk1 V npξ n1ξ p1ξ p2ξ p3ξ p4ξ p5ξ).1 ∧ (zf_wk1 V npξ n1ξ p1ξ p2ξ p3ξ p4ξ p5ξ).1 ≤ 10 := by
  unfold zf_wk1
  repeat' split
  all_goals (dsimp only; omega)
noncomputable def zf_wrk (V : Nat → Nat → Int) (npξ n1ξ : Nat) (p1ξ : Int) (p2ξ : Int) (p3ξ : Int) (p4ξ : Int) (p5ξ : Int) : Int × (Nat → Nat → Int) := (((zf_wk1 (zp_set V 0 0 0) npξ n1ξ p1ξ p2ξ p3ξ p4ξ p5ξ).1), (zf_stl (zf_wk1 (zp_set V 0 0 0) npξ n1ξ p1ξ p2ξ p3ξ p4ξ p5ξ).2 ((zf_wk1 (zp_set V 0 0 0) npξ n1ξ p1ξ p2ξ p3ξ p4ξ p5ξ).1)).2)
noncomputable def zK_wrk : zk_K := (zt_mn 198, prog_14_method_27_code, 6, (Option.some Jvm.ClassFile.FieldType.int), 1, 12, [(2, 13, 0, 0), (0, 0, (-2147483648), 2147483647), (0, 0, (-2147483648), 2147483647), (0, 0, (-2147483648), 2147483647), (0, 0, (-2147483648), 2147483647), (0, 0, (-2147483648), 2147483647)], [(some (0, 0, (-2147483648), 2147483647), [])], zUE, (4, 240, 0, 0))
noncomputable def zφ_wrk (A : Nat → Nat) (V : Nat → Nat → Int) (npξ n1ξ : Nat) : (Nat → Option Nat) → (Nat → Nat → Int) → List Int → Prop := fun P G ps => zMVr A V P G ∧ ps.getD 0 0 = (A 0 : Int) ∧ (∀ j, j < 5580 → -2147483648 ≤ V 3 (2000 + j) ∧ V 3 (2000 + j) ≤ 2147483647) ∧ V 3 (2000 + 0) = (npξ : Int) ∧ npξ ≤ 6 ∧ V 3 (2000 + 1) = (n1ξ : Int) ∧ n1ξ ≤ 10
noncomputable def zψ_wrk (A : Nat → Nat) (V : Nat → Nat → Int) (npξ n1ξ : Nat) : (Nat → Option Nat) → (Nat → Nat → Int) → List Int → (Nat → Option Nat) → (Nat → Nat → Int) → Int → Prop := fun P G ps P' G' rn => P' = P ∧ zMVr A (zf_wrk V npξ n1ξ (ps.getD 1 0) (ps.getD 2 0) (ps.getD 3 0) (ps.getD 4 0) (ps.getD 5 0)).2 P' G' ∧ rn = (zf_wrk V npξ n1ξ (ps.getD 1 0) (ps.getD 2 0) (ps.getD 3 0) (ps.getD 4 0) (ps.getD 5 0)).1
theorem zX_wrk {l : Launch} {w : zk_W} (hWξ : zh_W w) (A : Nat → Nat) (V : Nat → Nat → Int) (npξ n1ξ : Nat) : zk_metX l w zt_dv zt_TB zK_wrk (zp_A (zφ_wrk A V npξ n1ξ)) (zp_B (zψ_wrk A V npξ n1ξ)) ∧ zk_cok w zt_TB zK_wrk := by
  refine zp_methX (cn := "WoundTownModel") zp_lkall hWξ (pl := 1624) rfl (by decide +kernel) (fun p e R s m args below meth c Q u hx hb hEξ hQξ hU5ξ heffξ hnLξ hokξ hφ => ?_)
  have hwξ := hWξ.1
  obtain ⟨p0ξ, p1ξ, p2ξ, p3ξ, p4ξ, p5ξ, hpsξ, tk0, tk1, tk2, tk3, tk4, tk5⟩ := zp_ps6 hokξ
  have hrmξ : zk_Kr (zk_ev (zt_types, zp_lk, zt_dv, [], [], zp_lc, zK_wrk)) = zk_Kr zK_wrk := rfl
  rw [hpsξ] at hφ ⊢
  have hφ : zMVr A V u.1 (zp_n u.2.1) ∧ p0ξ = (A 0 : Int) ∧ (∀ j, j < 5580 → -2147483648 ≤ V 3 (2000 + j) ∧ V 3 (2000 + j) ≤ 2147483647) ∧ V 3 (2000 + 0) = (npξ : Int) ∧ npξ ≤ 6 ∧ V 3 (2000 + 1) = (n1ξ : Int) ∧ n1ξ ≤ 10 := hφ
  obtain ⟨⟨M, hMξ, hVξ, hSbξ⟩, rfl, hRξ, hnpξ, hnp6ξ, hn1ξ, hn10ξ⟩ := hφ
  have hi1ξ := zp_int tk1
  have hi2ξ := zp_int tk2
  have hi3ξ := zp_int tk3
  have hi4ξ := zp_int tk4
  have hi5ξ := zp_int tk5
  show zp_J p l e R s m args below meth c Q w u [] 0 [(0, 2, (A 0 : Int)), (1, 0, p1ξ), (2, 0, p2ξ), (3, 0, p3ξ), (4, 0, p4ξ), (5, 0, p5ξ)] [] u.1 (zp_n u.2.1)
  refine zp_load (pc := 0) hx hb (zd_X12_work (0, .aload_n 0, 1, 0, []) (List.mem_of_getElem? (i := 0) rfl)) rfl (j := 0) rfl ?_
  refine zp_const (pc := 1) hx hb (zd_X12_work (1, .iconst 0, 1, 0, []) (List.mem_of_getElem? (i := 1) rfl)) rfl rfl ?_
  refine zp_putf (pc := 2) hx hb hEξ hwξ heffξ (zd_X12_work (2, .putfield 161, 3, 0, []) (List.mem_of_getElem? (i := 2) rfl)) (j := 18) rfl rfl rfl (zM_P hMξ (List.mem_of_getElem? (i := 0) rfl)) (zp_o0 (by decide) (by decide) (by decide) (by decide)) ?_
  refine zp_load (pc := 5) hx hb (zd_X12_work (5, .aload_n 0, 1, 0, []) (List.mem_of_getElem? (i := 3) rfl)) rfl (j := 0) rfl ?_
  refine zp_load (pc := 6) hx hb (zd_X12_work (6, .aload_n 0, 1, 0, []) (List.mem_of_getElem? (i := 4) rfl)) rfl (j := 0) rfl ?_
  refine zp_load (pc := 7) hx hb (zd_X12_work (7, .iload_n 1, 1, 0, []) (List.mem_of_getElem? (i := 5) rfl)) rfl (j := 1) rfl ?_
  refine zp_load (pc := 8) hx hb (zd_X12_work (8, .iload_n 2, 1, 0, []) (List.mem_of_getElem? (i := 6) rfl)) rfl (j := 2) rfl ?_
  refine zp_load (pc := 9) hx hb (zd_X12_work (9, .iload_n 3, 1, 0, []) (List.mem_of_getElem? (i := 7) rfl)) rfl (j := 3) rfl ?_
  refine zp_load (pc := 10) hx hb (zd_X12_work (10, .iload 4, 2, 0, []) (List.mem_of_getElem? (i := 8) rfl)) rfl (j := 4) rfl ?_
  refine zp_load (pc := 12) hx hb (zd_X12_work (12, .iload 5, 2, 0, []) (List.mem_of_getElem? (i := 9) rfl)) rfl (j := 5) rfl ?_
  refine zp_call (pc := 14) (how := 0) (idx := 220) (mi := 199) (S := [(2, (A 0 : Int))]) hx hb hEξ hwξ heffξ hrmξ (zX_wk1 hWξ A (zp_set V 0 0 0) npξ n1ξ) rfl (j := 9) rfl rfl (by decide +kernel) (zd_X12_work (14, .invokevirtual 220, 3, 0, []) (List.mem_of_getElem? (i := 10) rfl)) [(A 0 : Int), p1ξ, p2ξ, p3ξ, p4ξ, p5ξ] rfl ⟨zp_o2 (zM_P hMξ (List.mem_of_getElem? (i := 0) rfl)), zp_o0 (by omega) (by omega) (by omega) (by omega), zp_o0 (by omega) (by omega) (by omega) (by omega), zp_o0 (by omega) (by omega) (by omega) (by omega), zp_o0 (by omega) (by omega) (by omega) (by omega), zp_o0 (by omega) (by omega) (by omega) (by omega), trivial⟩ (Nat.le_of_ble_eq_true rfl) ⟨⟨(zp_set M 0 0 0), (zM_set hMξ (List.mem_of_getElem? (i := 0) rfl) (by decide)), (zV_set hVξ), (zSb_set (by decide) hSbξ)⟩, rfl, (fun j hjξ => by rw [zp_set_ne (Or.inl (by decide))]; exact hRξ j hjξ), (zp_set_ne (Or.inl (by decide))).trans hnpξ, hnp6ξ, (zp_set_ne (Or.inl (by decide))).trans hn1ξ, hn10ξ⟩ (fun al halξ rnw163ξ Pw163 Gw163 hextw163ξ hfrw163ξ hokw163ξ hcsw163ξ hpsiw163ξ => ?_)
  obtain rfl := List.mem_singleton.mp halξ
  have hrw163ξ := zp_int (hokw163ξ _ rfl).1
  obtain ⟨hPew163ξ, ⟨Mw163, hMw163ξ, hVw163ξ, hSbw163ξ⟩, htw163ξ⟩ := hpsiw163ξ
  subst hPew163ξ
  clear hextw163ξ hfrw163ξ hcsw163ξ hokw163ξ
  have hVw163ξ : ∀ o k, zNs o k → Mw163 o k = (zf_wk1 (zp_set V 0 0 0) npξ n1ξ p1ξ p2ξ p3ξ p4ξ p5ξ).2 o k := hVw163ξ
  have hbw163ξ := zf_wk16 (zp_set V 0 0 0) npξ n1ξ p1ξ p2ξ p3ξ p4ξ p5ξ (by omega)
  have htw163ξ : rnw163ξ = (zf_wk1 (zp_set V 0 0 0) npξ n1ξ p1ξ p2ξ p3ξ p4ξ p5ξ).1 := htw163ξ
  have htw163ξ := (Eq.symm htw163ξ)
  subst htw163ξ
  refine zp_call (pc := 17) (how := 0) (idx := 185) (mi := 188) (S := []) hx hb hEξ hwξ heffξ hrmξ (zX_stl hWξ A (zf_wk1 (zp_set V 0 0 0) npξ n1ξ p1ξ p2ξ p3ξ p4ξ p5ξ).2) rfl (j := 3) rfl rfl (by decide +kernel) (zd_X12_work (17, .invokevirtual 185, 3, 0, []) (List.mem_of_getElem? (i := 11) rfl)) [(A 0 : Int), ((zf_wk1 (zp_set V 0 0 0) npξ n1ξ p1ξ p2ξ p3ξ p4ξ p5ξ).1)] rfl ⟨zp_o2 (zM_P hMw163ξ (List.mem_of_getElem? (i := 0) rfl)), zp_o0 (by omega) (by omega) (by omega) (by omega), trivial⟩ (Nat.le_of_ble_eq_true rfl) ⟨⟨Mw163, hMw163ξ, hVw163ξ, hSbw163ξ⟩, rfl, (show -6 ≤ ((zf_wk1 (zp_set V 0 0 0) npξ n1ξ p1ξ p2ξ p3ξ p4ξ p5ξ).1) by omega)⟩ (fun al halξ rnt164ξ Pt164 Gt164 hextt164ξ hfrt164ξ hokt164ξ hcst164ξ hpsit164ξ => ?_)
  obtain rfl := List.mem_singleton.mp halξ
  have hrt164ξ := zp_int (hokt164ξ _ rfl).1
  obtain ⟨hPet164ξ, ⟨Mt164, hMt164ξ, hVt164ξ, hSbt164ξ⟩, htt164ξ⟩ := hpsit164ξ
  subst hPet164ξ
  clear hextt164ξ hfrt164ξ hcst164ξ hokt164ξ
  have hVt164ξ : ∀ o k, zNs o k → Mt164 o k = (zf_stl (zf_wk1 (zp_set V 0 0 0) npξ n1ξ p1ξ p2ξ p3ξ p4ξ p5ξ).2 ((zf_wk1 (zp_set V 0 0 0) npξ n1ξ p1ξ p2ξ p3ξ p4ξ p5ξ).1)).2 o k := hVt164ξ
  have htt164ξ : rnt164ξ = ((zf_wk1 (zp_set V 0 0 0) npξ n1ξ p1ξ p2ξ p3ξ p4ξ p5ξ).1) := Eq.trans htt164ξ (zf_stl1 _ _)
  have htt164ξ := (Eq.symm htt164ξ)
  subst htt164ξ
  refine zp_iret (pc := 20) (n := ((zf_wk1 (zp_set V 0 0 0) npξ n1ξ p1ξ p2ξ p3ξ p4ξ p5ξ).1)) hx hb hEξ hQξ hU5ξ rfl (by decide) (zd_X12_work (20, .ireturn, 1, 0, []) (List.mem_of_getElem? (i := 12) rfl)) (j := 0) rfl (zp_o0 (by omega) (by omega) (by omega) (by omega)) ?_
  rw [hpsξ]
  refine ⟨rfl, ?_⟩
  have hffξ : zf_wrk V npξ n1ξ p1ξ p2ξ p3ξ p4ξ p5ξ = (((zf_wk1 (zp_set V 0 0 0) npξ n1ξ p1ξ p2ξ p3ξ p4ξ p5ξ).1), (zf_stl (zf_wk1 (zp_set V 0 0 0) npξ n1ξ p1ξ p2ξ p3ξ p4ξ p5ξ).2 ((zf_wk1 (zp_set V 0 0 0) npξ n1ξ p1ξ p2ξ p3ξ p4ξ p5ξ).1)).2) := rfl
  show zMVr A (zf_wrk V npξ n1ξ p1ξ p2ξ p3ξ p4ξ p5ξ).2 u.1 Gt164 ∧ ((zf_wk1 (zp_set V 0 0 0) npξ n1ξ p1ξ p2ξ p3ξ p4ξ p5ξ).1) = (zf_wrk V npξ n1ξ p1ξ p2ξ p3ξ p4ξ p5ξ).1
  rw [hffξ]
  exact ⟨⟨Mt164, hMt164ξ, hVt164ξ, hSbt164ξ⟩, rfl⟩
noncomputable def zf_sig (V : Nat → Nat → Int) (n1ξ nsξ : Nat) (p1ξ : Int) (p2ξ : Int) (p3ξ : Int) : Int × (Nat → Nat → Int) := if 0 ≤ p2ξ ∧ p2ξ ≤ 23 then if 0 ≤ p3ξ ∧ p3ξ ≤ 600 then if 0 ≤ p1ξ ∧ p1ξ < (n1ξ : Int) then if ¬ (nsξ : Int) = 8 then (((nsξ : Int) + 1), (zT_tell (zp_set (zp_set (zp_set (zp_set (zp_set V 0 0 0) 3 (2000 + (3 * nsξ + 153)) p1ξ) 3 (2000 + (3 * nsξ + 154)) p2ξ) 3 (2000 + (3 * nsξ + 155)) p3ξ) 3 (2000 + 2) ((nsξ : Int) + 1)) ((nsξ : Int) + 1))) else ((-5), (zT_tell (zp_set V 0 0 0) (-5))) else ((-2), (zT_tell (zp_set V 0 0 0) (-2))) else ((-1), (zT_tell (zp_set V 0 0 0) (-1))) else ((-1), (zT_tell (zp_set V 0 0 0) (-1)))
noncomputable def zK_sig : zk_K := (zt_mn 266, prog_14_method_90_code, 5, (Option.some Jvm.ClassFile.FieldType.int), 1, 12, [(2, 13, 0, 0), (0, 0, (-2147483648), 2147483647), (0, 0, (-2147483648), 2147483647), (0, 0, (-2147483648), 2147483647)], [(some (0, 0, (-2147483648), 2147483647), [])], zUE, (3, 180, 0, 0))
noncomputable def zφ_sig (A : Nat → Nat) (V : Nat → Nat → Int) (n1ξ nsξ : Nat) : (Nat → Option Nat) → (Nat → Nat → Int) → List Int → Prop := fun P G ps => zMVr A V P G ∧ ps.getD 0 0 = (A 0 : Int) ∧ (∀ j, j < 5580 → -2147483648 ≤ V 3 (2000 + j) ∧ V 3 (2000 + j) ≤ 2147483647) ∧ V 3 (2000 + 1) = (n1ξ : Int) ∧ n1ξ ≤ 10 ∧ V 3 (2000 + 2) = (nsξ : Int) ∧ nsξ ≤ 8
noncomputable def zψ_sig (A : Nat → Nat) (V : Nat → Nat → Int) (n1ξ nsξ : Nat) : (Nat → Option Nat) → (Nat → Nat → Int) → List Int → (Nat → Option Nat) → (Nat → Nat → Int) → Int → Prop := fun P G ps P' G' rn => P' = P ∧ zMVr A (zf_sig V n1ξ nsξ (ps.getD 1 0) (ps.getD 2 0) (ps.getD 3 0)).2 P' G' ∧ rn = (zf_sig V n1ξ nsξ (ps.getD 1 0) (ps.getD 2 0) (ps.getD 3 0)).1
theorem zX_sig {l : Launch} {w : zk_W} (hWξ : zh_W w) (A : Nat → Nat) (V : Nat → Nat → Int) (n1ξ nsξ : Nat) : zk_metX l w zt_dv zt_TB zK_sig (zp_A (zφ_sig A V n1ξ nsξ)) (zp_B (zψ_sig A V n1ξ nsξ)) ∧ zk_cok w zt_TB zK_sig := by
  refine zp_methX (cn := "WoundTownModel") zp_lkall hWξ (pl := 1918) rfl (by decide +kernel) (fun p e R s m args below meth c Q u hx hb hEξ hQξ hU5ξ heffξ hnLξ hokξ hφ => ?_)
  have hwξ := hWξ.1
  obtain ⟨p0ξ, p1ξ, p2ξ, p3ξ, hpsξ, tk0, tk1, tk2, tk3⟩ := zp_ps4 hokξ
  have hrmξ : zk_Kr (zk_ev (zt_types, zp_lk, zt_dv, [], [], zp_lc, zK_sig)) = zk_Kr zK_sig := rfl
  rw [hpsξ] at hφ ⊢
  have hφ : zMVr A V u.1 (zp_n u.2.1) ∧ p0ξ = (A 0 : Int) ∧ (∀ j, j < 5580 → -2147483648 ≤ V 3 (2000 + j) ∧ V 3 (2000 + j) ≤ 2147483647) ∧ V 3 (2000 + 1) = (n1ξ : Int) ∧ n1ξ ≤ 10 ∧ V 3 (2000 + 2) = (nsξ : Int) ∧ nsξ ≤ 8 := hφ
  obtain ⟨⟨M, hMξ, hVξ, hSbξ⟩, rfl, hRξ, hn1ξ, hn10ξ, hnsξ, hns8ξ⟩ := hφ
  have hi1ξ := zp_int tk1
  have hi2ξ := zp_int tk2
  have hi3ξ := zp_int tk3
  show zp_J p l e R s m args below meth c Q w u [] 0 [(0, 2, (A 0 : Int)), (1, 0, p1ξ), (2, 0, p2ξ), (3, 0, p3ξ)] [] u.1 (zp_n u.2.1)
  refine zp_load (pc := 0) hx hb (zd_X12_sight (0, .aload_n 0, 1, 0, []) (List.mem_of_getElem? (i := 0) rfl)) rfl (j := 0) rfl ?_
  refine zp_const (pc := 1) hx hb (zd_X12_sight (1, .iconst 0, 1, 0, []) (List.mem_of_getElem? (i := 1) rfl)) rfl rfl ?_
  refine zp_putf (pc := 2) hx hb hEξ hwξ heffξ (zd_X12_sight (2, .putfield 161, 3, 0, []) (List.mem_of_getElem? (i := 2) rfl)) (j := 18) rfl rfl rfl (zM_P hMξ (List.mem_of_getElem? (i := 0) rfl)) (zp_o0 (by decide) (by decide) (by decide) (by decide)) ?_
  refine zp_load (pc := 5) hx hb (zd_X12_sight (5, .iload_n 2, 1, 0, []) (List.mem_of_getElem? (i := 3) rfl)) rfl (j := 2) rfl ?_
  refine zp_i2l (pc := 6) hx hb (zd_X12_sight (6, .i2l, 1, 0, []) (List.mem_of_getElem? (i := 4) rfl)) ?_
  refine zp_const (pc := 7) hx hb (zd_X12_sight (7, .lconst 0, 1, 0, []) (List.mem_of_getElem? (i := 5) rfl)) rfl rfl ?_
  refine zp_ldc2 (pc := 8) hx hb hEξ (zd_X12_sight (8, .ldc2_w 215, 3, 0, []) (List.mem_of_getElem? (i := 6) rfl)) (j := 87) rfl ?_
  refine zp_call (pc := 11) (how := 1) (idx := 181) (mi := 186) (S := []) hx hb hEξ hwξ heffξ hrmξ (zX_in2 hWξ) rfl (j := 2) rfl rfl (by decide +kernel) (zd_X12_sight (11, .invokestatic 181, 3, 0, []) (List.mem_of_getElem? (i := 7) rfl)) [p2ξ, 0, 23] rfl ⟨zp_o1 (by first | assumption | exact zp_r1 (by omega) (by omega)), zp_o1 (by first | assumption | exact zp_r1 (by omega) (by omega)), zp_o1 (by first | assumption | exact zp_r1 (by omega) (by omega)), trivial⟩ (Nat.le_of_ble_eq_true rfl) trivial (fun al halξ rnn165ξ Pn165 Gn165 hextn165ξ hfrn165ξ hokn165ξ hcsn165ξ hpsin165ξ => ?_)
  obtain rfl := List.mem_singleton.mp halξ
  have hrn165ξ := zp_int (hokn165ξ _ rfl).1
  obtain ⟨hPen165ξ, hGen165ξ, htn165ξ⟩ := hpsin165ξ
  rw [hPen165ξ, hGen165ξ]
  clear hextn165ξ hfrn165ξ hcsn165ξ hPen165ξ hGen165ξ
  have htn165ξ : rnn165ξ = 1 ↔ 0 ≤ p2ξ ∧ p2ξ ≤ 23 := htn165ξ
  refine zp_if (pc := 14) (tgt := 29) hx hb (zd_X12_sight (14, .ifCond .eq 15, 3, 0, []) (List.mem_of_getElem? (i := 8) rfl)) rfl (fun (hc166ξ : rnn165ξ = 0) => ?_) (fun (hc166ξ : ¬ (rnn165ξ = 0)) => ?_)
  · have hbf167ξ : ¬ (0 ≤ p2ξ ∧ p2ξ ≤ 23) := fun h9ξ => absurd ((Iff.mpr htn165ξ) h9ξ) (by omega)
    refine zp_load (pc := 29) hx hb (zd_X12_sight (29, .aload_n 0, 1, 0, []) (List.mem_of_getElem? (i := 15) rfl)) rfl (j := 0) rfl ?_
    refine zp_const (pc := 30) hx hb (zd_X12_sight (30, .iconst (-1), 1, 0, []) (List.mem_of_getElem? (i := 16) rfl)) rfl rfl ?_
    refine zp_call (pc := 31) (how := 0) (idx := 170) (mi := 183) (S := []) hx hb hEξ hwξ heffξ hrmξ (zX_tll hWξ A (zp_set V 0 0 0)) rfl (j := 0) rfl rfl (by decide +kernel) (zd_X12_sight (31, .invokevirtual 170, 3, 0, []) (List.mem_of_getElem? (i := 17) rfl)) [(A 0 : Int), (-1)] rfl ⟨zp_o2 (zM_P hMξ (List.mem_of_getElem? (i := 0) rfl)), zp_o0 (by omega) (by omega) (by omega) (by omega), trivial⟩ (Nat.le_of_ble_eq_true rfl) ⟨⟨(zp_set M 0 0 0), (zM_set hMξ (List.mem_of_getElem? (i := 0) rfl) (by decide)), (zV_set hVξ), (zSb_set (by decide) hSbξ)⟩, rfl, (show -6 ≤ (-1) by omega)⟩ (fun al halξ rnt169ξ Pt169 Gt169 hextt169ξ hfrt169ξ hokt169ξ hcst169ξ hpsit169ξ => ?_)
    obtain rfl := List.mem_singleton.mp halξ
    have hrt169ξ := zp_int (hokt169ξ _ rfl).1
    obtain ⟨hPet169ξ, ⟨Mt169, hMt169ξ, hVt169ξ, hSbt169ξ⟩, htt169ξ⟩ := hpsit169ξ
    subst hPet169ξ
    clear hextt169ξ hfrt169ξ hcst169ξ hokt169ξ
    have hVt169ξ : ∀ o k, zNs o k → Mt169 o k = (zT_tell (zp_set V 0 0 0) (-1)) o k := hVt169ξ
    have htt169ξ : rnt169ξ = (-1) := htt169ξ
    have htt169ξ := (Eq.symm htt169ξ)
    subst htt169ξ
    refine zp_iret (pc := 34) (n := (-1)) hx hb hEξ hQξ hU5ξ rfl (by decide) (zd_X12_sight (34, .ireturn, 1, 0, []) (List.mem_of_getElem? (i := 18) rfl)) (j := 0) rfl (zp_o0 (by omega) (by omega) (by omega) (by omega)) ?_
    rw [hpsξ]
    refine ⟨rfl, ?_⟩
    have hffξ : zf_sig V n1ξ nsξ p1ξ p2ξ p3ξ = ((-1), (zT_tell (zp_set V 0 0 0) (-1))) := by
      unfold zf_sig
      rw [if_neg (fun h9ξ => absurd ((Iff.mpr htn165ξ) h9ξ) (by omega))]
    show zMVr A (zf_sig V n1ξ nsξ p1ξ p2ξ p3ξ).2 u.1 Gt169 ∧ (-1) = (zf_sig V n1ξ nsξ p1ξ p2ξ p3ξ).1
    rw [hffξ]
    exact ⟨⟨Mt169, hMt169ξ, hVt169ξ, hSbt169ξ⟩, rfl⟩
  · have hbt168ξ := (Iff.mp htn165ξ) (by omega)
    refine zp_load (pc := 17) hx hb (zd_X12_sight (17, .iload_n 3, 1, 0, []) (List.mem_of_getElem? (i := 9) rfl)) rfl (j := 3) rfl ?_
    refine zp_i2l (pc := 18) hx hb (zd_X12_sight (18, .i2l, 1, 0, []) (List.mem_of_getElem? (i := 10) rfl)) ?_
    refine zp_const (pc := 19) hx hb (zd_X12_sight (19, .lconst 0, 1, 0, []) (List.mem_of_getElem? (i := 11) rfl)) rfl rfl ?_
    refine zp_ldc2 (pc := 20) hx hb hEξ (zd_X12_sight (20, .ldc2_w 213, 3, 0, []) (List.mem_of_getElem? (i := 12) rfl)) (j := 86) rfl ?_
    refine zp_call (pc := 23) (how := 1) (idx := 181) (mi := 186) (S := []) hx hb hEξ hwξ heffξ hrmξ (zX_in2 hWξ) rfl (j := 2) rfl rfl (by decide +kernel) (zd_X12_sight (23, .invokestatic 181, 3, 0, []) (List.mem_of_getElem? (i := 13) rfl)) [p3ξ, 0, 600] rfl ⟨zp_o1 (by first | assumption | exact zp_r1 (by omega) (by omega)), zp_o1 (by first | assumption | exact zp_r1 (by omega) (by omega)), zp_o1 (by first | assumption | exact zp_r1 (by omega) (by omega)), trivial⟩ (Nat.le_of_ble_eq_true rfl) trivial (fun al halξ rnn170ξ Pn170 Gn170 hextn170ξ hfrn170ξ hokn170ξ hcsn170ξ hpsin170ξ => ?_)
    obtain rfl := List.mem_singleton.mp halξ
    have hrn170ξ := zp_int (hokn170ξ _ rfl).1
    obtain ⟨hPen170ξ, hGen170ξ, htn170ξ⟩ := hpsin170ξ
    rw [hPen170ξ, hGen170ξ]
    clear hextn170ξ hfrn170ξ hcsn170ξ hPen170ξ hGen170ξ
    have htn170ξ : rnn170ξ = 1 ↔ 0 ≤ p3ξ ∧ p3ξ ≤ 600 := htn170ξ
    refine zp_if (pc := 26) (tgt := 35) hx hb (zd_X12_sight (26, .ifCond .ne 9, 3, 0, []) (List.mem_of_getElem? (i := 14) rfl)) rfl (fun (hc171ξ : ¬ rnn170ξ = 0) => ?_) (fun (hc171ξ : ¬ (¬ rnn170ξ = 0)) => ?_)
    · have hbt172ξ := (Iff.mp htn170ξ) (by omega)
      refine zp_load (pc := 35) hx hb (zd_X12_sight (35, .aload_n 0, 1, 0, []) (List.mem_of_getElem? (i := 19) rfl)) rfl (j := 0) rfl ?_
      refine zp_load (pc := 36) hx hb (zd_X12_sight (36, .iload_n 1, 1, 0, []) (List.mem_of_getElem? (i := 20) rfl)) rfl (j := 1) rfl ?_
      refine zp_call (pc := 37) (how := 0) (idx := 217) (mi := 200) (S := []) hx hb hEξ hwξ heffξ hrmξ (zX_isw hWξ A (zp_set M 0 0 0)) rfl (j := 10) rfl rfl (by decide +kernel) (zd_X12_sight (37, .invokevirtual 217, 3, 0, []) (List.mem_of_getElem? (i := 21) rfl)) [(A 0 : Int), p1ξ] rfl ⟨zp_o2 (zM_P hMξ (List.mem_of_getElem? (i := 0) rfl)), zp_o0 (by omega) (by omega) (by omega) (by omega), trivial⟩ (Nat.le_of_ble_eq_true rfl) ⟨(zM_set hMξ (List.mem_of_getElem? (i := 0) rfl) (by decide)), rfl, (show -2147483647 ≤ (zp_set M 0 0 0) 3 (2000 + 1) ∧ (zp_set M 0 0 0) 3 (2000 + 1) ≤ 2147483647 by rw [((zp_set_ne (Or.inl (by decide))).trans (((hVξ 3 (2000 + 1) (Or.inl (by decide))).trans hn1ξ)))]; omega)⟩ (fun al halξ rni174ξ Pi174 Gi174 hexti174ξ hfri174ξ hoki174ξ hcsi174ξ hpsii174ξ => ?_)
      obtain rfl := List.mem_singleton.mp halξ
      have hri174ξ := zp_int (hoki174ξ _ rfl).1
      obtain ⟨hPei174ξ, hGei174ξ, hti174ξ⟩ := hpsii174ξ
      rw [hPei174ξ, hGei174ξ]
      clear hexti174ξ hfri174ξ hcsi174ξ hPei174ξ hGei174ξ
      have hti174ξ : rni174ξ = 1 ↔ 0 ≤ p1ξ ∧ p1ξ < (n1ξ : Int) := by
        have h9ξ : rni174ξ = 1 ↔ 0 ≤ p1ξ ∧ p1ξ < (zp_set M 0 0 0) 3 (2000 + 1) := hti174ξ
        rw [((zp_set_ne (Or.inl (by decide))).trans (((hVξ 3 (2000 + 1) (Or.inl (by decide))).trans hn1ξ)))] at h9ξ
        exact h9ξ
      refine zp_if (pc := 40) (tgt := 50) hx hb (zd_X12_sight (40, .ifCond .ne 10, 3, 0, []) (List.mem_of_getElem? (i := 22) rfl)) rfl (fun (hc175ξ : ¬ rni174ξ = 0) => ?_) (fun (hc175ξ : ¬ (¬ rni174ξ = 0)) => ?_)
      · have hbt176ξ := (Iff.mp hti174ξ) (by omega)
        refine zp_load (pc := 50) hx hb (zd_X12_sight (50, .aload_n 0, 1, 0, []) (List.mem_of_getElem? (i := 27) rfl)) rfl (j := 0) rfl ?_
        refine zp_getf (n := (A 3 : Int)) (pc := 51) hx hb hEξ hwξ (zd_X12_sight (51, .getfield 13, 3, 0, []) (List.mem_of_getElem? (i := 28) rfl)) (j := 21) rfl rfl rfl (zM_P hMξ (List.mem_of_getElem? (i := 0) rfl)) ((zp_set_ne (Or.inr (by decide))).trans (((zM_G hMξ (List.mem_of_getElem? (i := 0) rfl) 3).trans (zM_F hMξ (List.mem_of_getElem? (i := 1) rfl))))) ?_
        refine zp_const (pc := 54) hx hb (zd_X12_sight (54, .iconst 2, 1, 0, []) (List.mem_of_getElem? (i := 29) rfl)) rfl rfl ?_
        refine zp_ialdT (j := 2) (v := (nsξ : Int)) (pc := 55) hx hb hwξ (zd_X12_sight (55, .iaload, 1, 0, []) (List.mem_of_getElem? (i := 30) rfl)) zl_T59 rfl (zl_kd 2) (zM_P hMξ (List.mem_of_getElem? (i := 2) rfl)) (by omega) (show 2 < 5580 by omega) ((zp_set_ne (Or.inl (zM_ne hMξ (List.mem_of_getElem? (i := 2) rfl) (List.mem_of_getElem? (i := 0) rfl) (by decide)))).trans ((((zM_G hMξ (List.mem_of_getElem? (i := 2) rfl) (2000 + 2)).trans (hVξ 3 (2000 + 2) (Or.inl (by decide)))).trans hnsξ))) (fun _ => ?_)
        refine zp_store (L' := [(4, 0, (nsξ : Int)), (0, 2, (A 0 : Int)), (1, 0, p1ξ), (2, 0, p2ξ), (3, 0, p3ξ)]) (pc := 56) hx hb hnLξ (zd_X12_sight (56, .istore 4, 2, 0, []) (List.mem_of_getElem? (i := 31) rfl)) rfl rfl rfl ?_
        refine zp_load (pc := 58) hx hb (zd_X12_sight (58, .iload 4, 2, 0, []) (List.mem_of_getElem? (i := 32) rfl)) rfl (j := 0) rfl ?_
        refine zp_const (pc := 60) hx hb (zd_X12_sight (60, .bipush 8, 2, 0, []) (List.mem_of_getElem? (i := 33) rfl)) rfl rfl ?_
        refine zp_icmp (pc := 62) (tgt := 72) hx hb (zd_X12_sight (62, .if_icmp .ne 10, 3, 0, []) (List.mem_of_getElem? (i := 34) rfl)) rfl (fun (hc179ξ : ¬ (nsξ : Int) = 8) => ?_) (fun (hc179ξ : ¬ (¬ (nsξ : Int) = 8)) => ?_)
        · refine zp_load (pc := 72) hx hb (zd_X12_sight (72, .aload_n 0, 1, 0, []) (List.mem_of_getElem? (i := 39) rfl)) rfl (j := 1) rfl ?_
          refine zp_getf (n := (A 3 : Int)) (pc := 73) hx hb hEξ hwξ (zd_X12_sight (73, .getfield 13, 3, 0, []) (List.mem_of_getElem? (i := 40) rfl)) (j := 21) rfl rfl rfl (zM_P hMξ (List.mem_of_getElem? (i := 0) rfl)) ((zp_set_ne (Or.inr (by decide))).trans (((zM_G hMξ (List.mem_of_getElem? (i := 0) rfl) 3).trans (zM_F hMξ (List.mem_of_getElem? (i := 1) rfl))))) ?_
          refine zp_const (pc := 76) hx hb (zd_X12_sight (76, .sipush 153, 3, 0, []) (List.mem_of_getElem? (i := 41) rfl)) rfl rfl ?_
          refine zp_const (pc := 79) hx hb (zd_X12_sight (79, .iconst 3, 1, 0, []) (List.mem_of_getElem? (i := 42) rfl)) rfl rfl ?_
          refine zp_load (pc := 80) hx hb (zd_X12_sight (80, .iload 4, 2, 0, []) (List.mem_of_getElem? (i := 43) rfl)) rfl (j := 0) rfl ?_
          refine zp_mul (n := (3 * (nsξ : Int))) (pc := 82) hx hb (zd_X12_sight (82, .imul, 1, 0, []) (List.mem_of_getElem? (i := 44) rfl)) (by omega) (zp_r0 (by omega) (by omega)) ?_
          refine zp_add (n := (3 * (nsξ : Int) + 153)) (pc := 83) hx hb (zd_X12_sight (83, .iadd, 1, 0, []) (List.mem_of_getElem? (i := 45) rfl)) (by omega) (zp_r0 (by omega) (by omega)) ?_
          refine zp_load (pc := 84) hx hb (zd_X12_sight (84, .iload_n 1, 1, 0, []) (List.mem_of_getElem? (i := 46) rfl)) rfl (j := 2) rfl ?_
          refine zp_iastR (j := (3 * nsξ + 153)) (pc := 85) hx hb hwξ heffξ (zd_X12_sight (85, .iastore, 1, 0, []) (List.mem_of_getElem? (i := 47) rfl)) (zM_P hMξ (List.mem_of_getElem? (i := 2) rfl)) (by omega) (show (3 * nsξ + 153) < 180 by omega) (zr_st (lo := 0) (hi := 9) (zr_s0 nsξ (by omega)) (by omega) (by omega) (by omega) (by omega)) ⟨1002, rfl, zp_1002 (by omega)⟩ ?_
          refine zp_load (pc := 86) hx hb (zd_X12_sight (86, .aload_n 0, 1, 0, []) (List.mem_of_getElem? (i := 48) rfl)) rfl (j := 1) rfl ?_
          refine zp_getf (n := (A 3 : Int)) (pc := 87) hx hb hEξ hwξ (zd_X12_sight (87, .getfield 13, 3, 0, []) (List.mem_of_getElem? (i := 49) rfl)) (j := 21) rfl rfl rfl (zM_P hMξ (List.mem_of_getElem? (i := 0) rfl)) ((zp_set_ne (Or.inl (zM_ne hMξ (List.mem_of_getElem? (i := 0) rfl) (List.mem_of_getElem? (i := 2) rfl) (by decide)))).trans ((zp_set_ne (Or.inr (by decide))).trans (((zM_G hMξ (List.mem_of_getElem? (i := 0) rfl) 3).trans (zM_F hMξ (List.mem_of_getElem? (i := 1) rfl)))))) ?_
          refine zp_const (pc := 90) hx hb (zd_X12_sight (90, .sipush 153, 3, 0, []) (List.mem_of_getElem? (i := 50) rfl)) rfl rfl ?_
          refine zp_const (pc := 93) hx hb (zd_X12_sight (93, .iconst 3, 1, 0, []) (List.mem_of_getElem? (i := 51) rfl)) rfl rfl ?_
          refine zp_load (pc := 94) hx hb (zd_X12_sight (94, .iload 4, 2, 0, []) (List.mem_of_getElem? (i := 52) rfl)) rfl (j := 0) rfl ?_
          refine zp_mul (n := (3 * (nsξ : Int))) (pc := 96) hx hb (zd_X12_sight (96, .imul, 1, 0, []) (List.mem_of_getElem? (i := 53) rfl)) (by omega) (zp_r0 (by omega) (by omega)) ?_
          refine zp_add (n := (3 * (nsξ : Int) + 153)) (pc := 97) hx hb (zd_X12_sight (97, .iadd, 1, 0, []) (List.mem_of_getElem? (i := 54) rfl)) (by omega) (zp_r0 (by omega) (by omega)) ?_
          refine zp_const (pc := 98) hx hb (zd_X12_sight (98, .iconst 1, 1, 0, []) (List.mem_of_getElem? (i := 55) rfl)) rfl rfl ?_
          refine zp_add (n := (3 * (nsξ : Int) + 154)) (pc := 99) hx hb (zd_X12_sight (99, .iadd, 1, 0, []) (List.mem_of_getElem? (i := 56) rfl)) (by omega) (zp_r0 (by omega) (by omega)) ?_
          refine zp_load (pc := 100) hx hb (zd_X12_sight (100, .iload_n 2, 1, 0, []) (List.mem_of_getElem? (i := 57) rfl)) rfl (j := 3) rfl ?_
          refine zp_iastR (j := (3 * nsξ + 154)) (pc := 101) hx hb hwξ heffξ (zd_X12_sight (101, .iastore, 1, 0, []) (List.mem_of_getElem? (i := 58) rfl)) (zM_P hMξ (List.mem_of_getElem? (i := 2) rfl)) (by omega) (show (3 * nsξ + 154) < 180 by omega) (zr_st (lo := 0) (hi := 23) (zr_s1 nsξ (by omega)) (by omega) (by omega) (by omega) (by omega)) ⟨1002, rfl, zp_1002 (by omega)⟩ ?_
          refine zp_load (pc := 102) hx hb (zd_X12_sight (102, .aload_n 0, 1, 0, []) (List.mem_of_getElem? (i := 59) rfl)) rfl (j := 1) rfl ?_
          refine zp_getf (n := (A 3 : Int)) (pc := 103) hx hb hEξ hwξ (zd_X12_sight (103, .getfield 13, 3, 0, []) (List.mem_of_getElem? (i := 60) rfl)) (j := 21) rfl rfl rfl (zM_P hMξ (List.mem_of_getElem? (i := 0) rfl)) ((zp_set_ne (Or.inl (zM_ne hMξ (List.mem_of_getElem? (i := 0) rfl) (List.mem_of_getElem? (i := 2) rfl) (by decide)))).trans ((zp_set_ne (Or.inl (zM_ne hMξ (List.mem_of_getElem? (i := 0) rfl) (List.mem_of_getElem? (i := 2) rfl) (by decide)))).trans ((zp_set_ne (Or.inr (by decide))).trans (((zM_G hMξ (List.mem_of_getElem? (i := 0) rfl) 3).trans (zM_F hMξ (List.mem_of_getElem? (i := 1) rfl))))))) ?_
          refine zp_const (pc := 106) hx hb (zd_X12_sight (106, .sipush 153, 3, 0, []) (List.mem_of_getElem? (i := 61) rfl)) rfl rfl ?_
          refine zp_const (pc := 109) hx hb (zd_X12_sight (109, .iconst 3, 1, 0, []) (List.mem_of_getElem? (i := 62) rfl)) rfl rfl ?_
          refine zp_load (pc := 110) hx hb (zd_X12_sight (110, .iload 4, 2, 0, []) (List.mem_of_getElem? (i := 63) rfl)) rfl (j := 0) rfl ?_
          refine zp_mul (n := (3 * (nsξ : Int))) (pc := 112) hx hb (zd_X12_sight (112, .imul, 1, 0, []) (List.mem_of_getElem? (i := 64) rfl)) (by omega) (zp_r0 (by omega) (by omega)) ?_
          refine zp_add (n := (3 * (nsξ : Int) + 153)) (pc := 113) hx hb (zd_X12_sight (113, .iadd, 1, 0, []) (List.mem_of_getElem? (i := 65) rfl)) (by omega) (zp_r0 (by omega) (by omega)) ?_
          refine zp_const (pc := 114) hx hb (zd_X12_sight (114, .iconst 2, 1, 0, []) (List.mem_of_getElem? (i := 66) rfl)) rfl rfl ?_
          refine zp_add (n := (3 * (nsξ : Int) + 155)) (pc := 115) hx hb (zd_X12_sight (115, .iadd, 1, 0, []) (List.mem_of_getElem? (i := 67) rfl)) (by omega) (zp_r0 (by omega) (by omega)) ?_
          refine zp_load (pc := 116) hx hb (zd_X12_sight (116, .iload_n 3, 1, 0, []) (List.mem_of_getElem? (i := 68) rfl)) rfl (j := 4) rfl ?_
          refine zp_iastR (j := (3 * nsξ + 155)) (pc := 117) hx hb hwξ heffξ (zd_X12_sight (117, .iastore, 1, 0, []) (List.mem_of_getElem? (i := 69) rfl)) (zM_P hMξ (List.mem_of_getElem? (i := 2) rfl)) (by omega) (show (3 * nsξ + 155) < 180 by omega) (zr_st (lo := (-2147483648)) (hi := 2147483647) (zr_s2 nsξ (by omega)) (by omega) (by omega) (by omega) (by omega)) ⟨1002, rfl, zp_1002 (by omega)⟩ ?_
          refine zp_load (pc := 118) hx hb (zd_X12_sight (118, .aload_n 0, 1, 0, []) (List.mem_of_getElem? (i := 70) rfl)) rfl (j := 1) rfl ?_
          refine zp_getf (n := (A 3 : Int)) (pc := 119) hx hb hEξ hwξ (zd_X12_sight (119, .getfield 13, 3, 0, []) (List.mem_of_getElem? (i := 71) rfl)) (j := 21) rfl rfl rfl (zM_P hMξ (List.mem_of_getElem? (i := 0) rfl)) ((zp_set_ne (Or.inl (zM_ne hMξ (List.mem_of_getElem? (i := 0) rfl) (List.mem_of_getElem? (i := 2) rfl) (by decide)))).trans ((zp_set_ne (Or.inl (zM_ne hMξ (List.mem_of_getElem? (i := 0) rfl) (List.mem_of_getElem? (i := 2) rfl) (by decide)))).trans ((zp_set_ne (Or.inl (zM_ne hMξ (List.mem_of_getElem? (i := 0) rfl) (List.mem_of_getElem? (i := 2) rfl) (by decide)))).trans ((zp_set_ne (Or.inr (by decide))).trans (((zM_G hMξ (List.mem_of_getElem? (i := 0) rfl) 3).trans (zM_F hMξ (List.mem_of_getElem? (i := 1) rfl)))))))) ?_
          refine zp_const (pc := 122) hx hb (zd_X12_sight (122, .iconst 2, 1, 0, []) (List.mem_of_getElem? (i := 72) rfl)) rfl rfl ?_
          refine zp_dup2 (pc := 123) hx hb (zd_X12_sight (123, .dup2, 1, 0, []) (List.mem_of_getElem? (i := 73) rfl)) (show (0 : Nat) ≠ 1 by decide) (show (2 : Nat) ≠ 1 by decide) ?_
          refine zp_ialdT (j := 2) (v := (nsξ : Int)) (pc := 124) hx hb hwξ (zd_X12_sight (124, .iaload, 1, 0, []) (List.mem_of_getElem? (i := 74) rfl)) zl_T59 rfl (zl_kd 2) (zM_P hMξ (List.mem_of_getElem? (i := 2) rfl)) (by omega) (show 2 < 5580 by omega) ((zp_set_ne (Or.inr (by omega))).trans ((zp_set_ne (Or.inr (by omega))).trans ((zp_set_ne (Or.inr (by omega))).trans ((zp_set_ne (Or.inl (zM_ne hMξ (List.mem_of_getElem? (i := 2) rfl) (List.mem_of_getElem? (i := 0) rfl) (by decide)))).trans ((((zM_G hMξ (List.mem_of_getElem? (i := 2) rfl) (2000 + 2)).trans (hVξ 3 (2000 + 2) (Or.inl (by decide)))).trans hnsξ)))))) (fun _ => ?_)
          refine zp_const (pc := 125) hx hb (zd_X12_sight (125, .iconst 1, 1, 0, []) (List.mem_of_getElem? (i := 75) rfl)) rfl rfl ?_
          refine zp_add (n := ((nsξ : Int) + 1)) (pc := 126) hx hb (zd_X12_sight (126, .iadd, 1, 0, []) (List.mem_of_getElem? (i := 76) rfl)) (by omega) (zp_r0 (by omega) (by omega)) ?_
          refine zp_iastR (j := 2) (pc := 127) hx hb hwξ heffξ (zd_X12_sight (127, .iastore, 1, 0, []) (List.mem_of_getElem? (i := 77) rfl)) (zM_P hMξ (List.mem_of_getElem? (i := 2) rfl)) (by omega) (show 2 < 180 by omega) (zr_st (lo := 0) (hi := 8) ⟨rfl, rfl, rfl⟩ (by omega) (by omega) (by omega) (by omega)) ⟨1002, rfl, zp_1002 (by omega)⟩ ?_
          refine zp_load (pc := 128) hx hb (zd_X12_sight (128, .aload_n 0, 1, 0, []) (List.mem_of_getElem? (i := 78) rfl)) rfl (j := 1) rfl ?_
          refine zp_load (pc := 129) hx hb (zd_X12_sight (129, .iload 4, 2, 0, []) (List.mem_of_getElem? (i := 79) rfl)) rfl (j := 0) rfl ?_
          refine zp_const (pc := 131) hx hb (zd_X12_sight (131, .iconst 1, 1, 0, []) (List.mem_of_getElem? (i := 80) rfl)) rfl rfl ?_
          refine zp_add (n := ((nsξ : Int) + 1)) (pc := 132) hx hb (zd_X12_sight (132, .iadd, 1, 0, []) (List.mem_of_getElem? (i := 81) rfl)) (by omega) (zp_r0 (by omega) (by omega)) ?_
          refine zp_call (pc := 133) (how := 0) (idx := 170) (mi := 183) (S := []) hx hb hEξ hwξ heffξ hrmξ (zX_tll hWξ A (zp_set (zp_set (zp_set (zp_set (zp_set V 0 0 0) 3 (2000 + (3 * nsξ + 153)) p1ξ) 3 (2000 + (3 * nsξ + 154)) p2ξ) 3 (2000 + (3 * nsξ + 155)) p3ξ) 3 (2000 + 2) ((nsξ : Int) + 1))) rfl (j := 0) rfl rfl (by decide +kernel) (zd_X12_sight (133, .invokevirtual 170, 3, 0, []) (List.mem_of_getElem? (i := 82) rfl)) [(A 0 : Int), ((nsξ : Int) + 1)] rfl ⟨zp_o2 (zM_P hMξ (List.mem_of_getElem? (i := 0) rfl)), zp_o0 (by omega) (by omega) (by omega) (by omega), trivial⟩ (Nat.le_of_ble_eq_true rfl) ⟨⟨(zp_set (zp_set (zp_set (zp_set (zp_set M 0 0 0) 3 (2000 + (3 * nsξ + 153)) p1ξ) 3 (2000 + (3 * nsξ + 154)) p2ξ) 3 (2000 + (3 * nsξ + 155)) p3ξ) 3 (2000 + 2) ((nsξ : Int) + 1)), (zM_setE (zM_setE (zM_setE (zM_setE (zM_set hMξ (List.mem_of_getElem? (i := 0) rfl) (by decide)) (List.mem_of_getElem? (i := 2) rfl)) (List.mem_of_getElem? (i := 2) rfl)) (List.mem_of_getElem? (i := 2) rfl)) (List.mem_of_getElem? (i := 2) rfl)), (zV_set (zV_set (zV_set (zV_set (zV_set hVξ))))), (zSb_set (by decide) (zSb_set (by decide) (zSb_set (by decide) (zSb_set (by decide) (zSb_set (by decide) hSbξ)))))⟩, rfl, (show -6 ≤ ((nsξ : Int) + 1) by omega)⟩ (fun al halξ rnt181ξ Pt181 Gt181 hextt181ξ hfrt181ξ hokt181ξ hcst181ξ hpsit181ξ => ?_)
          obtain rfl := List.mem_singleton.mp halξ
          have hrt181ξ := zp_int (hokt181ξ _ rfl).1
          obtain ⟨hPet181ξ, ⟨Mt181, hMt181ξ, hVt181ξ, hSbt181ξ⟩, htt181ξ⟩ := hpsit181ξ
          subst hPet181ξ
          clear hextt181ξ hfrt181ξ hcst181ξ hokt181ξ
          have hVt181ξ : ∀ o k, zNs o k → Mt181 o k = (zT_tell (zp_set (zp_set (zp_set (zp_set (zp_set V 0 0 0) 3 (2000 + (3 * nsξ + 153)) p1ξ) 3 (2000 + (3 * nsξ + 154)) p2ξ) 3 (2000 + (3 * nsξ + 155)) p3ξ) 3 (2000 + 2) ((nsξ : Int) + 1)) ((nsξ : Int) + 1)) o k := hVt181ξ
          have htt181ξ : rnt181ξ = ((nsξ : Int) + 1) := htt181ξ
          have htt181ξ := (Eq.symm htt181ξ)
          subst htt181ξ
          refine zp_iret (pc := 136) (n := ((nsξ : Int) + 1)) hx hb hEξ hQξ hU5ξ rfl (by decide) (zd_X12_sight (136, .ireturn, 1, 0, []) (List.mem_of_getElem? (i := 83) rfl)) (j := 0) rfl (zp_o0 (by omega) (by omega) (by omega) (by omega)) ?_
          rw [hpsξ]
          refine ⟨rfl, ?_⟩
          have hffξ : zf_sig V n1ξ nsξ p1ξ p2ξ p3ξ = (((nsξ : Int) + 1), (zT_tell (zp_set (zp_set (zp_set (zp_set (zp_set V 0 0 0) 3 (2000 + (3 * nsξ + 153)) p1ξ) 3 (2000 + (3 * nsξ + 154)) p2ξ) 3 (2000 + (3 * nsξ + 155)) p3ξ) 3 (2000 + 2) ((nsξ : Int) + 1)) ((nsξ : Int) + 1))) := by
            unfold zf_sig
            rw [if_pos ((Iff.mp htn165ξ) (by omega)), if_pos ((Iff.mp htn170ξ) (by omega)), if_pos ((Iff.mp hti174ξ) (by omega)), if_pos hc179ξ]
          show zMVr A (zf_sig V n1ξ nsξ p1ξ p2ξ p3ξ).2 u.1 Gt181 ∧ ((nsξ : Int) + 1) = (zf_sig V n1ξ nsξ p1ξ p2ξ p3ξ).1
          rw [hffξ]
          exact ⟨⟨Mt181, hMt181ξ, hVt181ξ, hSbt181ξ⟩, rfl⟩
        · refine zp_load (pc := 65) hx hb (zd_X12_sight (65, .aload_n 0, 1, 0, []) (List.mem_of_getElem? (i := 35) rfl)) rfl (j := 1) rfl ?_
          refine zp_const (pc := 66) hx hb (zd_X12_sight (66, .bipush (-5), 2, 0, []) (List.mem_of_getElem? (i := 36) rfl)) rfl rfl ?_
          refine zp_call (pc := 68) (how := 0) (idx := 170) (mi := 183) (S := []) hx hb hEξ hwξ heffξ hrmξ (zX_tll hWξ A (zp_set V 0 0 0)) rfl (j := 0) rfl rfl (by decide +kernel) (zd_X12_sight (68, .invokevirtual 170, 3, 0, []) (List.mem_of_getElem? (i := 37) rfl)) [(A 0 : Int), (-5)] rfl ⟨zp_o2 (zM_P hMξ (List.mem_of_getElem? (i := 0) rfl)), zp_o0 (by omega) (by omega) (by omega) (by omega), trivial⟩ (Nat.le_of_ble_eq_true rfl) ⟨⟨(zp_set M 0 0 0), (zM_set hMξ (List.mem_of_getElem? (i := 0) rfl) (by decide)), (zV_set hVξ), (zSb_set (by decide) hSbξ)⟩, rfl, (show -6 ≤ (-5) by omega)⟩ (fun al halξ rnt182ξ Pt182 Gt182 hextt182ξ hfrt182ξ hokt182ξ hcst182ξ hpsit182ξ => ?_)
          obtain rfl := List.mem_singleton.mp halξ
          have hrt182ξ := zp_int (hokt182ξ _ rfl).1
          obtain ⟨hPet182ξ, ⟨Mt182, hMt182ξ, hVt182ξ, hSbt182ξ⟩, htt182ξ⟩ := hpsit182ξ
          subst hPet182ξ
          clear hextt182ξ hfrt182ξ hcst182ξ hokt182ξ
          have hVt182ξ : ∀ o k, zNs o k → Mt182 o k = (zT_tell (zp_set V 0 0 0) (-5)) o k := hVt182ξ
          have htt182ξ : rnt182ξ = (-5) := htt182ξ
          have htt182ξ := (Eq.symm htt182ξ)
          subst htt182ξ
          refine zp_iret (pc := 71) (n := (-5)) hx hb hEξ hQξ hU5ξ rfl (by decide) (zd_X12_sight (71, .ireturn, 1, 0, []) (List.mem_of_getElem? (i := 38) rfl)) (j := 0) rfl (zp_o0 (by omega) (by omega) (by omega) (by omega)) ?_
          rw [hpsξ]
          refine ⟨rfl, ?_⟩
          have hffξ : zf_sig V n1ξ nsξ p1ξ p2ξ p3ξ = ((-5), (zT_tell (zp_set V 0 0 0) (-5))) := by
            unfold zf_sig
            rw [if_pos ((Iff.mp htn165ξ) (by omega)), if_pos ((Iff.mp htn170ξ) (by omega)), if_pos ((Iff.mp hti174ξ) (by omega)), if_neg hc179ξ]
          show zMVr A (zf_sig V n1ξ nsξ p1ξ p2ξ p3ξ).2 u.1 Gt182 ∧ (-5) = (zf_sig V n1ξ nsξ p1ξ p2ξ p3ξ).1
          rw [hffξ]
          exact ⟨⟨Mt182, hMt182ξ, hVt182ξ, hSbt182ξ⟩, rfl⟩
      · have hbf177ξ : ¬ (0 ≤ p1ξ ∧ p1ξ < (n1ξ : Int)) := fun h9ξ => absurd ((Iff.mpr hti174ξ) h9ξ) (by omega)
        refine zp_load (pc := 43) hx hb (zd_X12_sight (43, .aload_n 0, 1, 0, []) (List.mem_of_getElem? (i := 23) rfl)) rfl (j := 0) rfl ?_
        refine zp_const (pc := 44) hx hb (zd_X12_sight (44, .bipush (-2), 2, 0, []) (List.mem_of_getElem? (i := 24) rfl)) rfl rfl ?_
        refine zp_call (pc := 46) (how := 0) (idx := 170) (mi := 183) (S := []) hx hb hEξ hwξ heffξ hrmξ (zX_tll hWξ A (zp_set V 0 0 0)) rfl (j := 0) rfl rfl (by decide +kernel) (zd_X12_sight (46, .invokevirtual 170, 3, 0, []) (List.mem_of_getElem? (i := 25) rfl)) [(A 0 : Int), (-2)] rfl ⟨zp_o2 (zM_P hMξ (List.mem_of_getElem? (i := 0) rfl)), zp_o0 (by omega) (by omega) (by omega) (by omega), trivial⟩ (Nat.le_of_ble_eq_true rfl) ⟨⟨(zp_set M 0 0 0), (zM_set hMξ (List.mem_of_getElem? (i := 0) rfl) (by decide)), (zV_set hVξ), (zSb_set (by decide) hSbξ)⟩, rfl, (show -6 ≤ (-2) by omega)⟩ (fun al halξ rnt183ξ Pt183 Gt183 hextt183ξ hfrt183ξ hokt183ξ hcst183ξ hpsit183ξ => ?_)
        obtain rfl := List.mem_singleton.mp halξ
        have hrt183ξ := zp_int (hokt183ξ _ rfl).1
        obtain ⟨hPet183ξ, ⟨Mt183, hMt183ξ, hVt183ξ, hSbt183ξ⟩, htt183ξ⟩ := hpsit183ξ
        subst hPet183ξ
        clear hextt183ξ hfrt183ξ hcst183ξ hokt183ξ
        have hVt183ξ : ∀ o k, zNs o k → Mt183 o k = (zT_tell (zp_set V 0 0 0) (-2)) o k := hVt183ξ
        have htt183ξ : rnt183ξ = (-2) := htt183ξ
        have htt183ξ := (Eq.symm htt183ξ)
        subst htt183ξ
        refine zp_iret (pc := 49) (n := (-2)) hx hb hEξ hQξ hU5ξ rfl (by decide) (zd_X12_sight (49, .ireturn, 1, 0, []) (List.mem_of_getElem? (i := 26) rfl)) (j := 0) rfl (zp_o0 (by omega) (by omega) (by omega) (by omega)) ?_
        rw [hpsξ]
        refine ⟨rfl, ?_⟩
        have hffξ : zf_sig V n1ξ nsξ p1ξ p2ξ p3ξ = ((-2), (zT_tell (zp_set V 0 0 0) (-2))) := by
          unfold zf_sig
          rw [if_pos ((Iff.mp htn165ξ) (by omega)), if_pos ((Iff.mp htn170ξ) (by omega)), if_neg (fun h9ξ => absurd ((Iff.mpr hti174ξ) h9ξ) (by omega))]
        show zMVr A (zf_sig V n1ξ nsξ p1ξ p2ξ p3ξ).2 u.1 Gt183 ∧ (-2) = (zf_sig V n1ξ nsξ p1ξ p2ξ p3ξ).1
        rw [hffξ]
        exact ⟨⟨Mt183, hMt183ξ, hVt183ξ, hSbt183ξ⟩, rfl⟩
    · have hbf173ξ : ¬ (0 ≤ p3ξ ∧ p3ξ ≤ 600) := fun h9ξ => absurd ((Iff.mpr htn170ξ) h9ξ) (by omega)
      refine zp_load (pc := 29) hx hb (zd_X12_sight (29, .aload_n 0, 1, 0, []) (List.mem_of_getElem? (i := 15) rfl)) rfl (j := 0) rfl ?_
      refine zp_const (pc := 30) hx hb (zd_X12_sight (30, .iconst (-1), 1, 0, []) (List.mem_of_getElem? (i := 16) rfl)) rfl rfl ?_
      refine zp_call (pc := 31) (how := 0) (idx := 170) (mi := 183) (S := []) hx hb hEξ hwξ heffξ hrmξ (zX_tll hWξ A (zp_set V 0 0 0)) rfl (j := 0) rfl rfl (by decide +kernel) (zd_X12_sight (31, .invokevirtual 170, 3, 0, []) (List.mem_of_getElem? (i := 17) rfl)) [(A 0 : Int), (-1)] rfl ⟨zp_o2 (zM_P hMξ (List.mem_of_getElem? (i := 0) rfl)), zp_o0 (by omega) (by omega) (by omega) (by omega), trivial⟩ (Nat.le_of_ble_eq_true rfl) ⟨⟨(zp_set M 0 0 0), (zM_set hMξ (List.mem_of_getElem? (i := 0) rfl) (by decide)), (zV_set hVξ), (zSb_set (by decide) hSbξ)⟩, rfl, (show -6 ≤ (-1) by omega)⟩ (fun al halξ rnt184ξ Pt184 Gt184 hextt184ξ hfrt184ξ hokt184ξ hcst184ξ hpsit184ξ => ?_)
      obtain rfl := List.mem_singleton.mp halξ
      have hrt184ξ := zp_int (hokt184ξ _ rfl).1
      obtain ⟨hPet184ξ, ⟨Mt184, hMt184ξ, hVt184ξ, hSbt184ξ⟩, htt184ξ⟩ := hpsit184ξ
      subst hPet184ξ
      clear hextt184ξ hfrt184ξ hcst184ξ hokt184ξ
      have hVt184ξ : ∀ o k, zNs o k → Mt184 o k = (zT_tell (zp_set V 0 0 0) (-1)) o k := hVt184ξ
      have htt184ξ : rnt184ξ = (-1) := htt184ξ
      have htt184ξ := (Eq.symm htt184ξ)
      subst htt184ξ
      refine zp_iret (pc := 34) (n := (-1)) hx hb hEξ hQξ hU5ξ rfl (by decide) (zd_X12_sight (34, .ireturn, 1, 0, []) (List.mem_of_getElem? (i := 18) rfl)) (j := 0) rfl (zp_o0 (by omega) (by omega) (by omega) (by omega)) ?_
      rw [hpsξ]
      refine ⟨rfl, ?_⟩
      have hffξ : zf_sig V n1ξ nsξ p1ξ p2ξ p3ξ = ((-1), (zT_tell (zp_set V 0 0 0) (-1))) := by
        unfold zf_sig
        rw [if_pos ((Iff.mp htn165ξ) (by omega)), if_neg (fun h9ξ => absurd ((Iff.mpr htn170ξ) h9ξ) (by omega))]
      show zMVr A (zf_sig V n1ξ nsξ p1ξ p2ξ p3ξ).2 u.1 Gt184 ∧ (-1) = (zf_sig V n1ξ nsξ p1ξ p2ξ p3ξ).1
      rw [hffξ]
      exact ⟨⟨Mt184, hMt184ξ, hVt184ξ, hSbt184ξ⟩, rfl⟩
noncomputable def zf_fgt (V : Nat → Nat → Int) : Int × (Nat → Nat → Int) := ((V 3 (2000 + 2)), (zp_set (zp_set V 0 0 0) 3 (2000 + 2) 0))
noncomputable def zK_fgt : zk_K := (zt_mn 267, prog_14_method_91_code, 2, (Option.some Jvm.ClassFile.FieldType.int), 1, 12, [(2, 13, 0, 0)], [(some (0, 0, (-2147483648), 2147483647), [])], zUE, (3, 180, 0, 0))
noncomputable def zφ_fgt (A : Nat → Nat) (V : Nat → Nat → Int) : (Nat → Option Nat) → (Nat → Nat → Int) → List Int → Prop := fun P G ps => zMVr A V P G ∧ ps.getD 0 0 = (A 0 : Int) ∧ (∀ j, j < 5580 → -2147483648 ≤ V 3 (2000 + j) ∧ V 3 (2000 + j) ≤ 2147483647)
noncomputable def zψ_fgt (A : Nat → Nat) (V : Nat → Nat → Int) : (Nat → Option Nat) → (Nat → Nat → Int) → List Int → (Nat → Option Nat) → (Nat → Nat → Int) → Int → Prop := fun P G ps P' G' rn => P' = P ∧ zMVr A (zf_fgt V).2 P' G' ∧ rn = (zf_fgt V).1
theorem zX_fgt {l : Launch} {w : zk_W} (hWξ : zh_W w) (A : Nat → Nat) (V : Nat → Nat → Int) : zk_metX l w zt_dv zt_TB zK_fgt (zp_A (zφ_fgt A V)) (zp_B (zψ_fgt A V)) ∧ zk_cok w zt_TB zK_fgt := by
  refine zp_methX (cn := "WoundTownModel") zp_lkall hWξ (pl := 1922) rfl (by decide +kernel) (fun p e R s m args below meth c Q u hx hb hEξ hQξ hU5ξ heffξ hnLξ hokξ hφ => ?_)
  have hwξ := hWξ.1
  obtain ⟨p0ξ, hpsξ, tk0⟩ := zp_ps1 hokξ
  have hrmξ : zk_Kr (zk_ev (zt_types, zp_lk, zt_dv, [], [], zp_lc, zK_fgt)) = zk_Kr zK_fgt := rfl
  rw [hpsξ] at hφ ⊢
  have hφ : zMVr A V u.1 (zp_n u.2.1) ∧ p0ξ = (A 0 : Int) ∧ (∀ j, j < 5580 → -2147483648 ≤ V 3 (2000 + j) ∧ V 3 (2000 + j) ≤ 2147483647) := hφ
  obtain ⟨⟨M, hMξ, hVξ, hSbξ⟩, rfl, hRξ⟩ := hφ
  show zp_J p l e R s m args below meth c Q w u [] 0 [(0, 2, (A 0 : Int))] [] u.1 (zp_n u.2.1)
  refine zp_load (pc := 0) hx hb (zd_X12_forget (0, .aload_n 0, 1, 0, []) (List.mem_of_getElem? (i := 0) rfl)) rfl (j := 0) rfl ?_
  refine zp_const (pc := 1) hx hb (zd_X12_forget (1, .iconst 0, 1, 0, []) (List.mem_of_getElem? (i := 1) rfl)) rfl rfl ?_
  refine zp_putf (pc := 2) hx hb hEξ hwξ heffξ (zd_X12_forget (2, .putfield 161, 3, 0, []) (List.mem_of_getElem? (i := 2) rfl)) (j := 18) rfl rfl rfl (zM_P hMξ (List.mem_of_getElem? (i := 0) rfl)) (zp_o0 (by decide) (by decide) (by decide) (by decide)) ?_
  refine zp_load (pc := 5) hx hb (zd_X12_forget (5, .aload_n 0, 1, 0, []) (List.mem_of_getElem? (i := 3) rfl)) rfl (j := 0) rfl ?_
  refine zp_getf (n := (A 3 : Int)) (pc := 6) hx hb hEξ hwξ (zd_X12_forget (6, .getfield 13, 3, 0, []) (List.mem_of_getElem? (i := 4) rfl)) (j := 21) rfl rfl rfl (zM_P hMξ (List.mem_of_getElem? (i := 0) rfl)) ((zp_set_ne (Or.inr (by decide))).trans (((zM_G hMξ (List.mem_of_getElem? (i := 0) rfl) 3).trans (zM_F hMξ (List.mem_of_getElem? (i := 1) rfl))))) ?_
  refine zp_const (pc := 9) hx hb (zd_X12_forget (9, .iconst 2, 1, 0, []) (List.mem_of_getElem? (i := 5) rfl)) rfl rfl ?_
  refine zp_ialdT (j := 2) (v := (V 3 (2000 + 2))) (pc := 10) hx hb hwξ (zd_X12_forget (10, .iaload, 1, 0, []) (List.mem_of_getElem? (i := 6) rfl)) zl_T59 rfl (zl_kd 2) (zM_P hMξ (List.mem_of_getElem? (i := 2) rfl)) (by omega) (show 2 < 5580 by omega) ((zp_set_ne (Or.inl (zM_ne hMξ (List.mem_of_getElem? (i := 2) rfl) (List.mem_of_getElem? (i := 0) rfl) (by decide)))).trans (((zM_G hMξ (List.mem_of_getElem? (i := 2) rfl) (2000 + 2)).trans (hVξ 3 (2000 + 2) (Or.inl (by decide)))))) (fun _ => ?_)
  have hr186ξ := hRξ 2 (by omega)
  refine zp_store (L' := [(1, 0, (V 3 (2000 + 2))), (0, 2, (A 0 : Int))]) (pc := 11) hx hb hnLξ (zd_X12_forget (11, .istore_n 1, 1, 0, []) (List.mem_of_getElem? (i := 7) rfl)) rfl rfl rfl ?_
  refine zp_load (pc := 12) hx hb (zd_X12_forget (12, .aload_n 0, 1, 0, []) (List.mem_of_getElem? (i := 8) rfl)) rfl (j := 1) rfl ?_
  refine zp_getf (n := (A 3 : Int)) (pc := 13) hx hb hEξ hwξ (zd_X12_forget (13, .getfield 13, 3, 0, []) (List.mem_of_getElem? (i := 9) rfl)) (j := 21) rfl rfl rfl (zM_P hMξ (List.mem_of_getElem? (i := 0) rfl)) ((zp_set_ne (Or.inr (by decide))).trans (((zM_G hMξ (List.mem_of_getElem? (i := 0) rfl) 3).trans (zM_F hMξ (List.mem_of_getElem? (i := 1) rfl))))) ?_
  refine zp_const (pc := 16) hx hb (zd_X12_forget (16, .iconst 2, 1, 0, []) (List.mem_of_getElem? (i := 10) rfl)) rfl rfl ?_
  refine zp_const (pc := 17) hx hb (zd_X12_forget (17, .iconst 0, 1, 0, []) (List.mem_of_getElem? (i := 11) rfl)) rfl rfl ?_
  refine zp_iastR (j := 2) (pc := 18) hx hb hwξ heffξ (zd_X12_forget (18, .iastore, 1, 0, []) (List.mem_of_getElem? (i := 12) rfl)) (zM_P hMξ (List.mem_of_getElem? (i := 2) rfl)) (by omega) (show 2 < 180 by omega) (zr_st (lo := 0) (hi := 8) ⟨rfl, rfl, rfl⟩ (by omega) (by omega) (by omega) (by omega)) ⟨1002, rfl, zp_1002 (by omega)⟩ ?_
  refine zp_load (pc := 19) hx hb (zd_X12_forget (19, .iload_n 1, 1, 0, []) (List.mem_of_getElem? (i := 13) rfl)) rfl (j := 0) rfl ?_
  refine zp_iret (pc := 20) (n := (V 3 (2000 + 2))) hx hb hEξ hQξ hU5ξ rfl (by decide) (zd_X12_forget (20, .ireturn, 1, 0, []) (List.mem_of_getElem? (i := 14) rfl)) (j := 0) rfl (zp_o0 (by omega) (by omega) (by omega) (by omega)) ?_
  rw [hpsξ]
  refine ⟨rfl, ?_⟩
  have hffξ : zf_fgt V = ((V 3 (2000 + 2)), (zp_set (zp_set V 0 0 0) 3 (2000 + 2) 0)) := rfl
  show zMVr A (zf_fgt V).2 u.1 (zp_set (zp_set (zp_n u.2.1) (A 0) 0 0) (A 3) (2000 + 2) 0) ∧ (V 3 (2000 + 2)) = (zf_fgt V).1
  rw [hffξ]
  exact ⟨⟨(zp_set (zp_set M 0 0 0) 3 (2000 + 2) 0), (zM_setE (zM_set hMξ (List.mem_of_getElem? (i := 0) rfl) (by decide)) (List.mem_of_getElem? (i := 2) rfl)), (zV_set (zV_set hVξ)), (zSb_set (by decide) (zSb_set (by decide) hSbξ))⟩, rfl⟩
noncomputable def zf_roa (V : Nat → Nat → Int) (p1ξ : Int) (p2ξ : Int) (p3ξ : Int) : Int × (Nat → Nat → Int) := if 0 ≤ p1ξ ∧ p1ξ ≤ 7 then if 0 ≤ p2ξ ∧ p2ξ ≤ 7 then if p1ξ = p2ξ then ((-1), (zT_tell (zp_set V 0 0 0) (-1))) else if 0 ≤ p3ξ ∧ p3ξ ≤ 99 then ((V 3 (2000 + (8 * p1ξ.toNat + p2ξ.toNat + 89))), (zp_set (zp_set (zp_set (zp_set V 0 0 0) 3 (2000 + (8 * p2ξ.toNat + p1ξ.toNat + 89)) p3ξ) 3 (2000 + (8 * p1ξ.toNat + p2ξ.toNat + 89)) p3ξ) 0 1 0)) else ((-1), (zT_tell (zp_set V 0 0 0) (-1))) else ((-1), (zT_tell (zp_set V 0 0 0) (-1))) else ((-1), (zT_tell (zp_set V 0 0 0) (-1)))
noncomputable def zK_roa : zk_K := (zt_mn 189, prog_14_method_22_code, 4, (Option.some Jvm.ClassFile.FieldType.int), 1, 12, [(2, 13, 0, 0), (0, 0, (-2147483648), 2147483647), (0, 0, (-2147483648), 2147483647), (0, 0, (-2147483648), 2147483647)], [(some (0, 0, (-2147483648), 2147483647), [])], zUE, (3, 180, 0, 0))
noncomputable def zφ_roa (A : Nat → Nat) (V : Nat → Nat → Int) : (Nat → Option Nat) → (Nat → Nat → Int) → List Int → Prop := fun P G ps => zMVr A V P G ∧ ps.getD 0 0 = (A 0 : Int) ∧ (∀ j, j < 5580 → -2147483648 ≤ V 3 (2000 + j) ∧ V 3 (2000 + j) ≤ 2147483647)
noncomputable def zψ_roa (A : Nat → Nat) (V : Nat → Nat → Int) : (Nat → Option Nat) → (Nat → Nat → Int) → List Int → (Nat → Option Nat) → (Nat → Nat → Int) → Int → Prop := fun P G ps P' G' rn => P' = P ∧ zMVr A (zf_roa V (ps.getD 1 0) (ps.getD 2 0) (ps.getD 3 0)).2 P' G' ∧ rn = (zf_roa V (ps.getD 1 0) (ps.getD 2 0) (ps.getD 3 0)).1
theorem zX_roa {l : Launch} {w : zk_W} (hWξ : zh_W w) (A : Nat → Nat) (V : Nat → Nat → Int) : zk_metX l w zt_dv zt_TB zK_roa (zp_A (zφ_roa A V)) (zp_B (zψ_roa A V)) ∧ zk_cok w zt_TB zK_roa := by
  refine zp_methX (cn := "WoundTownModel") zp_lkall hWξ (pl := 1584) rfl (by decide +kernel) (fun p e R s m args below meth c Q u hx hb hEξ hQξ hU5ξ heffξ hnLξ hokξ hφ => ?_)
  have hwξ := hWξ.1
  obtain ⟨p0ξ, p1ξ, p2ξ, p3ξ, hpsξ, tk0, tk1, tk2, tk3⟩ := zp_ps4 hokξ
  have hrmξ : zk_Kr (zk_ev (zt_types, zp_lk, zt_dv, [], [], zp_lc, zK_roa)) = zk_Kr zK_roa := rfl
  rw [hpsξ] at hφ ⊢
  have hφ : zMVr A V u.1 (zp_n u.2.1) ∧ p0ξ = (A 0 : Int) ∧ (∀ j, j < 5580 → -2147483648 ≤ V 3 (2000 + j) ∧ V 3 (2000 + j) ≤ 2147483647) := hφ
  obtain ⟨⟨M, hMξ, hVξ, hSbξ⟩, rfl, hRξ⟩ := hφ
  have hi1ξ := zp_int tk1
  have hi2ξ := zp_int tk2
  have hi3ξ := zp_int tk3
  show zp_J p l e R s m args below meth c Q w u [] 0 [(0, 2, (A 0 : Int)), (1, 0, p1ξ), (2, 0, p2ξ), (3, 0, p3ξ)] [] u.1 (zp_n u.2.1)
  refine zp_load (pc := 0) hx hb (zd_X12_road (0, .aload_n 0, 1, 0, []) (List.mem_of_getElem? (i := 0) rfl)) rfl (j := 0) rfl ?_
  refine zp_const (pc := 1) hx hb (zd_X12_road (1, .iconst 0, 1, 0, []) (List.mem_of_getElem? (i := 1) rfl)) rfl rfl ?_
  refine zp_putf (pc := 2) hx hb hEξ hwξ heffξ (zd_X12_road (2, .putfield 161, 3, 0, []) (List.mem_of_getElem? (i := 2) rfl)) (j := 18) rfl rfl rfl (zM_P hMξ (List.mem_of_getElem? (i := 0) rfl)) (zp_o0 (by decide) (by decide) (by decide) (by decide)) ?_
  refine zp_load (pc := 5) hx hb (zd_X12_road (5, .iload_n 1, 1, 0, []) (List.mem_of_getElem? (i := 3) rfl)) rfl (j := 1) rfl ?_
  refine zp_i2l (pc := 6) hx hb (zd_X12_road (6, .i2l, 1, 0, []) (List.mem_of_getElem? (i := 4) rfl)) ?_
  refine zp_const (pc := 7) hx hb (zd_X12_road (7, .lconst 0, 1, 0, []) (List.mem_of_getElem? (i := 5) rfl)) rfl rfl ?_
  refine zp_ldc2 (pc := 8) hx hb hEξ (zd_X12_road (8, .ldc2_w 192, 3, 0, []) (List.mem_of_getElem? (i := 6) rfl)) (j := 82) rfl ?_
  refine zp_call (pc := 11) (how := 1) (idx := 181) (mi := 186) (S := []) hx hb hEξ hwξ heffξ hrmξ (zX_in2 hWξ) rfl (j := 2) rfl rfl (by decide +kernel) (zd_X12_road (11, .invokestatic 181, 3, 0, []) (List.mem_of_getElem? (i := 7) rfl)) [p1ξ, 0, 7] rfl ⟨zp_o1 (by first | assumption | exact zp_r1 (by omega) (by omega)), zp_o1 (by first | assumption | exact zp_r1 (by omega) (by omega)), zp_o1 (by first | assumption | exact zp_r1 (by omega) (by omega)), trivial⟩ (Nat.le_of_ble_eq_true rfl) trivial (fun al halξ rnn187ξ Pn187 Gn187 hextn187ξ hfrn187ξ hokn187ξ hcsn187ξ hpsin187ξ => ?_)
  obtain rfl := List.mem_singleton.mp halξ
  have hrn187ξ := zp_int (hokn187ξ _ rfl).1
  obtain ⟨hPen187ξ, hGen187ξ, htn187ξ⟩ := hpsin187ξ
  rw [hPen187ξ, hGen187ξ]
  clear hextn187ξ hfrn187ξ hcsn187ξ hPen187ξ hGen187ξ
  have htn187ξ : rnn187ξ = 1 ↔ 0 ≤ p1ξ ∧ p1ξ ≤ 7 := htn187ξ
  refine zp_if (pc := 14) (tgt := 46) hx hb (zd_X12_road (14, .ifCond .eq 32, 3, 0, []) (List.mem_of_getElem? (i := 8) rfl)) rfl (fun (hc188ξ : rnn187ξ = 0) => ?_) (fun (hc188ξ : ¬ (rnn187ξ = 0)) => ?_)
  · have hbf189ξ : ¬ (0 ≤ p1ξ ∧ p1ξ ≤ 7) := fun h9ξ => absurd ((Iff.mpr htn187ξ) h9ξ) (by omega)
    refine zp_load (pc := 46) hx hb (zd_X12_road (46, .aload_n 0, 1, 0, []) (List.mem_of_getElem? (i := 24) rfl)) rfl (j := 0) rfl ?_
    refine zp_const (pc := 47) hx hb (zd_X12_road (47, .iconst (-1), 1, 0, []) (List.mem_of_getElem? (i := 25) rfl)) rfl rfl ?_
    refine zp_call (pc := 48) (how := 0) (idx := 170) (mi := 183) (S := []) hx hb hEξ hwξ heffξ hrmξ (zX_tll hWξ A (zp_set V 0 0 0)) rfl (j := 0) rfl rfl (by decide +kernel) (zd_X12_road (48, .invokevirtual 170, 3, 0, []) (List.mem_of_getElem? (i := 26) rfl)) [(A 0 : Int), (-1)] rfl ⟨zp_o2 (zM_P hMξ (List.mem_of_getElem? (i := 0) rfl)), zp_o0 (by omega) (by omega) (by omega) (by omega), trivial⟩ (Nat.le_of_ble_eq_true rfl) ⟨⟨(zp_set M 0 0 0), (zM_set hMξ (List.mem_of_getElem? (i := 0) rfl) (by decide)), (zV_set hVξ), (zSb_set (by decide) hSbξ)⟩, rfl, (show -6 ≤ (-1) by omega)⟩ (fun al halξ rnt191ξ Pt191 Gt191 hextt191ξ hfrt191ξ hokt191ξ hcst191ξ hpsit191ξ => ?_)
    obtain rfl := List.mem_singleton.mp halξ
    have hrt191ξ := zp_int (hokt191ξ _ rfl).1
    obtain ⟨hPet191ξ, ⟨Mt191, hMt191ξ, hVt191ξ, hSbt191ξ⟩, htt191ξ⟩ := hpsit191ξ
    subst hPet191ξ
    clear hextt191ξ hfrt191ξ hcst191ξ hokt191ξ
    have hVt191ξ : ∀ o k, zNs o k → Mt191 o k = (zT_tell (zp_set V 0 0 0) (-1)) o k := hVt191ξ
    have htt191ξ : rnt191ξ = (-1) := htt191ξ
    have htt191ξ := (Eq.symm htt191ξ)
    subst htt191ξ
    refine zp_iret (pc := 51) (n := (-1)) hx hb hEξ hQξ hU5ξ rfl (by decide) (zd_X12_road (51, .ireturn, 1, 0, []) (List.mem_of_getElem? (i := 27) rfl)) (j := 0) rfl (zp_o0 (by omega) (by omega) (by omega) (by omega)) ?_
    rw [hpsξ]
    refine ⟨rfl, ?_⟩
    have hffξ : zf_roa V p1ξ p2ξ p3ξ = ((-1), (zT_tell (zp_set V 0 0 0) (-1))) := by
      unfold zf_roa
      rw [if_neg (fun h9ξ => absurd ((Iff.mpr htn187ξ) h9ξ) (by omega))]
    show zMVr A (zf_roa V p1ξ p2ξ p3ξ).2 u.1 Gt191 ∧ (-1) = (zf_roa V p1ξ p2ξ p3ξ).1
    rw [hffξ]
    exact ⟨⟨Mt191, hMt191ξ, hVt191ξ, hSbt191ξ⟩, rfl⟩
  · have hbt190ξ := (Iff.mp htn187ξ) (by omega)
    refine zp_load (pc := 17) hx hb (zd_X12_road (17, .iload_n 2, 1, 0, []) (List.mem_of_getElem? (i := 9) rfl)) rfl (j := 2) rfl ?_
    refine zp_i2l (pc := 18) hx hb (zd_X12_road (18, .i2l, 1, 0, []) (List.mem_of_getElem? (i := 10) rfl)) ?_
    refine zp_const (pc := 19) hx hb (zd_X12_road (19, .lconst 0, 1, 0, []) (List.mem_of_getElem? (i := 11) rfl)) rfl rfl ?_
    refine zp_ldc2 (pc := 20) hx hb hEξ (zd_X12_road (20, .ldc2_w 192, 3, 0, []) (List.mem_of_getElem? (i := 12) rfl)) (j := 82) rfl ?_
    refine zp_call (pc := 23) (how := 1) (idx := 181) (mi := 186) (S := []) hx hb hEξ hwξ heffξ hrmξ (zX_in2 hWξ) rfl (j := 2) rfl rfl (by decide +kernel) (zd_X12_road (23, .invokestatic 181, 3, 0, []) (List.mem_of_getElem? (i := 13) rfl)) [p2ξ, 0, 7] rfl ⟨zp_o1 (by first | assumption | exact zp_r1 (by omega) (by omega)), zp_o1 (by first | assumption | exact zp_r1 (by omega) (by omega)), zp_o1 (by first | assumption | exact zp_r1 (by omega) (by omega)), trivial⟩ (Nat.le_of_ble_eq_true rfl) trivial (fun al halξ rnn192ξ Pn192 Gn192 hextn192ξ hfrn192ξ hokn192ξ hcsn192ξ hpsin192ξ => ?_)
    obtain rfl := List.mem_singleton.mp halξ
    have hrn192ξ := zp_int (hokn192ξ _ rfl).1
    obtain ⟨hPen192ξ, hGen192ξ, htn192ξ⟩ := hpsin192ξ
    rw [hPen192ξ, hGen192ξ]
    clear hextn192ξ hfrn192ξ hcsn192ξ hPen192ξ hGen192ξ
    have htn192ξ : rnn192ξ = 1 ↔ 0 ≤ p2ξ ∧ p2ξ ≤ 7 := htn192ξ
    refine zp_if (pc := 26) (tgt := 46) hx hb (zd_X12_road (26, .ifCond .eq 20, 3, 0, []) (List.mem_of_getElem? (i := 14) rfl)) rfl (fun (hc193ξ : rnn192ξ = 0) => ?_) (fun (hc193ξ : ¬ (rnn192ξ = 0)) => ?_)
    · have hbf194ξ : ¬ (0 ≤ p2ξ ∧ p2ξ ≤ 7) := fun h9ξ => absurd ((Iff.mpr htn192ξ) h9ξ) (by omega)
      refine zp_load (pc := 46) hx hb (zd_X12_road (46, .aload_n 0, 1, 0, []) (List.mem_of_getElem? (i := 24) rfl)) rfl (j := 0) rfl ?_
      refine zp_const (pc := 47) hx hb (zd_X12_road (47, .iconst (-1), 1, 0, []) (List.mem_of_getElem? (i := 25) rfl)) rfl rfl ?_
      refine zp_call (pc := 48) (how := 0) (idx := 170) (mi := 183) (S := []) hx hb hEξ hwξ heffξ hrmξ (zX_tll hWξ A (zp_set V 0 0 0)) rfl (j := 0) rfl rfl (by decide +kernel) (zd_X12_road (48, .invokevirtual 170, 3, 0, []) (List.mem_of_getElem? (i := 26) rfl)) [(A 0 : Int), (-1)] rfl ⟨zp_o2 (zM_P hMξ (List.mem_of_getElem? (i := 0) rfl)), zp_o0 (by omega) (by omega) (by omega) (by omega), trivial⟩ (Nat.le_of_ble_eq_true rfl) ⟨⟨(zp_set M 0 0 0), (zM_set hMξ (List.mem_of_getElem? (i := 0) rfl) (by decide)), (zV_set hVξ), (zSb_set (by decide) hSbξ)⟩, rfl, (show -6 ≤ (-1) by omega)⟩ (fun al halξ rnt196ξ Pt196 Gt196 hextt196ξ hfrt196ξ hokt196ξ hcst196ξ hpsit196ξ => ?_)
      obtain rfl := List.mem_singleton.mp halξ
      have hrt196ξ := zp_int (hokt196ξ _ rfl).1
      obtain ⟨hPet196ξ, ⟨Mt196, hMt196ξ, hVt196ξ, hSbt196ξ⟩, htt196ξ⟩ := hpsit196ξ
      subst hPet196ξ
      clear hextt196ξ hfrt196ξ hcst196ξ hokt196ξ
      have hVt196ξ : ∀ o k, zNs o k → Mt196 o k = (zT_tell (zp_set V 0 0 0) (-1)) o k := hVt196ξ
      have htt196ξ : rnt196ξ = (-1) := htt196ξ
      have htt196ξ := (Eq.symm htt196ξ)
      subst htt196ξ
      refine zp_iret (pc := 51) (n := (-1)) hx hb hEξ hQξ hU5ξ rfl (by decide) (zd_X12_road (51, .ireturn, 1, 0, []) (List.mem_of_getElem? (i := 27) rfl)) (j := 0) rfl (zp_o0 (by omega) (by omega) (by omega) (by omega)) ?_
      rw [hpsξ]
      refine ⟨rfl, ?_⟩
      have hffξ : zf_roa V p1ξ p2ξ p3ξ = ((-1), (zT_tell (zp_set V 0 0 0) (-1))) := by
        unfold zf_roa
        rw [if_pos ((Iff.mp htn187ξ) (by omega)), if_neg (fun h9ξ => absurd ((Iff.mpr htn192ξ) h9ξ) (by omega))]
      show zMVr A (zf_roa V p1ξ p2ξ p3ξ).2 u.1 Gt196 ∧ (-1) = (zf_roa V p1ξ p2ξ p3ξ).1
      rw [hffξ]
      exact ⟨⟨Mt196, hMt196ξ, hVt196ξ, hSbt196ξ⟩, rfl⟩
    · have hbt195ξ := (Iff.mp htn192ξ) (by omega)
      refine zp_load (pc := 29) hx hb (zd_X12_road (29, .iload_n 1, 1, 0, []) (List.mem_of_getElem? (i := 15) rfl)) rfl (j := 1) rfl ?_
      refine zp_load (pc := 30) hx hb (zd_X12_road (30, .iload_n 2, 1, 0, []) (List.mem_of_getElem? (i := 16) rfl)) rfl (j := 2) rfl ?_
      refine zp_icmp (pc := 31) (tgt := 46) hx hb (zd_X12_road (31, .if_icmp .eq 15, 3, 0, []) (List.mem_of_getElem? (i := 17) rfl)) rfl (fun (hc197ξ : p1ξ = p2ξ) => ?_) (fun (hc197ξ : ¬ (p1ξ = p2ξ)) => ?_)
      · refine zp_load (pc := 46) hx hb (zd_X12_road (46, .aload_n 0, 1, 0, []) (List.mem_of_getElem? (i := 24) rfl)) rfl (j := 0) rfl ?_
        refine zp_const (pc := 47) hx hb (zd_X12_road (47, .iconst (-1), 1, 0, []) (List.mem_of_getElem? (i := 25) rfl)) rfl rfl ?_
        refine zp_call (pc := 48) (how := 0) (idx := 170) (mi := 183) (S := []) hx hb hEξ hwξ heffξ hrmξ (zX_tll hWξ A (zp_set V 0 0 0)) rfl (j := 0) rfl rfl (by decide +kernel) (zd_X12_road (48, .invokevirtual 170, 3, 0, []) (List.mem_of_getElem? (i := 26) rfl)) [(A 0 : Int), (-1)] rfl ⟨zp_o2 (zM_P hMξ (List.mem_of_getElem? (i := 0) rfl)), zp_o0 (by omega) (by omega) (by omega) (by omega), trivial⟩ (Nat.le_of_ble_eq_true rfl) ⟨⟨(zp_set M 0 0 0), (zM_set hMξ (List.mem_of_getElem? (i := 0) rfl) (by decide)), (zV_set hVξ), (zSb_set (by decide) hSbξ)⟩, rfl, (show -6 ≤ (-1) by omega)⟩ (fun al halξ rnt198ξ Pt198 Gt198 hextt198ξ hfrt198ξ hokt198ξ hcst198ξ hpsit198ξ => ?_)
        obtain rfl := List.mem_singleton.mp halξ
        have hrt198ξ := zp_int (hokt198ξ _ rfl).1
        obtain ⟨hPet198ξ, ⟨Mt198, hMt198ξ, hVt198ξ, hSbt198ξ⟩, htt198ξ⟩ := hpsit198ξ
        subst hPet198ξ
        clear hextt198ξ hfrt198ξ hcst198ξ hokt198ξ
        have hVt198ξ : ∀ o k, zNs o k → Mt198 o k = (zT_tell (zp_set V 0 0 0) (-1)) o k := hVt198ξ
        have htt198ξ : rnt198ξ = (-1) := htt198ξ
        have htt198ξ := (Eq.symm htt198ξ)
        subst htt198ξ
        refine zp_iret (pc := 51) (n := (-1)) hx hb hEξ hQξ hU5ξ rfl (by decide) (zd_X12_road (51, .ireturn, 1, 0, []) (List.mem_of_getElem? (i := 27) rfl)) (j := 0) rfl (zp_o0 (by omega) (by omega) (by omega) (by omega)) ?_
        rw [hpsξ]
        refine ⟨rfl, ?_⟩
        have hffξ : zf_roa V p1ξ p2ξ p3ξ = ((-1), (zT_tell (zp_set V 0 0 0) (-1))) := by
          unfold zf_roa
          rw [if_pos ((Iff.mp htn187ξ) (by omega)), if_pos ((Iff.mp htn192ξ) (by omega)), if_pos hc197ξ]
        show zMVr A (zf_roa V p1ξ p2ξ p3ξ).2 u.1 Gt198 ∧ (-1) = (zf_roa V p1ξ p2ξ p3ξ).1
        rw [hffξ]
        exact ⟨⟨Mt198, hMt198ξ, hVt198ξ, hSbt198ξ⟩, rfl⟩
      · refine zp_load (pc := 34) hx hb (zd_X12_road (34, .iload_n 3, 1, 0, []) (List.mem_of_getElem? (i := 18) rfl)) rfl (j := 3) rfl ?_
        refine zp_i2l (pc := 35) hx hb (zd_X12_road (35, .i2l, 1, 0, []) (List.mem_of_getElem? (i := 19) rfl)) ?_
        refine zp_const (pc := 36) hx hb (zd_X12_road (36, .lconst 0, 1, 0, []) (List.mem_of_getElem? (i := 20) rfl)) rfl rfl ?_
        refine zp_ldc2 (pc := 37) hx hb hEξ (zd_X12_road (37, .ldc2_w 194, 3, 0, []) (List.mem_of_getElem? (i := 21) rfl)) (j := 83) rfl ?_
        refine zp_call (pc := 40) (how := 1) (idx := 181) (mi := 186) (S := []) hx hb hEξ hwξ heffξ hrmξ (zX_in2 hWξ) rfl (j := 2) rfl rfl (by decide +kernel) (zd_X12_road (40, .invokestatic 181, 3, 0, []) (List.mem_of_getElem? (i := 22) rfl)) [p3ξ, 0, 99] rfl ⟨zp_o1 (by first | assumption | exact zp_r1 (by omega) (by omega)), zp_o1 (by first | assumption | exact zp_r1 (by omega) (by omega)), zp_o1 (by first | assumption | exact zp_r1 (by omega) (by omega)), trivial⟩ (Nat.le_of_ble_eq_true rfl) trivial (fun al halξ rnn199ξ Pn199 Gn199 hextn199ξ hfrn199ξ hokn199ξ hcsn199ξ hpsin199ξ => ?_)
        obtain rfl := List.mem_singleton.mp halξ
        have hrn199ξ := zp_int (hokn199ξ _ rfl).1
        obtain ⟨hPen199ξ, hGen199ξ, htn199ξ⟩ := hpsin199ξ
        rw [hPen199ξ, hGen199ξ]
        clear hextn199ξ hfrn199ξ hcsn199ξ hPen199ξ hGen199ξ
        have htn199ξ : rnn199ξ = 1 ↔ 0 ≤ p3ξ ∧ p3ξ ≤ 99 := htn199ξ
        refine zp_if (pc := 43) (tgt := 52) hx hb (zd_X12_road (43, .ifCond .ne 9, 3, 0, []) (List.mem_of_getElem? (i := 23) rfl)) rfl (fun (hc200ξ : ¬ rnn199ξ = 0) => ?_) (fun (hc200ξ : ¬ (¬ rnn199ξ = 0)) => ?_)
        · have hbt201ξ := (Iff.mp htn199ξ) (by omega)
          refine zp_load (pc := 52) hx hb (zd_X12_road (52, .aload_n 0, 1, 0, []) (List.mem_of_getElem? (i := 28) rfl)) rfl (j := 0) rfl ?_
          refine zp_getf (n := (A 3 : Int)) (pc := 53) hx hb hEξ hwξ (zd_X12_road (53, .getfield 13, 3, 0, []) (List.mem_of_getElem? (i := 29) rfl)) (j := 21) rfl rfl rfl (zM_P hMξ (List.mem_of_getElem? (i := 0) rfl)) ((zp_set_ne (Or.inr (by decide))).trans (((zM_G hMξ (List.mem_of_getElem? (i := 0) rfl) 3).trans (zM_F hMξ (List.mem_of_getElem? (i := 1) rfl))))) ?_
          refine zp_const (pc := 56) hx hb (zd_X12_road (56, .bipush 89, 2, 0, []) (List.mem_of_getElem? (i := 30) rfl)) rfl rfl ?_
          refine zp_const (pc := 58) hx hb (zd_X12_road (58, .bipush 8, 2, 0, []) (List.mem_of_getElem? (i := 31) rfl)) rfl rfl ?_
          refine zp_load (pc := 60) hx hb (zd_X12_road (60, .iload_n 2, 1, 0, []) (List.mem_of_getElem? (i := 32) rfl)) rfl (j := 2) rfl ?_
          refine zp_mul (n := (8 * p2ξ)) (pc := 61) hx hb (zd_X12_road (61, .imul, 1, 0, []) (List.mem_of_getElem? (i := 33) rfl)) (by omega) (zp_r0 (by omega) (by omega)) ?_
          refine zp_add (n := (89 + (8 * p2ξ))) (pc := 62) hx hb (zd_X12_road (62, .iadd, 1, 0, []) (List.mem_of_getElem? (i := 34) rfl)) (by omega) (zp_r0 (by omega) (by omega)) ?_
          refine zp_load (pc := 63) hx hb (zd_X12_road (63, .iload_n 1, 1, 0, []) (List.mem_of_getElem? (i := 35) rfl)) rfl (j := 1) rfl ?_
          refine zp_add (n := ((89 + (8 * p2ξ)) + p1ξ)) (pc := 64) hx hb (zd_X12_road (64, .iadd, 1, 0, []) (List.mem_of_getElem? (i := 36) rfl)) (by omega) (zp_r0 (by omega) (by omega)) ?_
          refine zp_load (pc := 65) hx hb (zd_X12_road (65, .iload_n 3, 1, 0, []) (List.mem_of_getElem? (i := 37) rfl)) rfl (j := 3) rfl ?_
          refine zp_iastR (j := (8 * p2ξ.toNat + p1ξ.toNat + 89)) (pc := 66) hx hb hwξ heffξ (zd_X12_road (66, .iastore, 1, 0, []) (List.mem_of_getElem? (i := 38) rfl)) (zM_P hMξ (List.mem_of_getElem? (i := 2) rfl)) (by omega) (show (8 * p2ξ.toNat + p1ξ.toNat + 89) < 180 by omega) (zr_st (lo := (-2147483648)) (hi := 2147483647) (zr_road (show 8 * p2ξ.toNat + p1ξ.toNat < 64 by omega)) (by omega) (by omega) (by omega) (by omega)) ⟨1002, rfl, zp_1002 (by omega)⟩ ?_
          refine zp_load (pc := 67) hx hb (zd_X12_road (67, .aload_n 0, 1, 0, []) (List.mem_of_getElem? (i := 39) rfl)) rfl (j := 0) rfl ?_
          refine zp_const (pc := 68) hx hb (zd_X12_road (68, .bipush 89, 2, 0, []) (List.mem_of_getElem? (i := 40) rfl)) rfl rfl ?_
          refine zp_const (pc := 70) hx hb (zd_X12_road (70, .bipush 8, 2, 0, []) (List.mem_of_getElem? (i := 41) rfl)) rfl rfl ?_
          refine zp_load (pc := 72) hx hb (zd_X12_road (72, .iload_n 1, 1, 0, []) (List.mem_of_getElem? (i := 42) rfl)) rfl (j := 1) rfl ?_
          refine zp_mul (n := (8 * p1ξ)) (pc := 73) hx hb (zd_X12_road (73, .imul, 1, 0, []) (List.mem_of_getElem? (i := 43) rfl)) (by omega) (zp_r0 (by omega) (by omega)) ?_
          refine zp_add (n := (89 + (8 * p1ξ))) (pc := 74) hx hb (zd_X12_road (74, .iadd, 1, 0, []) (List.mem_of_getElem? (i := 44) rfl)) (by omega) (zp_r0 (by omega) (by omega)) ?_
          refine zp_load (pc := 75) hx hb (zd_X12_road (75, .iload_n 2, 1, 0, []) (List.mem_of_getElem? (i := 45) rfl)) rfl (j := 2) rfl ?_
          refine zp_add (n := ((89 + (8 * p1ξ)) + p2ξ)) (pc := 76) hx hb (zd_X12_road (76, .iadd, 1, 0, []) (List.mem_of_getElem? (i := 46) rfl)) (by omega) (zp_r0 (by omega) (by omega)) ?_
          refine zp_load (pc := 77) hx hb (zd_X12_road (77, .iload_n 3, 1, 0, []) (List.mem_of_getElem? (i := 47) rfl)) rfl (j := 3) rfl ?_
          have hr204ξ := hRξ (8 * p1ξ.toNat + p2ξ.toNat + 89) (by omega)
          refine zp_call (pc := 78) (how := 0) (idx := 196) (mi := 190) (S := []) hx hb hEξ hwξ heffξ hrmξ (zX_chg hWξ A (zp_set (zp_set V 0 0 0) 3 (2000 + (8 * p2ξ.toNat + p1ξ.toNat + 89)) p3ξ) (8 * p1ξ.toNat + p2ξ.toNat + 89)) rfl (j := 4) rfl rfl (by decide +kernel) (zd_X12_road (78, .invokevirtual 196, 3, 0, []) (List.mem_of_getElem? (i := 48) rfl)) [(A 0 : Int), ((89 + (8 * p1ξ)) + p2ξ), p3ξ] rfl ⟨zp_o2 (zM_P hMξ (List.mem_of_getElem? (i := 0) rfl)), zp_o0 (by omega) (by omega) (by omega) (by omega), zp_o0 (by omega) (by omega) (by omega) (by omega), trivial⟩ (Nat.le_of_ble_eq_true rfl) ⟨⟨(zp_set (zp_set M 0 0 0) 3 (2000 + (8 * p2ξ.toNat + p1ξ.toNat + 89)) p3ξ), (zM_setE (zM_set hMξ (List.mem_of_getElem? (i := 0) rfl) (by decide)) (List.mem_of_getElem? (i := 2) rfl)), (zV_set (zV_set hVξ)), (zSb_set (by decide) (zSb_set (by decide) hSbξ))⟩, rfl, (show ((89 + (8 * p1ξ)) + p2ξ) = (((8 * p1ξ.toNat + p2ξ.toNat + 89) : Nat) : Int) by omega), by omega, (show -2147483648 ≤ (zp_set (zp_set V 0 0 0) 3 (2000 + (8 * p2ξ.toNat + p1ξ.toNat + 89)) p3ξ) 3 (2000 + (8 * p1ξ.toNat + p2ξ.toNat + 89)) ∧ (zp_set (zp_set V 0 0 0) 3 (2000 + (8 * p2ξ.toNat + p1ξ.toNat + 89)) p3ξ) 3 (2000 + (8 * p1ξ.toNat + p2ξ.toNat + 89)) ≤ 2147483647 by rw [((zp_set_ne (Or.inr (by omega))).trans ((zp_set_ne (Or.inl (by decide))).trans (rfl)))]; omega), (show _ ≤ p3ξ by rw [(zr_road (show 8 * p1ξ.toNat + p2ξ.toNat < 64 by omega)).2.1]; omega), (show p3ξ ≤ _ by rw [(zr_road (show 8 * p1ξ.toNat + p2ξ.toNat < 64 by omega)).2.2]; omega)⟩ (fun al halξ rnc203ξ Pc203 Gc203 hextc203ξ hfrc203ξ hokc203ξ hcsc203ξ hpsic203ξ => ?_)
          obtain rfl := List.mem_singleton.mp halξ
          have hrc203ξ := zp_int (hokc203ξ _ rfl).1
          obtain ⟨hPec203ξ, ⟨Mc203, hMc203ξ, hVc203ξ, hSbc203ξ⟩, htc203ξ⟩ := hpsic203ξ
          subst hPec203ξ
          clear hextc203ξ hfrc203ξ hcsc203ξ hokc203ξ
          have hVc203ξ : ∀ o k, zNs o k → Mc203 o k = (zp_set (zp_set (zp_set (zp_set V 0 0 0) 3 (2000 + (8 * p2ξ.toNat + p1ξ.toNat + 89)) p3ξ) 3 (2000 + (8 * p1ξ.toNat + p2ξ.toNat + 89)) p3ξ) 0 1 0) o k := hVc203ξ
          have htc203ξ : rnc203ξ = (V 3 (2000 + (8 * p1ξ.toNat + p2ξ.toNat + 89))) := (Eq.trans htc203ξ) (((zp_set_ne (Or.inr (by omega))).trans ((zp_set_ne (Or.inl (by decide))).trans (rfl))))
          have htc203ξ := (Eq.symm htc203ξ)
          subst htc203ξ
          refine zp_iret (pc := 81) (n := (V 3 (2000 + (8 * p1ξ.toNat + p2ξ.toNat + 89)))) hx hb hEξ hQξ hU5ξ rfl (by decide) (zd_X12_road (81, .ireturn, 1, 0, []) (List.mem_of_getElem? (i := 49) rfl)) (j := 0) rfl (zp_o0 (by omega) (by omega) (by omega) (by omega)) ?_
          rw [hpsξ]
          refine ⟨rfl, ?_⟩
          have hffξ : zf_roa V p1ξ p2ξ p3ξ = ((V 3 (2000 + (8 * p1ξ.toNat + p2ξ.toNat + 89))), (zp_set (zp_set (zp_set (zp_set V 0 0 0) 3 (2000 + (8 * p2ξ.toNat + p1ξ.toNat + 89)) p3ξ) 3 (2000 + (8 * p1ξ.toNat + p2ξ.toNat + 89)) p3ξ) 0 1 0)) := by
            unfold zf_roa
            rw [if_pos ((Iff.mp htn187ξ) (by omega)), if_pos ((Iff.mp htn192ξ) (by omega)), if_neg hc197ξ, if_pos ((Iff.mp htn199ξ) (by omega))]
          show zMVr A (zf_roa V p1ξ p2ξ p3ξ).2 u.1 Gc203 ∧ (V 3 (2000 + (8 * p1ξ.toNat + p2ξ.toNat + 89))) = (zf_roa V p1ξ p2ξ p3ξ).1
          rw [hffξ]
          exact ⟨⟨Mc203, hMc203ξ, hVc203ξ, hSbc203ξ⟩, rfl⟩
        · have hbf202ξ : ¬ (0 ≤ p3ξ ∧ p3ξ ≤ 99) := fun h9ξ => absurd ((Iff.mpr htn199ξ) h9ξ) (by omega)
          refine zp_load (pc := 46) hx hb (zd_X12_road (46, .aload_n 0, 1, 0, []) (List.mem_of_getElem? (i := 24) rfl)) rfl (j := 0) rfl ?_
          refine zp_const (pc := 47) hx hb (zd_X12_road (47, .iconst (-1), 1, 0, []) (List.mem_of_getElem? (i := 25) rfl)) rfl rfl ?_
          refine zp_call (pc := 48) (how := 0) (idx := 170) (mi := 183) (S := []) hx hb hEξ hwξ heffξ hrmξ (zX_tll hWξ A (zp_set V 0 0 0)) rfl (j := 0) rfl rfl (by decide +kernel) (zd_X12_road (48, .invokevirtual 170, 3, 0, []) (List.mem_of_getElem? (i := 26) rfl)) [(A 0 : Int), (-1)] rfl ⟨zp_o2 (zM_P hMξ (List.mem_of_getElem? (i := 0) rfl)), zp_o0 (by omega) (by omega) (by omega) (by omega), trivial⟩ (Nat.le_of_ble_eq_true rfl) ⟨⟨(zp_set M 0 0 0), (zM_set hMξ (List.mem_of_getElem? (i := 0) rfl) (by decide)), (zV_set hVξ), (zSb_set (by decide) hSbξ)⟩, rfl, (show -6 ≤ (-1) by omega)⟩ (fun al halξ rnt205ξ Pt205 Gt205 hextt205ξ hfrt205ξ hokt205ξ hcst205ξ hpsit205ξ => ?_)
          obtain rfl := List.mem_singleton.mp halξ
          have hrt205ξ := zp_int (hokt205ξ _ rfl).1
          obtain ⟨hPet205ξ, ⟨Mt205, hMt205ξ, hVt205ξ, hSbt205ξ⟩, htt205ξ⟩ := hpsit205ξ
          subst hPet205ξ
          clear hextt205ξ hfrt205ξ hcst205ξ hokt205ξ
          have hVt205ξ : ∀ o k, zNs o k → Mt205 o k = (zT_tell (zp_set V 0 0 0) (-1)) o k := hVt205ξ
          have htt205ξ : rnt205ξ = (-1) := htt205ξ
          have htt205ξ := (Eq.symm htt205ξ)
          subst htt205ξ
          refine zp_iret (pc := 51) (n := (-1)) hx hb hEξ hQξ hU5ξ rfl (by decide) (zd_X12_road (51, .ireturn, 1, 0, []) (List.mem_of_getElem? (i := 27) rfl)) (j := 0) rfl (zp_o0 (by omega) (by omega) (by omega) (by omega)) ?_
          rw [hpsξ]
          refine ⟨rfl, ?_⟩
          have hffξ : zf_roa V p1ξ p2ξ p3ξ = ((-1), (zT_tell (zp_set V 0 0 0) (-1))) := by
            unfold zf_roa
            rw [if_pos ((Iff.mp htn187ξ) (by omega)), if_pos ((Iff.mp htn192ξ) (by omega)), if_neg hc197ξ, if_neg (fun h9ξ => absurd ((Iff.mpr htn199ξ) h9ξ) (by omega))]
          show zMVr A (zf_roa V p1ξ p2ξ p3ξ).2 u.1 Gt205 ∧ (-1) = (zf_roa V p1ξ p2ξ p3ξ).1
          rw [hffξ]
          exact ⟨⟨Mt205, hMt205ξ, hVt205ξ, hSbt205ξ⟩, rfl⟩
noncomputable def zf_frc (V : Nat → Nat → Int) (nlξ : Nat) (p1ξ : Int) : Int × (Nat → Nat → Int) := if p1ξ = (-1) then ((V 3 (2000 + 4)), (zp_set (zp_set (zp_set V 0 0 0) 3 (2000 + 4) p1ξ) 0 1 0)) else if 0 ≤ p1ξ ∧ p1ξ ≤ ((nlξ : Int) - 1) then ((V 3 (2000 + 4)), (zp_set (zp_set (zp_set V 0 0 0) 3 (2000 + 4) p1ξ) 0 1 0)) else ((-2), (zT_tell (zp_set V 0 0 0) (-2)))
noncomputable def zK_frc : zk_K := (zt_mn 236, prog_14_method_63_code, 2, (Option.some Jvm.ClassFile.FieldType.int), 1, 12, [(2, 13, 0, 0), (0, 0, (-2147483648), 2147483647)], [(some (0, 0, (-2147483648), 2147483647), [])], zUE, (3, 180, 0, 0))
noncomputable def zφ_frc (A : Nat → Nat) (V : Nat → Nat → Int) (nlξ : Nat) : (Nat → Option Nat) → (Nat → Nat → Int) → List Int → Prop := fun P G ps => zMVr A V P G ∧ ps.getD 0 0 = (A 0 : Int) ∧ (∀ j, j < 5580 → -2147483648 ≤ V 3 (2000 + j) ∧ V 3 (2000 + j) ≤ 2147483647) ∧ V 3 (2000 + 3) = (nlξ : Int) ∧ nlξ ≤ 6
noncomputable def zψ_frc (A : Nat → Nat) (V : Nat → Nat → Int) (nlξ : Nat) : (Nat → Option Nat) → (Nat → Nat → Int) → List Int → (Nat → Option Nat) → (Nat → Nat → Int) → Int → Prop := fun P G ps P' G' rn => P' = P ∧ zMVr A (zf_frc V nlξ (ps.getD 1 0)).2 P' G' ∧ rn = (zf_frc V nlξ (ps.getD 1 0)).1
theorem zX_frc {l : Launch} {w : zk_W} (hWξ : zh_W w) (A : Nat → Nat) (V : Nat → Nat → Int) (nlξ : Nat) : zk_metX l w zt_dv zt_TB zK_frc (zp_A (zφ_frc A V nlξ)) (zp_B (zψ_frc A V nlξ)) ∧ zk_cok w zt_TB zK_frc := by
  refine zp_methX (cn := "WoundTownModel") zp_lkall hWξ (pl := 1792) rfl (by decide +kernel) (fun p e R s m args below meth c Q u hx hb hEξ hQξ hU5ξ heffξ hnLξ hokξ hφ => ?_)
  have hwξ := hWξ.1
  obtain ⟨p0ξ, p1ξ, hpsξ, tk0, tk1⟩ := zp_ps2 hokξ
  have hrmξ : zk_Kr (zk_ev (zt_types, zp_lk, zt_dv, [], [], zp_lc, zK_frc)) = zk_Kr zK_frc := rfl
  rw [hpsξ] at hφ ⊢
  have hφ : zMVr A V u.1 (zp_n u.2.1) ∧ p0ξ = (A 0 : Int) ∧ (∀ j, j < 5580 → -2147483648 ≤ V 3 (2000 + j) ∧ V 3 (2000 + j) ≤ 2147483647) ∧ V 3 (2000 + 3) = (nlξ : Int) ∧ nlξ ≤ 6 := hφ
  obtain ⟨⟨M, hMξ, hVξ, hSbξ⟩, rfl, hRξ, hnlξ, hnl6ξ⟩ := hφ
  have hi1ξ := zp_int tk1
  show zp_J p l e R s m args below meth c Q w u [] 0 [(0, 2, (A 0 : Int)), (1, 0, p1ξ)] [] u.1 (zp_n u.2.1)
  refine zp_load (pc := 0) hx hb (zd_X12_force (0, .aload_n 0, 1, 0, []) (List.mem_of_getElem? (i := 0) rfl)) rfl (j := 0) rfl ?_
  refine zp_const (pc := 1) hx hb (zd_X12_force (1, .iconst 0, 1, 0, []) (List.mem_of_getElem? (i := 1) rfl)) rfl rfl ?_
  refine zp_putf (pc := 2) hx hb hEξ hwξ heffξ (zd_X12_force (2, .putfield 161, 3, 0, []) (List.mem_of_getElem? (i := 2) rfl)) (j := 18) rfl rfl rfl (zM_P hMξ (List.mem_of_getElem? (i := 0) rfl)) (zp_o0 (by decide) (by decide) (by decide) (by decide)) ?_
  refine zp_load (pc := 5) hx hb (zd_X12_force (5, .iload_n 1, 1, 0, []) (List.mem_of_getElem? (i := 3) rfl)) rfl (j := 1) rfl ?_
  refine zp_const (pc := 6) hx hb (zd_X12_force (6, .iconst (-1), 1, 0, []) (List.mem_of_getElem? (i := 4) rfl)) rfl rfl ?_
  refine zp_icmp (pc := 7) (tgt := 28) hx hb (zd_X12_force (7, .if_icmp .eq 21, 3, 0, []) (List.mem_of_getElem? (i := 5) rfl)) rfl (fun (hc206ξ : p1ξ = (-1)) => ?_) (fun (hc206ξ : ¬ (p1ξ = (-1))) => ?_)
  · refine zp_load (pc := 28) hx hb (zd_X12_force (28, .aload_n 0, 1, 0, []) (List.mem_of_getElem? (i := 18) rfl)) rfl (j := 0) rfl ?_
    refine zp_const (pc := 29) hx hb (zd_X12_force (29, .iconst 4, 1, 0, []) (List.mem_of_getElem? (i := 19) rfl)) rfl rfl ?_
    refine zp_load (pc := 30) hx hb (zd_X12_force (30, .iload_n 1, 1, 0, []) (List.mem_of_getElem? (i := 20) rfl)) rfl (j := 1) rfl ?_
    have hr208ξ := hRξ 4 (by omega)
    refine zp_call (pc := 31) (how := 0) (idx := 196) (mi := 190) (S := []) hx hb hEξ hwξ heffξ hrmξ (zX_chg hWξ A (zp_set V 0 0 0) 4) rfl (j := 4) rfl rfl (by decide +kernel) (zd_X12_force (31, .invokevirtual 196, 3, 0, []) (List.mem_of_getElem? (i := 21) rfl)) [(A 0 : Int), 4, p1ξ] rfl ⟨zp_o2 (zM_P hMξ (List.mem_of_getElem? (i := 0) rfl)), zp_o0 (by omega) (by omega) (by omega) (by omega), zp_o0 (by omega) (by omega) (by omega) (by omega), trivial⟩ (Nat.le_of_ble_eq_true rfl) ⟨⟨(zp_set M 0 0 0), (zM_set hMξ (List.mem_of_getElem? (i := 0) rfl) (by decide)), (zV_set hVξ), (zSb_set (by decide) hSbξ)⟩, rfl, (show 4 = ((4 : Nat) : Int) by omega), by omega, (show -2147483648 ≤ (zp_set V 0 0 0) 3 (2000 + 4) ∧ (zp_set V 0 0 0) 3 (2000 + 4) ≤ 2147483647 by rw [((zp_set_ne (Or.inl (by decide))).trans (rfl))]; omega), (show (-1) ≤ p1ξ by omega), (show p1ξ ≤ 5 by omega)⟩ (fun al halξ rnc207ξ Pc207 Gc207 hextc207ξ hfrc207ξ hokc207ξ hcsc207ξ hpsic207ξ => ?_)
    obtain rfl := List.mem_singleton.mp halξ
    have hrc207ξ := zp_int (hokc207ξ _ rfl).1
    obtain ⟨hPec207ξ, ⟨Mc207, hMc207ξ, hVc207ξ, hSbc207ξ⟩, htc207ξ⟩ := hpsic207ξ
    subst hPec207ξ
    clear hextc207ξ hfrc207ξ hcsc207ξ hokc207ξ
    have hVc207ξ : ∀ o k, zNs o k → Mc207 o k = (zp_set (zp_set (zp_set V 0 0 0) 3 (2000 + 4) p1ξ) 0 1 0) o k := hVc207ξ
    have htc207ξ : rnc207ξ = (V 3 (2000 + 4)) := (Eq.trans htc207ξ) (((zp_set_ne (Or.inl (by decide))).trans (rfl)))
    have htc207ξ := (Eq.symm htc207ξ)
    subst htc207ξ
    refine zp_goto (tgt := 43) (pc := 34) hx hb (zd_X12_force (34, .goto 9, 3, 0, []) (List.mem_of_getElem? (i := 22) rfl)) rfl ?_
    refine zp_iret (pc := 43) (n := (V 3 (2000 + 4))) hx hb hEξ hQξ hU5ξ rfl (by decide) (zd_X12_force (43, .ireturn, 1, 0, []) (List.mem_of_getElem? (i := 26) rfl)) (j := 0) rfl (zp_o0 (by omega) (by omega) (by omega) (by omega)) ?_
    rw [hpsξ]
    refine ⟨rfl, ?_⟩
    have hffξ : zf_frc V nlξ p1ξ = ((V 3 (2000 + 4)), (zp_set (zp_set (zp_set V 0 0 0) 3 (2000 + 4) p1ξ) 0 1 0)) := by
      unfold zf_frc
      rw [if_pos hc206ξ]
    show zMVr A (zf_frc V nlξ p1ξ).2 u.1 Gc207 ∧ (V 3 (2000 + 4)) = (zf_frc V nlξ p1ξ).1
    rw [hffξ]
    exact ⟨⟨Mc207, hMc207ξ, hVc207ξ, hSbc207ξ⟩, rfl⟩
  · refine zp_load (pc := 10) hx hb (zd_X12_force (10, .iload_n 1, 1, 0, []) (List.mem_of_getElem? (i := 6) rfl)) rfl (j := 1) rfl ?_
    refine zp_i2l (pc := 11) hx hb (zd_X12_force (11, .i2l, 1, 0, []) (List.mem_of_getElem? (i := 7) rfl)) ?_
    refine zp_const (pc := 12) hx hb (zd_X12_force (12, .lconst 0, 1, 0, []) (List.mem_of_getElem? (i := 8) rfl)) rfl rfl ?_
    refine zp_load (pc := 13) hx hb (zd_X12_force (13, .aload_n 0, 1, 0, []) (List.mem_of_getElem? (i := 9) rfl)) rfl (j := 0) rfl ?_
    refine zp_getf (n := (A 3 : Int)) (pc := 14) hx hb hEξ hwξ (zd_X12_force (14, .getfield 13, 3, 0, []) (List.mem_of_getElem? (i := 10) rfl)) (j := 21) rfl rfl rfl (zM_P hMξ (List.mem_of_getElem? (i := 0) rfl)) ((zp_set_ne (Or.inr (by decide))).trans (((zM_G hMξ (List.mem_of_getElem? (i := 0) rfl) 3).trans (zM_F hMξ (List.mem_of_getElem? (i := 1) rfl))))) ?_
    refine zp_const (pc := 17) hx hb (zd_X12_force (17, .iconst 3, 1, 0, []) (List.mem_of_getElem? (i := 11) rfl)) rfl rfl ?_
    refine zp_ialdT (j := 3) (v := (nlξ : Int)) (pc := 18) hx hb hwξ (zd_X12_force (18, .iaload, 1, 0, []) (List.mem_of_getElem? (i := 12) rfl)) zl_T59 rfl (zl_kd 3) (zM_P hMξ (List.mem_of_getElem? (i := 2) rfl)) (by omega) (show 3 < 5580 by omega) ((zp_set_ne (Or.inl (zM_ne hMξ (List.mem_of_getElem? (i := 2) rfl) (List.mem_of_getElem? (i := 0) rfl) (by decide)))).trans ((((zM_G hMξ (List.mem_of_getElem? (i := 2) rfl) (2000 + 3)).trans (hVξ 3 (2000 + 3) (Or.inl (by decide)))).trans hnlξ))) (fun _ => ?_)
    refine zp_i2l (pc := 19) hx hb (zd_X12_force (19, .i2l, 1, 0, []) (List.mem_of_getElem? (i := 13) rfl)) ?_
    refine zp_const (pc := 20) hx hb (zd_X12_force (20, .lconst 1, 1, 0, []) (List.mem_of_getElem? (i := 14) rfl)) rfl rfl ?_
    refine zp_lsubx (n := ((nlξ : Int) - 1)) (pc := 21) hx hb (zd_X12_force (21, .lsub, 1, 0, []) (List.mem_of_getElem? (i := 15) rfl)) (by omega) (zp_r1 (by omega) (by omega)) ?_
    refine zp_call (pc := 22) (how := 1) (idx := 181) (mi := 186) (S := []) hx hb hEξ hwξ heffξ hrmξ (zX_in2 hWξ) rfl (j := 2) rfl rfl (by decide +kernel) (zd_X12_force (22, .invokestatic 181, 3, 0, []) (List.mem_of_getElem? (i := 16) rfl)) [p1ξ, 0, ((nlξ : Int) - 1)] rfl ⟨zp_o1 (by first | assumption | exact zp_r1 (by omega) (by omega)), zp_o1 (by first | assumption | exact zp_r1 (by omega) (by omega)), zp_o1 (by first | assumption | exact zp_r1 (by omega) (by omega)), trivial⟩ (Nat.le_of_ble_eq_true rfl) trivial (fun al halξ rnn210ξ Pn210 Gn210 hextn210ξ hfrn210ξ hokn210ξ hcsn210ξ hpsin210ξ => ?_)
    obtain rfl := List.mem_singleton.mp halξ
    have hrn210ξ := zp_int (hokn210ξ _ rfl).1
    obtain ⟨hPen210ξ, hGen210ξ, htn210ξ⟩ := hpsin210ξ
    rw [hPen210ξ, hGen210ξ]
    clear hextn210ξ hfrn210ξ hcsn210ξ hPen210ξ hGen210ξ
    have htn210ξ : rnn210ξ = 1 ↔ 0 ≤ p1ξ ∧ p1ξ ≤ ((nlξ : Int) - 1) := htn210ξ
    refine zp_if (pc := 25) (tgt := 37) hx hb (zd_X12_force (25, .ifCond .eq 12, 3, 0, []) (List.mem_of_getElem? (i := 17) rfl)) rfl (fun (hc211ξ : rnn210ξ = 0) => ?_) (fun (hc211ξ : ¬ (rnn210ξ = 0)) => ?_)
    · have hbf212ξ : ¬ (0 ≤ p1ξ ∧ p1ξ ≤ ((nlξ : Int) - 1)) := fun h9ξ => absurd ((Iff.mpr htn210ξ) h9ξ) (by omega)
      refine zp_load (pc := 37) hx hb (zd_X12_force (37, .aload_n 0, 1, 0, []) (List.mem_of_getElem? (i := 23) rfl)) rfl (j := 0) rfl ?_
      refine zp_const (pc := 38) hx hb (zd_X12_force (38, .bipush (-2), 2, 0, []) (List.mem_of_getElem? (i := 24) rfl)) rfl rfl ?_
      refine zp_call (pc := 40) (how := 0) (idx := 170) (mi := 183) (S := []) hx hb hEξ hwξ heffξ hrmξ (zX_tll hWξ A (zp_set V 0 0 0)) rfl (j := 0) rfl rfl (by decide +kernel) (zd_X12_force (40, .invokevirtual 170, 3, 0, []) (List.mem_of_getElem? (i := 25) rfl)) [(A 0 : Int), (-2)] rfl ⟨zp_o2 (zM_P hMξ (List.mem_of_getElem? (i := 0) rfl)), zp_o0 (by omega) (by omega) (by omega) (by omega), trivial⟩ (Nat.le_of_ble_eq_true rfl) ⟨⟨(zp_set M 0 0 0), (zM_set hMξ (List.mem_of_getElem? (i := 0) rfl) (by decide)), (zV_set hVξ), (zSb_set (by decide) hSbξ)⟩, rfl, (show -6 ≤ (-2) by omega)⟩ (fun al halξ rnt214ξ Pt214 Gt214 hextt214ξ hfrt214ξ hokt214ξ hcst214ξ hpsit214ξ => ?_)
      obtain rfl := List.mem_singleton.mp halξ
      have hrt214ξ := zp_int (hokt214ξ _ rfl).1
      obtain ⟨hPet214ξ, ⟨Mt214, hMt214ξ, hVt214ξ, hSbt214ξ⟩, htt214ξ⟩ := hpsit214ξ
      subst hPet214ξ
      clear hextt214ξ hfrt214ξ hcst214ξ hokt214ξ
      have hVt214ξ : ∀ o k, zNs o k → Mt214 o k = (zT_tell (zp_set V 0 0 0) (-2)) o k := hVt214ξ
      have htt214ξ : rnt214ξ = (-2) := htt214ξ
      have htt214ξ := (Eq.symm htt214ξ)
      subst htt214ξ
      refine zp_iret (pc := 43) (n := (-2)) hx hb hEξ hQξ hU5ξ rfl (by decide) (zd_X12_force (43, .ireturn, 1, 0, []) (List.mem_of_getElem? (i := 26) rfl)) (j := 0) rfl (zp_o0 (by omega) (by omega) (by omega) (by omega)) ?_
      rw [hpsξ]
      refine ⟨rfl, ?_⟩
      have hffξ : zf_frc V nlξ p1ξ = ((-2), (zT_tell (zp_set V 0 0 0) (-2))) := by
        unfold zf_frc
        rw [if_neg hc206ξ, if_neg (fun h9ξ => absurd ((Iff.mpr htn210ξ) h9ξ) (by omega))]
      show zMVr A (zf_frc V nlξ p1ξ).2 u.1 Gt214 ∧ (-2) = (zf_frc V nlξ p1ξ).1
      rw [hffξ]
      exact ⟨⟨Mt214, hMt214ξ, hVt214ξ, hSbt214ξ⟩, rfl⟩
    · have hbt213ξ := (Iff.mp htn210ξ) (by omega)
      refine zp_load (pc := 28) hx hb (zd_X12_force (28, .aload_n 0, 1, 0, []) (List.mem_of_getElem? (i := 18) rfl)) rfl (j := 0) rfl ?_
      refine zp_const (pc := 29) hx hb (zd_X12_force (29, .iconst 4, 1, 0, []) (List.mem_of_getElem? (i := 19) rfl)) rfl rfl ?_
      refine zp_load (pc := 30) hx hb (zd_X12_force (30, .iload_n 1, 1, 0, []) (List.mem_of_getElem? (i := 20) rfl)) rfl (j := 1) rfl ?_
      have hr216ξ := hRξ 4 (by omega)
      refine zp_call (pc := 31) (how := 0) (idx := 196) (mi := 190) (S := []) hx hb hEξ hwξ heffξ hrmξ (zX_chg hWξ A (zp_set V 0 0 0) 4) rfl (j := 4) rfl rfl (by decide +kernel) (zd_X12_force (31, .invokevirtual 196, 3, 0, []) (List.mem_of_getElem? (i := 21) rfl)) [(A 0 : Int), 4, p1ξ] rfl ⟨zp_o2 (zM_P hMξ (List.mem_of_getElem? (i := 0) rfl)), zp_o0 (by omega) (by omega) (by omega) (by omega), zp_o0 (by omega) (by omega) (by omega) (by omega), trivial⟩ (Nat.le_of_ble_eq_true rfl) ⟨⟨(zp_set M 0 0 0), (zM_set hMξ (List.mem_of_getElem? (i := 0) rfl) (by decide)), (zV_set hVξ), (zSb_set (by decide) hSbξ)⟩, rfl, (show 4 = ((4 : Nat) : Int) by omega), by omega, (show -2147483648 ≤ (zp_set V 0 0 0) 3 (2000 + 4) ∧ (zp_set V 0 0 0) 3 (2000 + 4) ≤ 2147483647 by rw [((zp_set_ne (Or.inl (by decide))).trans (rfl))]; omega), (show (-1) ≤ p1ξ by omega), (show p1ξ ≤ 5 by omega)⟩ (fun al halξ rnc215ξ Pc215 Gc215 hextc215ξ hfrc215ξ hokc215ξ hcsc215ξ hpsic215ξ => ?_)
      obtain rfl := List.mem_singleton.mp halξ
      have hrc215ξ := zp_int (hokc215ξ _ rfl).1
      obtain ⟨hPec215ξ, ⟨Mc215, hMc215ξ, hVc215ξ, hSbc215ξ⟩, htc215ξ⟩ := hpsic215ξ
      subst hPec215ξ
      clear hextc215ξ hfrc215ξ hcsc215ξ hokc215ξ
      have hVc215ξ : ∀ o k, zNs o k → Mc215 o k = (zp_set (zp_set (zp_set V 0 0 0) 3 (2000 + 4) p1ξ) 0 1 0) o k := hVc215ξ
      have htc215ξ : rnc215ξ = (V 3 (2000 + 4)) := (Eq.trans htc215ξ) (((zp_set_ne (Or.inl (by decide))).trans (rfl)))
      have htc215ξ := (Eq.symm htc215ξ)
      subst htc215ξ
      refine zp_goto (tgt := 43) (pc := 34) hx hb (zd_X12_force (34, .goto 9, 3, 0, []) (List.mem_of_getElem? (i := 22) rfl)) rfl ?_
      refine zp_iret (pc := 43) (n := (V 3 (2000 + 4))) hx hb hEξ hQξ hU5ξ rfl (by decide) (zd_X12_force (43, .ireturn, 1, 0, []) (List.mem_of_getElem? (i := 26) rfl)) (j := 0) rfl (zp_o0 (by omega) (by omega) (by omega) (by omega)) ?_
      rw [hpsξ]
      refine ⟨rfl, ?_⟩
      have hffξ : zf_frc V nlξ p1ξ = ((V 3 (2000 + 4)), (zp_set (zp_set (zp_set V 0 0 0) 3 (2000 + 4) p1ξ) 0 1 0)) := by
        unfold zf_frc
        rw [if_neg hc206ξ, if_pos ((Iff.mp htn210ξ) (by omega))]
      show zMVr A (zf_frc V nlξ p1ξ).2 u.1 Gc215 ∧ (V 3 (2000 + 4)) = (zf_frc V nlξ p1ξ).1
      rw [hffξ]
      exact ⟨⟨Mc215, hMc215ξ, hVc215ξ, hSbc215ξ⟩, rfl⟩
noncomputable def zf_sta (V : Nat → Nat → Int) : Int × (Nat → Nat → Int) := ((V 0 1), (zp_set V 0 0 0))
noncomputable def zK_sta : zk_K := (zt_mn 299, prog_14_method_120_code, 1, (Option.some Jvm.ClassFile.FieldType.int), 1, 12, [(2, 13, 0, 0)], [(some (0, 0, (-2147483648), 2147483647), [])], zUE, (3, 180, 0, 0))
noncomputable def zφ_sta (A : Nat → Nat) (V : Nat → Nat → Int) : (Nat → Option Nat) → (Nat → Nat → Int) → List Int → Prop := fun P G ps => zMVr A V P G ∧ ps.getD 0 0 = (A 0 : Int)
noncomputable def zψ_sta (A : Nat → Nat) (V : Nat → Nat → Int) : (Nat → Option Nat) → (Nat → Nat → Int) → List Int → (Nat → Option Nat) → (Nat → Nat → Int) → Int → Prop := fun P G ps P' G' rn => P' = P ∧ zMVr A (zf_sta V).2 P' G' ∧ rn = (zf_sta V).1
theorem zX_sta {l : Launch} {w : zk_W} (hWξ : zh_W w) (A : Nat → Nat) (V : Nat → Nat → Int) : zk_metX l w zt_dv zt_TB zK_sta (zp_A (zφ_sta A V)) (zp_B (zψ_sta A V)) ∧ zk_cok w zt_TB zK_sta := by
  refine zp_methX (cn := "WoundTownModel") zp_lkall hWξ (pl := 2062) rfl (by decide +kernel) (fun p e R s m args below meth c Q u hx hb hEξ hQξ hU5ξ heffξ hnLξ hokξ hφ => ?_)
  have hwξ := hWξ.1
  obtain ⟨p0ξ, hpsξ, tk0⟩ := zp_ps1 hokξ
  have hrmξ : zk_Kr (zk_ev (zt_types, zp_lk, zt_dv, [], [], zp_lc, zK_sta)) = zk_Kr zK_sta := rfl
  rw [hpsξ] at hφ ⊢
  have hφ : zMVr A V u.1 (zp_n u.2.1) ∧ p0ξ = (A 0 : Int) := hφ
  obtain ⟨⟨M, hMξ, hVξ, hSbξ⟩, rfl⟩ := hφ
  show zp_J p l e R s m args below meth c Q w u [] 0 [(0, 2, (A 0 : Int))] [] u.1 (zp_n u.2.1)
  refine zp_load (pc := 0) hx hb (zd_X12_status (0, .aload_n 0, 1, 0, []) (List.mem_of_getElem? (i := 0) rfl)) rfl (j := 0) rfl ?_
  refine zp_const (pc := 1) hx hb (zd_X12_status (1, .iconst 0, 1, 0, []) (List.mem_of_getElem? (i := 1) rfl)) rfl rfl ?_
  refine zp_putf (pc := 2) hx hb hEξ hwξ heffξ (zd_X12_status (2, .putfield 161, 3, 0, []) (List.mem_of_getElem? (i := 2) rfl)) (j := 18) rfl rfl rfl (zM_P hMξ (List.mem_of_getElem? (i := 0) rfl)) (zp_o0 (by decide) (by decide) (by decide) (by decide)) ?_
  refine zp_load (pc := 5) hx hb (zd_X12_status (5, .aload_n 0, 1, 0, []) (List.mem_of_getElem? (i := 3) rfl)) rfl (j := 0) rfl ?_
  refine zp_getf (n := (V 0 1)) (pc := 6) hx hb hEξ hwξ (zd_X12_status (6, .getfield 164, 3, 0, []) (List.mem_of_getElem? (i := 4) rfl)) (j := 19) rfl rfl rfl (zM_P hMξ (List.mem_of_getElem? (i := 0) rfl)) ((zp_set_ne (Or.inr (by decide))).trans (((zM_G hMξ (List.mem_of_getElem? (i := 0) rfl) 1).trans (hVξ 0 1 (Or.inr (by decide)))))) ?_
  refine zp_kn (k := 1) (a := (A 0)) hwξ (show zp_fd 13 1 = some (12, 0, 0, (-2147483648), 2147483647) from rfl) rfl (zM_P hMξ (List.mem_of_getElem? (i := 0) rfl)) (fun hf217ξ => ?_)
  have hf217bξ := zp_int hf217ξ
  rw [((zp_set_ne (Or.inr (by decide))).trans (((zM_G hMξ (List.mem_of_getElem? (i := 0) rfl) 1).trans (hVξ 0 1 (Or.inr (by decide))))))] at hf217bξ
  clear hf217ξ
  refine zp_iret (pc := 9) (n := (V 0 1)) hx hb hEξ hQξ hU5ξ rfl (by decide) (zd_X12_status (9, .ireturn, 1, 0, []) (List.mem_of_getElem? (i := 5) rfl)) (j := 0) rfl (zp_o0 (by omega) (by omega) (by omega) (by omega)) ?_
  rw [hpsξ]
  refine ⟨rfl, ?_⟩
  have hffξ : zf_sta V = ((V 0 1), (zp_set V 0 0 0)) := rfl
  show zMVr A (zf_sta V).2 u.1 (zp_set (zp_n u.2.1) (A 0) 0 0) ∧ (V 0 1) = (zf_sta V).1
  rw [hffξ]
  exact ⟨⟨(zp_set M 0 0 0), (zM_set hMξ (List.mem_of_getElem? (i := 0) rfl) (by decide)), (zV_set hVξ), (zSb_set (by decide) hSbξ)⟩, rfl⟩
noncomputable def zf_stp (V : Nat → Nat → Int) : Int × (Nat → Nat → Int) := ((V 0 59), (zp_set V 0 0 0))
noncomputable def zK_stp : zk_K := (zt_mn 293, prog_14_method_114_code, 1, (Option.some Jvm.ClassFile.FieldType.int), 1, 12, [(2, 13, 0, 0)], [(some (0, 0, (-2147483648), 2147483647), [])], zUE, (3, 180, 0, 0))
noncomputable def zφ_stp (A : Nat → Nat) (V : Nat → Nat → Int) : (Nat → Option Nat) → (Nat → Nat → Int) → List Int → Prop := fun P G ps => zMVr A V P G ∧ ps.getD 0 0 = (A 0 : Int)
noncomputable def zψ_stp (A : Nat → Nat) (V : Nat → Nat → Int) : (Nat → Option Nat) → (Nat → Nat → Int) → List Int → (Nat → Option Nat) → (Nat → Nat → Int) → Int → Prop := fun P G ps P' G' rn => P' = P ∧ zMVr A (zf_stp V).2 P' G' ∧ rn = (zf_stp V).1
theorem zX_stp {l : Launch} {w : zk_W} (hWξ : zh_W w) (A : Nat → Nat) (V : Nat → Nat → Int) : zk_metX l w zt_dv zt_TB zK_stp (zp_A (zφ_stp A V)) (zp_B (zψ_stp A V)) ∧ zk_cok w zt_TB zK_stp := by
  refine zp_methX (cn := "WoundTownModel") zp_lkall hWξ (pl := 2033) rfl (by decide +kernel) (fun p e R s m args below meth c Q u hx hb hEξ hQξ hU5ξ heffξ hnLξ hokξ hφ => ?_)
  have hwξ := hWξ.1
  obtain ⟨p0ξ, hpsξ, tk0⟩ := zp_ps1 hokξ
  have hrmξ : zk_Kr (zk_ev (zt_types, zp_lk, zt_dv, [], [], zp_lc, zK_stp)) = zk_Kr zK_stp := rfl
  rw [hpsξ] at hφ ⊢
  have hφ : zMVr A V u.1 (zp_n u.2.1) ∧ p0ξ = (A 0 : Int) := hφ
  obtain ⟨⟨M, hMξ, hVξ, hSbξ⟩, rfl⟩ := hφ
  show zp_J p l e R s m args below meth c Q w u [] 0 [(0, 2, (A 0 : Int))] [] u.1 (zp_n u.2.1)
  refine zp_load (pc := 0) hx hb (zd_X12_stopped (0, .aload_n 0, 1, 0, []) (List.mem_of_getElem? (i := 0) rfl)) rfl (j := 0) rfl ?_
  refine zp_const (pc := 1) hx hb (zd_X12_stopped (1, .iconst 0, 1, 0, []) (List.mem_of_getElem? (i := 1) rfl)) rfl rfl ?_
  refine zp_putf (pc := 2) hx hb hEξ hwξ heffξ (zd_X12_stopped (2, .putfield 161, 3, 0, []) (List.mem_of_getElem? (i := 2) rfl)) (j := 18) rfl rfl rfl (zM_P hMξ (List.mem_of_getElem? (i := 0) rfl)) (zp_o0 (by decide) (by decide) (by decide) (by decide)) ?_
  refine zp_load (pc := 5) hx hb (zd_X12_stopped (5, .aload_n 0, 1, 0, []) (List.mem_of_getElem? (i := 3) rfl)) rfl (j := 0) rfl ?_
  refine zp_getf (n := (V 0 59)) (pc := 6) hx hb hEξ hwξ (zd_X12_stopped (6, .getfield 152, 3, 0, []) (List.mem_of_getElem? (i := 4) rfl)) (j := 77) rfl rfl rfl (zM_P hMξ (List.mem_of_getElem? (i := 0) rfl)) ((zp_set_ne (Or.inr (by decide))).trans (((zM_G hMξ (List.mem_of_getElem? (i := 0) rfl) 59).trans (hVξ 0 59 (Or.inr (by decide)))))) ?_
  refine zp_kn (k := 59) (a := (A 0)) hwξ (show zp_fd 13 59 = some (12, 0, 0, (-2147483648), 2147483647) from rfl) rfl (zM_P hMξ (List.mem_of_getElem? (i := 0) rfl)) (fun hf218ξ => ?_)
  have hf218bξ := zp_int hf218ξ
  rw [((zp_set_ne (Or.inr (by decide))).trans (((zM_G hMξ (List.mem_of_getElem? (i := 0) rfl) 59).trans (hVξ 0 59 (Or.inr (by decide))))))] at hf218bξ
  clear hf218ξ
  refine zp_iret (pc := 9) (n := (V 0 59)) hx hb hEξ hQξ hU5ξ rfl (by decide) (zd_X12_stopped (9, .ireturn, 1, 0, []) (List.mem_of_getElem? (i := 5) rfl)) (j := 0) rfl (zp_o0 (by omega) (by omega) (by omega) (by omega)) ?_
  rw [hpsξ]
  refine ⟨rfl, ?_⟩
  have hffξ : zf_stp V = ((V 0 59), (zp_set V 0 0 0)) := rfl
  show zMVr A (zf_stp V).2 u.1 (zp_set (zp_n u.2.1) (A 0) 0 0) ∧ (V 0 59) = (zf_stp V).1
  rw [hffξ]
  exact ⟨⟨(zp_set M 0 0 0), (zM_set hMξ (List.mem_of_getElem? (i := 0) rfl) (by decide)), (zV_set hVξ), (zSb_set (by decide) hSbξ)⟩, rfl⟩
noncomputable def zf_fau (V : Nat → Nat → Int) : Int × (Nat → Nat → Int) := ((V 0 18), (zp_set V 0 0 0))
noncomputable def zK_fau : zk_K := (zt_mn 208, prog_14_method_43_code, 1, (Option.some Jvm.ClassFile.FieldType.int), 1, 12, [(2, 13, 0, 0)], [(some (0, 0, (-2147483648), 2147483647), [])], zUE, (3, 180, 0, 0))
noncomputable def zφ_fau (A : Nat → Nat) (V : Nat → Nat → Int) : (Nat → Option Nat) → (Nat → Nat → Int) → List Int → Prop := fun P G ps => zMVr A V P G ∧ ps.getD 0 0 = (A 0 : Int)
noncomputable def zψ_fau (A : Nat → Nat) (V : Nat → Nat → Int) : (Nat → Option Nat) → (Nat → Nat → Int) → List Int → (Nat → Option Nat) → (Nat → Nat → Int) → Int → Prop := fun P G ps P' G' rn => P' = P ∧ zMVr A (zf_fau V).2 P' G' ∧ rn = (zf_fau V).1
theorem zX_fau {l : Launch} {w : zk_W} (hWξ : zh_W w) (A : Nat → Nat) (V : Nat → Nat → Int) : zk_metX l w zt_dv zt_TB zK_fau (zp_A (zφ_fau A V)) (zp_B (zψ_fau A V)) ∧ zk_cok w zt_TB zK_fau := by
  refine zp_methX (cn := "WoundTownModel") zp_lkall hWξ (pl := 1668) rfl (by decide +kernel) (fun p e R s m args below meth c Q u hx hb hEξ hQξ hU5ξ heffξ hnLξ hokξ hφ => ?_)
  have hwξ := hWξ.1
  obtain ⟨p0ξ, hpsξ, tk0⟩ := zp_ps1 hokξ
  have hrmξ : zk_Kr (zk_ev (zt_types, zp_lk, zt_dv, [], [], zp_lc, zK_fau)) = zk_Kr zK_fau := rfl
  rw [hpsξ] at hφ ⊢
  have hφ : zMVr A V u.1 (zp_n u.2.1) ∧ p0ξ = (A 0 : Int) := hφ
  obtain ⟨⟨M, hMξ, hVξ, hSbξ⟩, rfl⟩ := hφ
  show zp_J p l e R s m args below meth c Q w u [] 0 [(0, 2, (A 0 : Int))] [] u.1 (zp_n u.2.1)
  refine zp_load (pc := 0) hx hb (zd_X12_fault (0, .aload_n 0, 1, 0, []) (List.mem_of_getElem? (i := 0) rfl)) rfl (j := 0) rfl ?_
  refine zp_const (pc := 1) hx hb (zd_X12_fault (1, .iconst 0, 1, 0, []) (List.mem_of_getElem? (i := 1) rfl)) rfl rfl ?_
  refine zp_putf (pc := 2) hx hb hEξ hwξ heffξ (zd_X12_fault (2, .putfield 161, 3, 0, []) (List.mem_of_getElem? (i := 2) rfl)) (j := 18) rfl rfl rfl (zM_P hMξ (List.mem_of_getElem? (i := 0) rfl)) (zp_o0 (by decide) (by decide) (by decide) (by decide)) ?_
  refine zp_load (pc := 5) hx hb (zd_X12_fault (5, .aload_n 0, 1, 0, []) (List.mem_of_getElem? (i := 3) rfl)) rfl (j := 0) rfl ?_
  refine zp_getf (n := (V 0 18)) (pc := 6) hx hb hEξ hwξ (zd_X12_fault (6, .getfield 38, 3, 0, []) (List.mem_of_getElem? (i := 4) rfl)) (j := 36) rfl rfl rfl (zM_P hMξ (List.mem_of_getElem? (i := 0) rfl)) ((zp_set_ne (Or.inr (by decide))).trans (((zM_G hMξ (List.mem_of_getElem? (i := 0) rfl) 18).trans (hVξ 0 18 (Or.inr (by decide)))))) ?_
  refine zp_kn (k := 18) (a := (A 0)) hwξ (show zp_fd 13 18 = some (12, 0, 0, (-2147483648), 2147483647) from rfl) rfl (zM_P hMξ (List.mem_of_getElem? (i := 0) rfl)) (fun hf219ξ => ?_)
  have hf219bξ := zp_int hf219ξ
  rw [((zp_set_ne (Or.inr (by decide))).trans (((zM_G hMξ (List.mem_of_getElem? (i := 0) rfl) 18).trans (hVξ 0 18 (Or.inr (by decide))))))] at hf219bξ
  clear hf219ξ
  refine zp_iret (pc := 9) (n := (V 0 18)) hx hb hEξ hQξ hU5ξ rfl (by decide) (zd_X12_fault (9, .ireturn, 1, 0, []) (List.mem_of_getElem? (i := 5) rfl)) (j := 0) rfl (zp_o0 (by omega) (by omega) (by omega) (by omega)) ?_
  rw [hpsξ]
  refine ⟨rfl, ?_⟩
  have hffξ : zf_fau V = ((V 0 18), (zp_set V 0 0 0)) := rfl
  show zMVr A (zf_fau V).2 u.1 (zp_set (zp_n u.2.1) (A 0) 0 0) ∧ (V 0 18) = (zf_fau V).1
  rw [hffξ]
  exact ⟨⟨(zp_set M 0 0 0), (zM_set hMξ (List.mem_of_getElem? (i := 0) rfl) (by decide)), (zV_set hVξ), (zSb_set (by decide) hSbξ)⟩, rfl⟩
noncomputable def zf_dut (V : Nat → Nat → Int) : Int × (Nat → Nat → Int) := ((V 0 11), (zp_set V 0 0 0))
noncomputable def zK_dut : zk_K := (zt_mn 204, prog_14_method_31_code, 1, (Option.some Jvm.ClassFile.FieldType.int), 1, 12, [(2, 13, 0, 0)], [(some (0, 0, (-2147483648), 2147483647), [])], zUE, (3, 180, 0, 0))
noncomputable def zφ_dut (A : Nat → Nat) (V : Nat → Nat → Int) : (Nat → Option Nat) → (Nat → Nat → Int) → List Int → Prop := fun P G ps => zMVr A V P G ∧ ps.getD 0 0 = (A 0 : Int)
noncomputable def zψ_dut (A : Nat → Nat) (V : Nat → Nat → Int) : (Nat → Option Nat) → (Nat → Nat → Int) → List Int → (Nat → Option Nat) → (Nat → Nat → Int) → Int → Prop := fun P G ps P' G' rn => P' = P ∧ zMVr A (zf_dut V).2 P' G' ∧ rn = (zf_dut V).1
theorem zX_dut {l : Launch} {w : zk_W} (hWξ : zh_W w) (A : Nat → Nat) (V : Nat → Nat → Int) : zk_metX l w zt_dv zt_TB zK_dut (zp_A (zφ_dut A V)) (zp_B (zψ_dut A V)) ∧ zk_cok w zt_TB zK_dut := by
  refine zp_methX (cn := "WoundTownModel") zp_lkall hWξ (pl := 1652) rfl (by decide +kernel) (fun p e R s m args below meth c Q u hx hb hEξ hQξ hU5ξ heffξ hnLξ hokξ hφ => ?_)
  have hwξ := hWξ.1
  obtain ⟨p0ξ, hpsξ, tk0⟩ := zp_ps1 hokξ
  have hrmξ : zk_Kr (zk_ev (zt_types, zp_lk, zt_dv, [], [], zp_lc, zK_dut)) = zk_Kr zK_dut := rfl
  rw [hpsξ] at hφ ⊢
  have hφ : zMVr A V u.1 (zp_n u.2.1) ∧ p0ξ = (A 0 : Int) := hφ
  obtain ⟨⟨M, hMξ, hVξ, hSbξ⟩, rfl⟩ := hφ
  show zp_J p l e R s m args below meth c Q w u [] 0 [(0, 2, (A 0 : Int))] [] u.1 (zp_n u.2.1)
  refine zp_load (pc := 0) hx hb (zd_X12_dust (0, .aload_n 0, 1, 0, []) (List.mem_of_getElem? (i := 0) rfl)) rfl (j := 0) rfl ?_
  refine zp_const (pc := 1) hx hb (zd_X12_dust (1, .iconst 0, 1, 0, []) (List.mem_of_getElem? (i := 1) rfl)) rfl rfl ?_
  refine zp_putf (pc := 2) hx hb hEξ hwξ heffξ (zd_X12_dust (2, .putfield 161, 3, 0, []) (List.mem_of_getElem? (i := 2) rfl)) (j := 18) rfl rfl rfl (zM_P hMξ (List.mem_of_getElem? (i := 0) rfl)) (zp_o0 (by decide) (by decide) (by decide) (by decide)) ?_
  refine zp_load (pc := 5) hx hb (zd_X12_dust (5, .aload_n 0, 1, 0, []) (List.mem_of_getElem? (i := 3) rfl)) rfl (j := 0) rfl ?_
  refine zp_getf (n := (V 0 11)) (pc := 6) hx hb hEξ hwξ (zd_X12_dust (6, .getfield 231, 3, 0, []) (List.mem_of_getElem? (i := 4) rfl)) (j := 29) rfl rfl rfl (zM_P hMξ (List.mem_of_getElem? (i := 0) rfl)) ((zp_set_ne (Or.inr (by decide))).trans (((zM_G hMξ (List.mem_of_getElem? (i := 0) rfl) 11).trans (hVξ 0 11 (Or.inr (by decide)))))) ?_
  refine zp_kn (k := 11) (a := (A 0)) hwξ (show zp_fd 13 11 = some (12, 0, 0, (-2147483648), 2147483647) from rfl) rfl (zM_P hMξ (List.mem_of_getElem? (i := 0) rfl)) (fun hf220ξ => ?_)
  have hf220bξ := zp_int hf220ξ
  rw [((zp_set_ne (Or.inr (by decide))).trans (((zM_G hMξ (List.mem_of_getElem? (i := 0) rfl) 11).trans (hVξ 0 11 (Or.inr (by decide))))))] at hf220bξ
  clear hf220ξ
  refine zp_iret (pc := 9) (n := (V 0 11)) hx hb hEξ hQξ hU5ξ rfl (by decide) (zd_X12_dust (9, .ireturn, 1, 0, []) (List.mem_of_getElem? (i := 5) rfl)) (j := 0) rfl (zp_o0 (by omega) (by omega) (by omega) (by omega)) ?_
  rw [hpsξ]
  refine ⟨rfl, ?_⟩
  have hffξ : zf_dut V = ((V 0 11), (zp_set V 0 0 0)) := rfl
  show zMVr A (zf_dut V).2 u.1 (zp_set (zp_n u.2.1) (A 0) 0 0) ∧ (V 0 11) = (zf_dut V).1
  rw [hffξ]
  exact ⟨⟨(zp_set M 0 0 0), (zM_set hMξ (List.mem_of_getElem? (i := 0) rfl) (by decide)), (zV_set hVξ), (zSb_set (by decide) hSbξ)⟩, rfl⟩