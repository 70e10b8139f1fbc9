/-! part h8ξ: the reference over logical cells: at, count -/
noncomputable def zf_atr (V : Nat → Nat → Int) (n1ξ : Nat) (p1ξ : Int) (p2ξ : Int) : Int × (Nat → Nat → Int) := if 0 ≤ p1ξ ∧ p1ξ < (n1ξ : Int) then if 0 ≤ p2ξ ∧ p2ξ ≤ 5 then if ¬ p2ξ = 5 then if p2ξ = 0 then ((V 3 (2000 + (5 * p1ξ.toNat + 39))), (zp_set V 0 0 0)) else if p2ξ = 1 then ((V 3 (2000 + (5 * p1ξ.toNat + 40))), (zp_set V 0 0 0)) else if p2ξ = 2 then ((V 3 (2000 + (5 * p1ξ.toNat + 41))), (zp_set V 0 0 0)) else if p2ξ = 3 then ((V 3 (2000 + (5 * p1ξ.toNat + 42))), (zp_set V 0 0 0)) else ((V 3 (2000 + (5 * p1ξ.toNat + 43))), (zp_set V 0 0 0)) else ((V 3 (2000 + (p1ξ.toNat + 29))), (zp_set V 0 0 0)) else ((-1), (zp_set V 0 0 0)) else ((-1), (zp_set V 0 0 0))
noncomputable def zK_atr : zk_K := (zt_mn 201, prog_14_method_28_code, 3, (Option.some Jvm.ClassFile.FieldType.int), 1, 12, [(2, 13, 0, 0), (0, 0, (-2147483648), 2147483647), (0, 0, (-2147483648), 2147483647)], [(some (0, 0, (-2147483648), 2147483647), [])], zUE, (3, 180, 0, 0))
noncomputable def zφ_atr (A : Nat → Nat) (V : Nat → Nat → Int) (n1ξ : Nat) : (Nat → Option Nat) → (Nat → Nat → Int) → List Int → Prop := fun P G ps => zMVr A V P G ∧ ps.getD 0 0 = (A 0 : Int) ∧ (∀ j, j < 5580 → -2147483648 ≤ V 3 (2000 + j) ∧ V 3 (2000 + j) ≤ 2147483647) ∧ V 3 (2000 + 1) = (n1ξ : Int) ∧ n1ξ ≤ 10
noncomputable def zψ_atr (A : Nat → Nat) (V : Nat → Nat → Int) (n1ξ : Nat) : (Nat → Option Nat) → (Nat → Nat → Int) → List Int → (Nat → Option Nat) → (Nat → Nat → Int) → Int → Prop := fun P G ps P' G' rn => P' = P ∧ zMVr A (zf_atr V n1ξ (ps.getD 1 0) (ps.getD 2 0)).2 P' G' ∧ rn = (zf_atr V n1ξ (ps.getD 1 0) (ps.getD 2 0)).1
theorem zX_atr {l : Launch} {w : zk_W} (hWξ : zh_W w) (A : Nat → Nat) (V : Nat → Nat → Int) (n1ξ : Nat) : zk_metX l w zt_dv zt_TB zK_atr (zp_A (zφ_atr A V n1ξ)) (zp_B (zψ_atr A V n1ξ)) ∧ zk_cok w zt_TB zK_atr := by
  refine zp_methX (cn := "WoundTownModel") zp_lkall hWξ (pl := 1638) rfl (by decide +kernel) (fun p e R s m args below meth c Q u hx hb hEξ hQξ hU5ξ heffξ hnLξ hokξ hφ => ?_)
  have hwξ := hWξ.1
  obtain ⟨p0ξ, p1ξ, p2ξ, hpsξ, tk0, tk1, tk2⟩ := zp_ps3 hokξ
  have hrmξ : zk_Kr (zk_ev (zt_types, zp_lk, zt_dv, [], [], zp_lc, zK_atr)) = zk_Kr zK_atr := rfl
  rw [hpsξ] at hφ ⊢
  have hφ : zMVr A V u.1 (zp_n u.2.1) ∧ p0ξ = (A 0 : Int) ∧ (∀ j, j < 5580 → -2147483648 ≤ V 3 (2000 + j) ∧ V 3 (2000 + j) ≤ 2147483647) ∧ V 3 (2000 + 1) = (n1ξ : Int) ∧ n1ξ ≤ 10 := hφ
  obtain ⟨⟨M, hMξ, hVξ, hSbξ⟩, rfl, hRξ, hn1ξ, hn10ξ⟩ := hφ
  have hi1ξ := zp_int tk1
  have hi2ξ := zp_int tk2
  show zp_J p l e R s m args below meth c Q w u [] 0 [(0, 2, (A 0 : Int)), (1, 0, p1ξ), (2, 0, p2ξ)] [] u.1 (zp_n u.2.1)
  refine zp_load (pc := 0) hx hb (zd_X12_at (0, .aload_n 0, 1, 0, []) (List.mem_of_getElem? (i := 0) rfl)) rfl (j := 0) rfl ?_
  refine zp_const (pc := 1) hx hb (zd_X12_at (1, .iconst 0, 1, 0, []) (List.mem_of_getElem? (i := 1) rfl)) rfl rfl ?_
  refine zp_putf (pc := 2) hx hb hEξ hwξ heffξ (zd_X12_at (2, .putfield 161, 3, 0, []) (List.mem_of_getElem? (i := 2) rfl)) (j := 18) rfl rfl rfl (zM_P hMξ (List.mem_of_getElem? (i := 0) rfl)) (zp_o0 (by decide) (by decide) (by decide) (by decide)) ?_
  refine zp_load (pc := 5) hx hb (zd_X12_at (5, .aload_n 0, 1, 0, []) (List.mem_of_getElem? (i := 3) rfl)) rfl (j := 0) rfl ?_
  refine zp_load (pc := 6) hx hb (zd_X12_at (6, .iload_n 1, 1, 0, []) (List.mem_of_getElem? (i := 4) rfl)) rfl (j := 1) rfl ?_
  refine zp_call (pc := 7) (how := 0) (idx := 217) (mi := 200) (S := []) hx hb hEξ hwξ heffξ hrmξ (zX_isw hWξ A (zp_set M 0 0 0)) rfl (j := 10) rfl rfl (by decide +kernel) (zd_X12_at (7, .invokevirtual 217, 3, 0, []) (List.mem_of_getElem? (i := 5) rfl)) [(A 0 : Int), p1ξ] rfl ⟨zp_o2 (zM_P hMξ (List.mem_of_getElem? (i := 0) rfl)), zp_o0 (by omega) (by omega) (by omega) (by omega), trivial⟩ (Nat.le_of_ble_eq_true rfl) ⟨(zM_set hMξ (List.mem_of_getElem? (i := 0) rfl) (by decide)), rfl, (show -2147483647 ≤ (zp_set M 0 0 0) 3 (2000 + 1) ∧ (zp_set M 0 0 0) 3 (2000 + 1) ≤ 2147483647 by rw [((zp_set_ne (Or.inl (by decide))).trans (((hVξ 3 (2000 + 1) (Or.inl (by decide))).trans hn1ξ)))]; omega)⟩ (fun al halξ rni371ξ Pi371 Gi371 hexti371ξ hfri371ξ hoki371ξ hcsi371ξ hpsii371ξ => ?_)
  obtain rfl := List.mem_singleton.mp halξ
  have hri371ξ := zp_int (hoki371ξ _ rfl).1
  obtain ⟨hPei371ξ, hGei371ξ, hti371ξ⟩ := hpsii371ξ
  rw [hPei371ξ, hGei371ξ]
  clear hexti371ξ hfri371ξ hcsi371ξ hPei371ξ hGei371ξ
  have hti371ξ : rni371ξ = 1 ↔ 0 ≤ p1ξ ∧ p1ξ < (n1ξ : Int) := by
    have h9ξ : rni371ξ = 1 ↔ 0 ≤ p1ξ ∧ p1ξ < (zp_set M 0 0 0) 3 (2000 + 1) := hti371ξ
    rw [((zp_set_ne (Or.inl (by decide))).trans (((hVξ 3 (2000 + 1) (Or.inl (by decide))).trans hn1ξ)))] at h9ξ
    exact h9ξ
  refine zp_if (pc := 10) (tgt := 25) hx hb (zd_X12_at (10, .ifCond .eq 15, 3, 0, []) (List.mem_of_getElem? (i := 6) rfl)) rfl (fun (hc372ξ : rni371ξ = 0) => ?_) (fun (hc372ξ : ¬ (rni371ξ = 0)) => ?_)
  · have hbf373ξ : ¬ (0 ≤ p1ξ ∧ p1ξ < (n1ξ : Int)) := fun h9ξ => absurd ((Iff.mpr hti371ξ) h9ξ) (by omega)
    refine zp_const (pc := 25) hx hb (zd_X12_at (25, .iconst (-1), 1, 0, []) (List.mem_of_getElem? (i := 13) rfl)) rfl rfl ?_
    refine zp_iret (pc := 26) (n := (-1)) hx hb hEξ hQξ hU5ξ rfl (by decide) (zd_X12_at (26, .ireturn, 1, 0, []) (List.mem_of_getElem? (i := 14) rfl)) (j := 0) rfl (zp_o0 (by omega) (by omega) (by omega) (by omega)) ?_
    rw [hpsξ]
    refine ⟨rfl, ?_⟩
    have hffξ : zf_atr V n1ξ p1ξ p2ξ = ((-1), (zp_set V 0 0 0)) := by
      unfold zf_atr
      rw [if_neg (fun h9ξ => absurd ((Iff.mpr hti371ξ) h9ξ) (by omega))]
    show zMVr A (zf_atr V n1ξ p1ξ p2ξ).2 u.1 (zp_set (zp_n u.2.1) (A 0) 0 0) ∧ (-1) = (zf_atr V n1ξ p1ξ p2ξ).1
    rw [hffξ]
    exact ⟨⟨(zp_set M 0 0 0), (zM_set hMξ (List.mem_of_getElem? (i := 0) rfl) (by decide)), (zV_set hVξ), (zSb_set (by decide) hSbξ)⟩, rfl⟩
  · have hbt374ξ := (Iff.mp hti371ξ) (by omega)
    refine zp_load (pc := 13) hx hb (zd_X12_at (13, .iload_n 2, 1, 0, []) (List.mem_of_getElem? (i := 7) rfl)) rfl (j := 2) rfl ?_
    refine zp_i2l (pc := 14) hx hb (zd_X12_at (14, .i2l, 1, 0, []) (List.mem_of_getElem? (i := 8) rfl)) ?_
    refine zp_const (pc := 15) hx hb (zd_X12_at (15, .lconst 0, 1, 0, []) (List.mem_of_getElem? (i := 9) rfl)) rfl rfl ?_
    refine zp_ldc2 (pc := 16) hx hb hEξ (zd_X12_at (16, .ldc2_w 224, 3, 0, []) (List.mem_of_getElem? (i := 10) rfl)) (j := 88) rfl ?_
    refine zp_call (pc := 19) (how := 1) (idx := 181) (mi := 186) (S := []) hx hb hEξ hwξ heffξ hrmξ (zX_in2 hWξ) rfl (j := 2) rfl rfl (by decide +kernel) (zd_X12_at (19, .invokestatic 181, 3, 0, []) (List.mem_of_getElem? (i := 11) rfl)) [p2ξ, 0, 5] rfl ⟨zp_o1 (by first | assumption | exact zp_r1 (by omega) (by omega)), zp_o1 (by first | assumption | exact zp_r1 (by omega) (by omega)), zp_o1 (by first | assumption | exact zp_r1 (by omega) (by omega)), trivial⟩ (Nat.le_of_ble_eq_true rfl) trivial (fun al halξ rnn375ξ Pn375 Gn375 hextn375ξ hfrn375ξ hokn375ξ hcsn375ξ hpsin375ξ => ?_)
    obtain rfl := List.mem_singleton.mp halξ
    have hrn375ξ := zp_int (hokn375ξ _ rfl).1
    obtain ⟨hPen375ξ, hGen375ξ, htn375ξ⟩ := hpsin375ξ
    rw [hPen375ξ, hGen375ξ]
    clear hextn375ξ hfrn375ξ hcsn375ξ hPen375ξ hGen375ξ
    have htn375ξ : rnn375ξ = 1 ↔ 0 ≤ p2ξ ∧ p2ξ ≤ 5 := htn375ξ
    refine zp_if (pc := 22) (tgt := 27) hx hb (zd_X12_at (22, .ifCond .ne 5, 3, 0, []) (List.mem_of_getElem? (i := 12) rfl)) rfl (fun (hc376ξ : ¬ rnn375ξ = 0) => ?_) (fun (hc376ξ : ¬ (¬ rnn375ξ = 0)) => ?_)
    · have hbt377ξ := (Iff.mp htn375ξ) (by omega)
      refine zp_load (pc := 27) hx hb (zd_X12_at (27, .iload_n 2, 1, 0, []) (List.mem_of_getElem? (i := 15) rfl)) rfl (j := 2) rfl ?_
      refine zp_const (pc := 28) hx hb (zd_X12_at (28, .iconst 5, 1, 0, []) (List.mem_of_getElem? (i := 16) rfl)) rfl rfl ?_
      refine zp_icmp (pc := 29) (tgt := 44) hx hb (zd_X12_at (29, .if_icmp .ne 15, 3, 0, []) (List.mem_of_getElem? (i := 17) rfl)) rfl (fun (hc379ξ : ¬ p2ξ = 5) => ?_) (fun (hc379ξ : ¬ (¬ p2ξ = 5)) => ?_)
      · by_cases hc380ξ : p2ξ = 0
        · rw [hc380ξ]
          refine zp_load (pc := 44) hx hb (zd_X12_at (44, .aload_n 0, 1, 0, []) (List.mem_of_getElem? (i := 25) rfl)) rfl (j := 0) rfl ?_
          refine zp_load (pc := 45) hx hb (zd_X12_at (45, .iload_n 1, 1, 0, []) (List.mem_of_getElem? (i := 26) rfl)) rfl (j := 1) rfl ?_
          refine zp_load (pc := 46) hx hb (zd_X12_at (46, .iload_n 2, 1, 0, []) (List.mem_of_getElem? (i := 27) rfl)) rfl (j := 2) rfl ?_
          have hr382ξ := hRξ (5 * p1ξ.toNat + 39) (by omega)
          refine zp_call (pc := 47) (how := 0) (idx := 188) (mi := 196) (S := []) hx hb hEξ hwξ heffξ hrmξ (zX_ofw hWξ A (zp_set M 0 0 0) p1ξ.toNat 0) rfl (j := 7) rfl rfl (by decide +kernel) (zd_X12_at (47, .invokevirtual 188, 3, 0, []) (List.mem_of_getElem? (i := 28) rfl)) [(A 0 : Int), p1ξ, 0] rfl ⟨zp_o2 (zM_P hMξ (List.mem_of_getElem? (i := 0) rfl)), zp_o0 (by omega) (by omega) (by omega) (by omega), zp_o0 (by decide) (by decide) (by decide) (by decide), trivial⟩ (Nat.le_of_ble_eq_true rfl) ⟨(zM_set hMξ (List.mem_of_getElem? (i := 0) rfl) (by decide)), rfl, (show p1ξ = ((p1ξ.toNat : Nat) : Int) by omega), rfl, (show -2147483648 ≤ (zp_set M 0 0 0) 3 (2000 + (5 * p1ξ.toNat + 39)) ∧ (zp_set M 0 0 0) 3 (2000 + (5 * p1ξ.toNat + 39)) ≤ 2147483647 by rw [((zp_set_ne (Or.inl (by decide))).trans ((hVξ 3 (2000 + (5 * p1ξ.toNat + 39)) (Or.inl (by decide)))))]; omega)⟩ (fun al halξ rnf381ξ Pf381 Gf381 hextf381ξ hfrf381ξ hokf381ξ hcsf381ξ hpsif381ξ => ?_)
          obtain rfl := List.mem_singleton.mp halξ
          have hrf381ξ := zp_int (hokf381ξ _ rfl).1
          obtain ⟨hPef381ξ, hGef381ξ, htf381ξ⟩ := hpsif381ξ
          rw [hPef381ξ, hGef381ξ]
          clear hextf381ξ hfrf381ξ hcsf381ξ hPef381ξ hGef381ξ
          have htf381ξ : rnf381ξ = (V 3 (2000 + (5 * p1ξ.toNat + 39))) := (Eq.trans htf381ξ) (((zp_set_ne (Or.inl (by decide))).trans ((hVξ 3 (2000 + (5 * p1ξ.toNat + 39)) (Or.inl (by decide))))))
          have htf381ξ := (Eq.symm htf381ξ)
          subst htf381ξ
          refine zp_iret (pc := 50) (n := (V 3 (2000 + (5 * p1ξ.toNat + 39)))) hx hb hEξ hQξ hU5ξ rfl (by decide) (zd_X12_at (50, .ireturn, 1, 0, []) (List.mem_of_getElem? (i := 29) rfl)) (j := 0) rfl (zp_o0 (by omega) (by omega) (by omega) (by omega)) ?_
          rw [hpsξ]
          refine ⟨rfl, ?_⟩
          have hffξ : zf_atr V n1ξ p1ξ p2ξ = ((V 3 (2000 + (5 * p1ξ.toNat + 39))), (zp_set V 0 0 0)) := by
            unfold zf_atr
            rw [if_pos ((Iff.mp hti371ξ) (by omega)), if_pos ((Iff.mp htn375ξ) (by omega)), if_pos hc379ξ, if_pos hc380ξ]
          show zMVr A (zf_atr V n1ξ p1ξ p2ξ).2 u.1 (zp_set (zp_n u.2.1) (A 0) 0 0) ∧ (V 3 (2000 + (5 * p1ξ.toNat + 39))) = (zf_atr V n1ξ p1ξ p2ξ).1
          rw [hffξ]
          exact ⟨⟨(zp_set M 0 0 0), (zM_set hMξ (List.mem_of_getElem? (i := 0) rfl) (by decide)), (zV_set hVξ), (zSb_set (by decide) hSbξ)⟩, rfl⟩
        by_cases hc383ξ : p2ξ = 1
        · rw [hc383ξ]
          refine zp_load (pc := 44) hx hb (zd_X12_at (44, .aload_n 0, 1, 0, []) (List.mem_of_getElem? (i := 25) rfl)) rfl (j := 0) rfl ?_
          refine zp_load (pc := 45) hx hb (zd_X12_at (45, .iload_n 1, 1, 0, []) (List.mem_of_getElem? (i := 26) rfl)) rfl (j := 1) rfl ?_
          refine zp_load (pc := 46) hx hb (zd_X12_at (46, .iload_n 2, 1, 0, []) (List.mem_of_getElem? (i := 27) rfl)) rfl (j := 2) rfl ?_
          have hr385ξ := hRξ (5 * p1ξ.toNat + 40) (by omega)
          refine zp_call (pc := 47) (how := 0) (idx := 188) (mi := 196) (S := []) hx hb hEξ hwξ heffξ hrmξ (zX_ofw hWξ A (zp_set M 0 0 0) p1ξ.toNat 1) rfl (j := 7) rfl rfl (by decide +kernel) (zd_X12_at (47, .invokevirtual 188, 3, 0, []) (List.mem_of_getElem? (i := 28) rfl)) [(A 0 : Int), p1ξ, 1] rfl ⟨zp_o2 (zM_P hMξ (List.mem_of_getElem? (i := 0) rfl)), zp_o0 (by omega) (by omega) (by omega) (by omega), zp_o0 (by decide) (by decide) (by decide) (by decide), trivial⟩ (Nat.le_of_ble_eq_true rfl) ⟨(zM_set hMξ (List.mem_of_getElem? (i := 0) rfl) (by decide)), rfl, (show p1ξ = ((p1ξ.toNat : Nat) : Int) by omega), rfl, (show -2147483648 ≤ (zp_set M 0 0 0) 3 (2000 + (5 * p1ξ.toNat + 40)) ∧ (zp_set M 0 0 0) 3 (2000 + (5 * p1ξ.toNat + 40)) ≤ 2147483647 by rw [((zp_set_ne (Or.inl (by decide))).trans ((hVξ 3 (2000 + (5 * p1ξ.toNat + 40)) (Or.inl (by decide)))))]; omega)⟩ (fun al halξ rnf384ξ Pf384 Gf384 hextf384ξ hfrf384ξ hokf384ξ hcsf384ξ hpsif384ξ => ?_)
          obtain rfl := List.mem_singleton.mp halξ
          have hrf384ξ := zp_int (hokf384ξ _ rfl).1
          obtain ⟨hPef384ξ, hGef384ξ, htf384ξ⟩ := hpsif384ξ
          rw [hPef384ξ, hGef384ξ]
          clear hextf384ξ hfrf384ξ hcsf384ξ hPef384ξ hGef384ξ
          have htf384ξ : rnf384ξ = (V 3 (2000 + (5 * p1ξ.toNat + 40))) := (Eq.trans htf384ξ) (((zp_set_ne (Or.inl (by decide))).trans ((hVξ 3 (2000 + (5 * p1ξ.toNat + 40)) (Or.inl (by decide))))))
          have htf384ξ := (Eq.symm htf384ξ)
          subst htf384ξ
          refine zp_iret (pc := 50) (n := (V 3 (2000 + (5 * p1ξ.toNat + 40)))) hx hb hEξ hQξ hU5ξ rfl (by decide) (zd_X12_at (50, .ireturn, 1, 0, []) (List.mem_of_getElem? (i := 29) rfl)) (j := 0) rfl (zp_o0 (by omega) (by omega) (by omega) (by omega)) ?_
          rw [hpsξ]
          refine ⟨rfl, ?_⟩
          have hffξ : zf_atr V n1ξ p1ξ p2ξ = ((V 3 (2000 + (5 * p1ξ.toNat + 40))), (zp_set V 0 0 0)) := by
            unfold zf_atr
            rw [if_pos ((Iff.mp hti371ξ) (by omega)), if_pos ((Iff.mp htn375ξ) (by omega)), if_pos hc379ξ, if_neg hc380ξ, if_pos hc383ξ]
          show zMVr A (zf_atr V n1ξ p1ξ p2ξ).2 u.1 (zp_set (zp_n u.2.1) (A 0) 0 0) ∧ (V 3 (2000 + (5 * p1ξ.toNat + 40))) = (zf_atr V n1ξ p1ξ p2ξ).1
          rw [hffξ]
          exact ⟨⟨(zp_set M 0 0 0), (zM_set hMξ (List.mem_of_getElem? (i := 0) rfl) (by decide)), (zV_set hVξ), (zSb_set (by decide) hSbξ)⟩, rfl⟩
        by_cases hc386ξ : p2ξ = 2
        · rw [hc386ξ]
          refine zp_load (pc := 44) hx hb (zd_X12_at (44, .aload_n 0, 1, 0, []) (List.mem_of_getElem? (i := 25) rfl)) rfl (j := 0) rfl ?_
          refine zp_load (pc := 45) hx hb (zd_X12_at (45, .iload_n 1, 1, 0, []) (List.mem_of_getElem? (i := 26) rfl)) rfl (j := 1) rfl ?_
          refine zp_load (pc := 46) hx hb (zd_X12_at (46, .iload_n 2, 1, 0, []) (List.mem_of_getElem? (i := 27) rfl)) rfl (j := 2) rfl ?_
          have hr388ξ := hRξ (5 * p1ξ.toNat + 41) (by omega)
          refine zp_call (pc := 47) (how := 0) (idx := 188) (mi := 196) (S := []) hx hb hEξ hwξ heffξ hrmξ (zX_ofw hWξ A (zp_set M 0 0 0) p1ξ.toNat 2) rfl (j := 7) rfl rfl (by decide +kernel) (zd_X12_at (47, .invokevirtual 188, 3, 0, []) (List.mem_of_getElem? (i := 28) rfl)) [(A 0 : Int), p1ξ, 2] rfl ⟨zp_o2 (zM_P hMξ (List.mem_of_getElem? (i := 0) rfl)), zp_o0 (by omega) (by omega) (by omega) (by omega), zp_o0 (by decide) (by decide) (by decide) (by decide), trivial⟩ (Nat.le_of_ble_eq_true rfl) ⟨(zM_set hMξ (List.mem_of_getElem? (i := 0) rfl) (by decide)), rfl, (show p1ξ = ((p1ξ.toNat : Nat) : Int) by omega), rfl, (show -2147483648 ≤ (zp_set M 0 0 0) 3 (2000 + (5 * p1ξ.toNat + 41)) ∧ (zp_set M 0 0 0) 3 (2000 + (5 * p1ξ.toNat + 41)) ≤ 2147483647 by rw [((zp_set_ne (Or.inl (by decide))).trans ((hVξ 3 (2000 + (5 * p1ξ.toNat + 41)) (Or.inl (by decide)))))]; omega)⟩ (fun al halξ rnf387ξ Pf387 Gf387 hextf387ξ hfrf387ξ hokf387ξ hcsf387ξ hpsif387ξ => ?_)
          obtain rfl := List.mem_singleton.mp halξ
          have hrf387ξ := zp_int (hokf387ξ _ rfl).1
          obtain ⟨hPef387ξ, hGef387ξ, htf387ξ⟩ := hpsif387ξ
          rw [hPef387ξ, hGef387ξ]
          clear hextf387ξ hfrf387ξ hcsf387ξ hPef387ξ hGef387ξ
          have htf387ξ : rnf387ξ = (V 3 (2000 + (5 * p1ξ.toNat + 41))) := (Eq.trans htf387ξ) (((zp_set_ne (Or.inl (by decide))).trans ((hVξ 3 (2000 + (5 * p1ξ.toNat + 41)) (Or.inl (by decide))))))
          have htf387ξ := (Eq.symm htf387ξ)
          subst htf387ξ
          refine zp_iret (pc := 50) (n := (V 3 (2000 + (5 * p1ξ.toNat + 41)))) hx hb hEξ hQξ hU5ξ rfl (by decide) (zd_X12_at (50, .ireturn, 1, 0, []) (List.mem_of_getElem? (i := 29) rfl)) (j := 0) rfl (zp_o0 (by omega) (by omega) (by omega) (by omega)) ?_
          rw [hpsξ]
          refine ⟨rfl, ?_⟩
          have hffξ : zf_atr V n1ξ p1ξ p2ξ = ((V 3 (2000 + (5 * p1ξ.toNat + 41))), (zp_set V 0 0 0)) := by
            unfold zf_atr
            rw [if_pos ((Iff.mp hti371ξ) (by omega)), if_pos ((Iff.mp htn375ξ) (by omega)), if_pos hc379ξ, if_neg hc380ξ, if_neg hc383ξ, if_pos hc386ξ]
          show zMVr A (zf_atr V n1ξ p1ξ p2ξ).2 u.1 (zp_set (zp_n u.2.1) (A 0) 0 0) ∧ (V 3 (2000 + (5 * p1ξ.toNat + 41))) = (zf_atr V n1ξ p1ξ p2ξ).1
          rw [hffξ]
          exact ⟨⟨(zp_set M 0 0 0), (zM_set hMξ (List.mem_of_getElem? (i := 0) rfl) (by decide)), (zV_set hVξ), (zSb_set (by decide) hSbξ)⟩, rfl⟩
        by_cases hc389ξ : p2ξ = 3
        · rw [hc389ξ]
          refine zp_load (pc := 44) hx hb (zd_X12_at (44, .aload_n 0, 1, 0, []) (List.mem_of_getElem? (i := 25) rfl)) rfl (j := 0) rfl ?_
          refine zp_load (pc := 45) hx hb (zd_X12_at (45, .iload_n 1, 1, 0, []) (List.mem_of_getElem? (i := 26) rfl)) rfl (j := 1) rfl ?_
          refine zp_load (pc := 46) hx hb (zd_X12_at (46, .iload_n 2, 1, 0, []) (List.mem_of_getElem? (i := 27) rfl)) rfl (j := 2) rfl ?_
          have hr391ξ := hRξ (5 * p1ξ.toNat + 42) (by omega)
          refine zp_call (pc := 47) (how := 0) (idx := 188) (mi := 196) (S := []) hx hb hEξ hwξ heffξ hrmξ (zX_ofw hWξ A (zp_set M 0 0 0) p1ξ.toNat 3) rfl (j := 7) rfl rfl (by decide +kernel) (zd_X12_at (47, .invokevirtual 188, 3, 0, []) (List.mem_of_getElem? (i := 28) rfl)) [(A 0 : Int), p1ξ, 3] rfl ⟨zp_o2 (zM_P hMξ (List.mem_of_getElem? (i := 0) rfl)), zp_o0 (by omega) (by omega) (by omega) (by omega), zp_o0 (by decide) (by decide) (by decide) (by decide), trivial⟩ (Nat.le_of_ble_eq_true rfl) ⟨(zM_set hMξ (List.mem_of_getElem? (i := 0) rfl) (by decide)), rfl, (show p1ξ = ((p1ξ.toNat : Nat) : Int) by omega), rfl, (show -2147483648 ≤ (zp_set M 0 0 0) 3 (2000 + (5 * p1ξ.toNat + 42)) ∧ (zp_set M 0 0 0) 3 (2000 + (5 * p1ξ.toNat + 42)) ≤ 2147483647 by rw [((zp_set_ne (Or.inl (by decide))).trans ((hVξ 3 (2000 + (5 * p1ξ.toNat + 42)) (Or.inl (by decide)))))]; omega)⟩ (fun al halξ rnf390ξ Pf390 Gf390 hextf390ξ hfrf390ξ hokf390ξ hcsf390ξ hpsif390ξ => ?_)
          obtain rfl := List.mem_singleton.mp halξ
          have hrf390ξ := zp_int (hokf390ξ _ rfl).1
          obtain ⟨hPef390ξ, hGef390ξ, htf390ξ⟩ := hpsif390ξ
          rw [hPef390ξ, hGef390ξ]
          clear hextf390ξ hfrf390ξ hcsf390ξ hPef390ξ hGef390ξ
          have htf390ξ : rnf390ξ = (V 3 (2000 + (5 * p1ξ.toNat + 42))) := (Eq.trans htf390ξ) (((zp_set_ne (Or.inl (by decide))).trans ((hVξ 3 (2000 + (5 * p1ξ.toNat + 42)) (Or.inl (by decide))))))
          have htf390ξ := (Eq.symm htf390ξ)
          subst htf390ξ
          refine zp_iret (pc := 50) (n := (V 3 (2000 + (5 * p1ξ.toNat + 42)))) hx hb hEξ hQξ hU5ξ rfl (by decide) (zd_X12_at (50, .ireturn, 1, 0, []) (List.mem_of_getElem? (i := 29) rfl)) (j := 0) rfl (zp_o0 (by omega) (by omega) (by omega) (by omega)) ?_
          rw [hpsξ]
          refine ⟨rfl, ?_⟩
          have hffξ : zf_atr V n1ξ p1ξ p2ξ = ((V 3 (2000 + (5 * p1ξ.toNat + 42))), (zp_set V 0 0 0)) := by
            unfold zf_atr
            rw [if_pos ((Iff.mp hti371ξ) (by omega)), if_pos ((Iff.mp htn375ξ) (by omega)), if_pos hc379ξ, if_neg hc380ξ, if_neg hc383ξ, if_neg hc386ξ, if_pos hc389ξ]
          show zMVr A (zf_atr V n1ξ p1ξ p2ξ).2 u.1 (zp_set (zp_n u.2.1) (A 0) 0 0) ∧ (V 3 (2000 + (5 * p1ξ.toNat + 42))) = (zf_atr V n1ξ p1ξ p2ξ).1
          rw [hffξ]
          exact ⟨⟨(zp_set M 0 0 0), (zM_set hMξ (List.mem_of_getElem? (i := 0) rfl) (by decide)), (zV_set hVξ), (zSb_set (by decide) hSbξ)⟩, rfl⟩
        have hc392ξ : p2ξ = 4 := by omega
        rw [hc392ξ]
        refine zp_load (pc := 44) hx hb (zd_X12_at (44, .aload_n 0, 1, 0, []) (List.mem_of_getElem? (i := 25) rfl)) rfl (j := 0) rfl ?_
        refine zp_load (pc := 45) hx hb (zd_X12_at (45, .iload_n 1, 1, 0, []) (List.mem_of_getElem? (i := 26) rfl)) rfl (j := 1) rfl ?_
        refine zp_load (pc := 46) hx hb (zd_X12_at (46, .iload_n 2, 1, 0, []) (List.mem_of_getElem? (i := 27) rfl)) rfl (j := 2) rfl ?_
        have hr394ξ := hRξ (5 * p1ξ.toNat + 43) (by omega)
        refine zp_call (pc := 47) (how := 0) (idx := 188) (mi := 196) (S := []) hx hb hEξ hwξ heffξ hrmξ (zX_ofw hWξ A (zp_set M 0 0 0) p1ξ.toNat 4) rfl (j := 7) rfl rfl (by decide +kernel) (zd_X12_at (47, .invokevirtual 188, 3, 0, []) (List.mem_of_getElem? (i := 28) rfl)) [(A 0 : Int), p1ξ, 4] rfl ⟨zp_o2 (zM_P hMξ (List.mem_of_getElem? (i := 0) rfl)), zp_o0 (by omega) (by omega) (by omega) (by omega), zp_o0 (by decide) (by decide) (by decide) (by decide), trivial⟩ (Nat.le_of_ble_eq_true rfl) ⟨(zM_set hMξ (List.mem_of_getElem? (i := 0) rfl) (by decide)), rfl, (show p1ξ = ((p1ξ.toNat : Nat) : Int) by omega), rfl, (show -2147483648 ≤ (zp_set M 0 0 0) 3 (2000 + (5 * p1ξ.toNat + 43)) ∧ (zp_set M 0 0 0) 3 (2000 + (5 * p1ξ.toNat + 43)) ≤ 2147483647 by rw [((zp_set_ne (Or.inl (by decide))).trans ((hVξ 3 (2000 + (5 * p1ξ.toNat + 43)) (Or.inl (by decide)))))]; omega)⟩ (fun al halξ rnf393ξ Pf393 Gf393 hextf393ξ hfrf393ξ hokf393ξ hcsf393ξ hpsif393ξ => ?_)
        obtain rfl := List.mem_singleton.mp halξ
        have hrf393ξ := zp_int (hokf393ξ _ rfl).1
        obtain ⟨hPef393ξ, hGef393ξ, htf393ξ⟩ := hpsif393ξ
        rw [hPef393ξ, hGef393ξ]
        clear hextf393ξ hfrf393ξ hcsf393ξ hPef393ξ hGef393ξ
        have htf393ξ : rnf393ξ = (V 3 (2000 + (5 * p1ξ.toNat + 43))) := (Eq.trans htf393ξ) (((zp_set_ne (Or.inl (by decide))).trans ((hVξ 3 (2000 + (5 * p1ξ.toNat + 43)) (Or.inl (by decide))))))
        have htf393ξ := (Eq.symm htf393ξ)
        subst htf393ξ
        refine zp_iret (pc := 50) (n := (V 3 (2000 + (5 * p1ξ.toNat + 43)))) hx hb hEξ hQξ hU5ξ rfl (by decide) (zd_X12_at (50, .ireturn, 1, 0, []) (List.mem_of_getElem? (i := 29) rfl)) (j := 0) rfl (zp_o0 (by omega) (by omega) (by omega) (by omega)) ?_
        rw [hpsξ]
        refine ⟨rfl, ?_⟩
        have hffξ : zf_atr V n1ξ p1ξ p2ξ = ((V 3 (2000 + (5 * p1ξ.toNat + 43))), (zp_set V 0 0 0)) := by
          unfold zf_atr
          rw [if_pos ((Iff.mp hti371ξ) (by omega)), if_pos ((Iff.mp htn375ξ) (by omega)), if_pos hc379ξ, if_neg hc380ξ, if_neg hc383ξ, if_neg hc386ξ, if_neg hc389ξ]
        show zMVr A (zf_atr V n1ξ p1ξ p2ξ).2 u.1 (zp_set (zp_n u.2.1) (A 0) 0 0) ∧ (V 3 (2000 + (5 * p1ξ.toNat + 43))) = (zf_atr V n1ξ p1ξ p2ξ).1
        rw [hffξ]
        exact ⟨⟨(zp_set M 0 0 0), (zM_set hMξ (List.mem_of_getElem? (i := 0) rfl) (by decide)), (zV_set hVξ), (zSb_set (by decide) hSbξ)⟩, rfl⟩
      · refine zp_load (pc := 32) hx hb (zd_X12_at (32, .aload_n 0, 1, 0, []) (List.mem_of_getElem? (i := 18) rfl)) rfl (j := 0) rfl ?_
        refine zp_getf (n := (A 3 : Int)) (pc := 33) hx hb hEξ hwξ (zd_X12_at (33, .getfield 13, 3, 0, []) (List.mem_of_getElem? (i := 19) rfl)) (j := 21) rfl rfl rfl (zM_P hMξ (List.mem_of_getElem? (i := 0) rfl)) ((zp_set_ne (Or.inr (by decide))).trans (((zM_G hMξ (List.mem_of_getElem? (i := 0) rfl) 3).trans (zM_F hMξ (List.mem_of_getElem? (i := 1) rfl))))) ?_
        refine zp_const (pc := 36) hx hb (zd_X12_at (36, .bipush 29, 2, 0, []) (List.mem_of_getElem? (i := 20) rfl)) rfl rfl ?_
        refine zp_load (pc := 38) hx hb (zd_X12_at (38, .iload_n 1, 1, 0, []) (List.mem_of_getElem? (i := 21) rfl)) rfl (j := 1) rfl ?_
        refine zp_add (n := (29 + p1ξ)) (pc := 39) hx hb (zd_X12_at (39, .iadd, 1, 0, []) (List.mem_of_getElem? (i := 22) rfl)) (by omega) (zp_r0 (by omega) (by omega)) ?_
        refine zp_ialdT (j := (p1ξ.toNat + 29)) (v := (V 3 (2000 + (p1ξ.toNat + 29)))) (pc := 40) hx hb hwξ (zd_X12_at (40, .iaload, 1, 0, []) (List.mem_of_getElem? (i := 23) rfl)) zl_T59 rfl (zl_kd ((p1ξ.toNat + 29))) (zM_P hMξ (List.mem_of_getElem? (i := 2) rfl)) (by omega) (show (p1ξ.toNat + 29) < 5580 by omega) ((zp_set_ne (Or.inl (zM_ne hMξ (List.mem_of_getElem? (i := 2) rfl) (List.mem_of_getElem? (i := 0) rfl) (by decide)))).trans (((zM_G hMξ (List.mem_of_getElem? (i := 2) rfl) (2000 + (p1ξ.toNat + 29))).trans (hVξ 3 (2000 + (p1ξ.toNat + 29)) (Or.inl (by decide)))))) (fun _ => ?_)
        have hr396ξ := hRξ (p1ξ.toNat + 29) (by omega)
        refine zp_goto (tgt := 50) (pc := 41) hx hb (zd_X12_at (41, .goto 9, 3, 0, []) (List.mem_of_getElem? (i := 24) rfl)) rfl ?_
        refine zp_iret (pc := 50) (n := (V 3 (2000 + (p1ξ.toNat + 29)))) hx hb hEξ hQξ hU5ξ rfl (by decide) (zd_X12_at (50, .ireturn, 1, 0, []) (List.mem_of_getElem? (i := 29) rfl)) (j := 0) rfl (zp_o0 (by omega) (by omega) (by omega) (by omega)) ?_
        rw [hpsξ]
        refine ⟨rfl, ?_⟩
        have hffξ : zf_atr V n1ξ p1ξ p2ξ = ((V 3 (2000 + (p1ξ.toNat + 29))), (zp_set V 0 0 0)) := by
          unfold zf_atr
          rw [if_pos ((Iff.mp hti371ξ) (by omega)), if_pos ((Iff.mp htn375ξ) (by omega)), if_neg hc379ξ]
        show zMVr A (zf_atr V n1ξ p1ξ p2ξ).2 u.1 (zp_set (zp_n u.2.1) (A 0) 0 0) ∧ (V 3 (2000 + (p1ξ.toNat + 29))) = (zf_atr V n1ξ p1ξ p2ξ).1
        rw [hffξ]
        exact ⟨⟨(zp_set M 0 0 0), (zM_set hMξ (List.mem_of_getElem? (i := 0) rfl) (by decide)), (zV_set hVξ), (zSb_set (by decide) hSbξ)⟩, rfl⟩
    · have hbf378ξ : ¬ (0 ≤ p2ξ ∧ p2ξ ≤ 5) := fun h9ξ => absurd ((Iff.mpr htn375ξ) h9ξ) (by omega)
      refine zp_const (pc := 25) hx hb (zd_X12_at (25, .iconst (-1), 1, 0, []) (List.mem_of_getElem? (i := 13) rfl)) rfl rfl ?_
      refine zp_iret (pc := 26) (n := (-1)) hx hb hEξ hQξ hU5ξ rfl (by decide) (zd_X12_at (26, .ireturn, 1, 0, []) (List.mem_of_getElem? (i := 14) rfl)) (j := 0) rfl (zp_o0 (by omega) (by omega) (by omega) (by omega)) ?_
      rw [hpsξ]
      refine ⟨rfl, ?_⟩
      have hffξ : zf_atr V n1ξ p1ξ p2ξ = ((-1), (zp_set V 0 0 0)) := by
        unfold zf_atr
        rw [if_pos ((Iff.mp hti371ξ) (by omega)), if_neg (fun h9ξ => absurd ((Iff.mpr htn375ξ) h9ξ) (by omega))]
      show zMVr A (zf_atr V n1ξ p1ξ p2ξ).2 u.1 (zp_set (zp_n u.2.1) (A 0) 0 0) ∧ (-1) = (zf_atr V n1ξ p1ξ p2ξ).1
      rw [hffξ]
      exact ⟨⟨(zp_set M 0 0 0), (zM_set hMξ (List.mem_of_getElem? (i := 0) rfl) (by decide)), (zV_set hVξ), (zSb_set (by decide) hSbξ)⟩, rfl⟩
noncomputable def zf_cnt (V : Nat → Nat → Int) (p1ξ : Int) : Int × (Nat → Nat → Int) := if p1ξ = 0 then ((V 3 (2000 + 0)), (zp_set V 0 0 0)) else if p1ξ = 1 then ((V 3 (2000 + 1)), (zp_set V 0 0 0)) else if p1ξ = 2 then ((V 3 (2000 + 2)), (zp_set V 0 0 0)) else if p1ξ = 3 then ((V 3 (2000 + 3)), (zp_set V 0 0 0)) else if p1ξ = 4 then ((V 0 8), (zp_set V 0 0 0)) else if p1ξ = 5 then ((V 0 13), (zp_set V 0 0 0)) else if p1ξ = 6 then ((V 2 (2000 + 1)), (zp_set V 0 0 0)) else if p1ξ = 7 then ((V 2 (2000 + 2)), (zp_set V 0 0 0)) else if p1ξ = 8 then ((V 2 (2000 + 3)), (zp_set V 0 0 0)) else if p1ξ = 9 then ((V 2 (2000 + 5)), (zp_set V 0 0 0)) else if p1ξ = 10 then ((V 2 (2000 + 6)), (zp_set V 0 0 0)) else if p1ξ = 11 then ((V 3 (2000 + 4)), (zp_set V 0 0 0)) else if p1ξ = 12 then ((V 3 (2000 + 8)), (zp_set V 0 0 0)) else if p1ξ = 13 then ((V 3 (2000 + 9)), (zp_set V 0 0 0)) else if p1ξ = 14 then ((V 3 (2000 + 10)), (zp_set V 0 0 0)) else if 15 ≤ p1ξ ∧ p1ξ ≤ 17 then ((V 3 (2000 + (((5 + p1ξ) - 15)).toNat)), (zp_set V 0 0 0)) else ((-1), (zp_set V 0 0 0))
noncomputable def zK_cnt : zk_K := (zt_mn 298, prog_14_method_119_code, 2, (Option.some Jvm.ClassFile.FieldType.int), 1, 12, [(2, 13, 0, 0), (0, 0, (-2147483648), 2147483647)], [(some (0, 0, (-2147483648), 2147483647), [])], zUE, (3, 180, 0, 0))
noncomputable def zφ_cnt (A : Nat → Nat) (V : Nat → Nat → Int) : (Nat → Option Nat) → (Nat → Nat → Int) → List Int → Prop := fun P G ps => zMVr A V P G ∧ ps.getD 0 0 = (A 0 : Int) ∧ (∀ j, j < 5580 → -2147483648 ≤ V 3 (2000 + j) ∧ V 3 (2000 + j) ≤ 2147483647)
noncomputable def zψ_cnt (A : Nat → Nat) (V : Nat → Nat → Int) : (Nat → Option Nat) → (Nat → Nat → Int) → List Int → (Nat → Option Nat) → (Nat → Nat → Int) → Int → Prop := fun P G ps P' G' rn => P' = P ∧ zMVr A (zf_cnt V (ps.getD 1 0)).2 P' G' ∧ rn = (zf_cnt V (ps.getD 1 0)).1
theorem zX_cnt {l : Launch} {w : zk_W} (hWξ : zh_W w) (A : Nat → Nat) (V : Nat → Nat → Int) : zk_metX l w zt_dv zt_TB zK_cnt (zp_A (zφ_cnt A V)) (zp_B (zψ_cnt A V)) ∧ zk_cok w zt_TB zK_cnt := by
  refine zp_methX (cn := "WoundTownModel") zp_lkall hWξ (pl := 2056) rfl (by decide +kernel) (fun p e R s m args below meth c Q u hx hb hEξ hQξ hU5ξ heffξ hnLξ hokξ hφ => ?_)
  have hwξ := hWξ.1
  obtain ⟨p0ξ, p1ξ, hpsξ, tk0, tk1⟩ := zp_ps2 hokξ
  have hrmξ : zk_Kr (zk_ev (zt_types, zp_lk, zt_dv, [], [], zp_lc, zK_cnt)) = zk_Kr zK_cnt := rfl
  rw [hpsξ] at hφ ⊢
  have hφ : zMVr A V u.1 (zp_n u.2.1) ∧ p0ξ = (A 0 : Int) ∧ (∀ j, j < 5580 → -2147483648 ≤ V 3 (2000 + j) ∧ V 3 (2000 + j) ≤ 2147483647) := hφ
  obtain ⟨⟨M, hMξ, hVξ, hSbξ⟩, rfl, hRξ⟩ := hφ
  have hi1ξ := zp_int tk1
  show zp_J p l e R s m args below meth c Q w u [] 0 [(0, 2, (A 0 : Int)), (1, 0, p1ξ)] [] u.1 (zp_n u.2.1)
  refine zp_load (pc := 0) hx hb (zd_X12_count (0, .aload_n 0, 1, 0, []) (List.mem_of_getElem? (i := 0) rfl)) rfl (j := 0) rfl ?_
  refine zp_const (pc := 1) hx hb (zd_X12_count (1, .iconst 0, 1, 0, []) (List.mem_of_getElem? (i := 1) rfl)) rfl rfl ?_
  refine zp_putf (pc := 2) hx hb hEξ hwξ heffξ (zd_X12_count (2, .putfield 161, 3, 0, []) (List.mem_of_getElem? (i := 2) rfl)) (j := 18) rfl rfl rfl (zM_P hMξ (List.mem_of_getElem? (i := 0) rfl)) (zp_o0 (by decide) (by decide) (by decide) (by decide)) ?_
  refine zp_load (pc := 5) hx hb (zd_X12_count (5, .iload_n 1, 1, 0, []) (List.mem_of_getElem? (i := 3) rfl)) rfl (j := 1) rfl ?_
  by_cases hc397ξ : p1ξ = 0
  · refine zp_tin (tgt := 80) (off := 74) (pc := 6) hx hb (zd_X12_count (6, .tableswitch 179 0 14 #[74, 81, 88, 95, 102, 107, 112, 119, 126, 133, 140, 148, 155, 163, 171], 74, 0, []) (List.mem_of_getElem? (i := 4) rfl)) (by rw [hc397ξ]; decide) (by rw [hc397ξ]; decide) (by rw [hc397ξ]; decide) rfl ?_
    refine zp_load (pc := 80) hx hb (zd_X12_count (80, .aload_n 0, 1, 0, []) (List.mem_of_getElem? (i := 5) rfl)) rfl (j := 0) rfl ?_
    refine zp_getf (n := (A 3 : Int)) (pc := 81) hx hb hEξ hwξ (zd_X12_count (81, .getfield 13, 3, 0, []) (List.mem_of_getElem? (i := 6) rfl)) (j := 21) rfl rfl rfl (zM_P hMξ (List.mem_of_getElem? (i := 0) rfl)) ((zp_set_ne (Or.inr (by decide))).trans (((zM_G hMξ (List.mem_of_getElem? (i := 0) rfl) 3).trans (zM_F hMξ (List.mem_of_getElem? (i := 1) rfl))))) ?_
    refine zp_const (pc := 84) hx hb (zd_X12_count (84, .iconst 0, 1, 0, []) (List.mem_of_getElem? (i := 7) rfl)) rfl rfl ?_
    refine zp_ialdT (j := 0) (v := (V 3 (2000 + 0))) (pc := 85) hx hb hwξ (zd_X12_count (85, .iaload, 1, 0, []) (List.mem_of_getElem? (i := 8) rfl)) zl_T59 rfl (zl_kd 0) (zM_P hMξ (List.mem_of_getElem? (i := 2) rfl)) (by omega) (show 0 < 5580 by omega) ((zp_set_ne (Or.inl (zM_ne hMξ (List.mem_of_getElem? (i := 2) rfl) (List.mem_of_getElem? (i := 0) rfl) (by decide)))).trans (((zM_G hMξ (List.mem_of_getElem? (i := 2) rfl) (2000 + 0)).trans (hVξ 3 (2000 + 0) (Or.inl (by decide)))))) (fun _ => ?_)
    have hr399ξ := hRξ 0 (by omega)
    refine zp_iret (pc := 86) (n := (V 3 (2000 + 0))) hx hb hEξ hQξ hU5ξ rfl (by decide) (zd_X12_count (86, .ireturn, 1, 0, []) (List.mem_of_getElem? (i := 9) rfl)) (j := 0) rfl (zp_o0 (by omega) (by omega) (by omega) (by omega)) ?_
    rw [hpsξ]
    refine ⟨rfl, ?_⟩
    have hffξ : zf_cnt V p1ξ = ((V 3 (2000 + 0)), (zp_set V 0 0 0)) := by
      unfold zf_cnt
      rw [if_pos hc397ξ]
    show zMVr A (zf_cnt V p1ξ).2 u.1 (zp_set (zp_n u.2.1) (A 0) 0 0) ∧ (V 3 (2000 + 0)) = (zf_cnt V p1ξ).1
    rw [hffξ]
    exact ⟨⟨(zp_set M 0 0 0), (zM_set hMξ (List.mem_of_getElem? (i := 0) rfl) (by decide)), (zV_set hVξ), (zSb_set (by decide) hSbξ)⟩, rfl⟩
  by_cases hc400ξ : p1ξ = 1
  · refine zp_tin (tgt := 87) (off := 81) (pc := 6) hx hb (zd_X12_count (6, .tableswitch 179 0 14 #[74, 81, 88, 95, 102, 107, 112, 119, 126, 133, 140, 148, 155, 163, 171], 74, 0, []) (List.mem_of_getElem? (i := 4) rfl)) (by rw [hc400ξ]; decide) (by rw [hc400ξ]; decide) (by rw [hc400ξ]; decide) rfl ?_
    refine zp_load (pc := 87) hx hb (zd_X12_count (87, .aload_n 0, 1, 0, []) (List.mem_of_getElem? (i := 10) rfl)) rfl (j := 0) rfl ?_
    refine zp_getf (n := (A 3 : Int)) (pc := 88) hx hb hEξ hwξ (zd_X12_count (88, .getfield 13, 3, 0, []) (List.mem_of_getElem? (i := 11) rfl)) (j := 21) rfl rfl rfl (zM_P hMξ (List.mem_of_getElem? (i := 0) rfl)) ((zp_set_ne (Or.inr (by decide))).trans (((zM_G hMξ (List.mem_of_getElem? (i := 0) rfl) 3).trans (zM_F hMξ (List.mem_of_getElem? (i := 1) rfl))))) ?_
    refine zp_const (pc := 91) hx hb (zd_X12_count (91, .iconst 1, 1, 0, []) (List.mem_of_getElem? (i := 12) rfl)) rfl rfl ?_
    refine zp_ialdT (j := 1) (v := (V 3 (2000 + 1))) (pc := 92) hx hb hwξ (zd_X12_count (92, .iaload, 1, 0, []) (List.mem_of_getElem? (i := 13) rfl)) zl_T59 rfl (zl_kd 1) (zM_P hMξ (List.mem_of_getElem? (i := 2) rfl)) (by omega) (show 1 < 5580 by omega) ((zp_set_ne (Or.inl (zM_ne hMξ (List.mem_of_getElem? (i := 2) rfl) (List.mem_of_getElem? (i := 0) rfl) (by decide)))).trans (((zM_G hMξ (List.mem_of_getElem? (i := 2) rfl) (2000 + 1)).trans (hVξ 3 (2000 + 1) (Or.inl (by decide)))))) (fun _ => ?_)
    have hr402ξ := hRξ 1 (by omega)
    refine zp_iret (pc := 93) (n := (V 3 (2000 + 1))) hx hb hEξ hQξ hU5ξ rfl (by decide) (zd_X12_count (93, .ireturn, 1, 0, []) (List.mem_of_getElem? (i := 14) rfl)) (j := 0) rfl (zp_o0 (by omega) (by omega) (by omega) (by omega)) ?_
    rw [hpsξ]
    refine ⟨rfl, ?_⟩
    have hffξ : zf_cnt V p1ξ = ((V 3 (2000 + 1)), (zp_set V 0 0 0)) := by
      unfold zf_cnt
      rw [if_neg hc397ξ, if_pos hc400ξ]
    show zMVr A (zf_cnt V p1ξ).2 u.1 (zp_set (zp_n u.2.1) (A 0) 0 0) ∧ (V 3 (2000 + 1)) = (zf_cnt V p1ξ).1
    rw [hffξ]
    exact ⟨⟨(zp_set M 0 0 0), (zM_set hMξ (List.mem_of_getElem? (i := 0) rfl) (by decide)), (zV_set hVξ), (zSb_set (by decide) hSbξ)⟩, rfl⟩
  by_cases hc403ξ : p1ξ = 2
  · refine zp_tin (tgt := 94) (off := 88) (pc := 6) hx hb (zd_X12_count (6, .tableswitch 179 0 14 #[74, 81, 88, 95, 102, 107, 112, 119, 126, 133, 140, 148, 155, 163, 171], 74, 0, []) (List.mem_of_getElem? (i := 4) rfl)) (by rw [hc403ξ]; decide) (by rw [hc403ξ]; decide) (by rw [hc403ξ]; decide) rfl ?_
    refine zp_load (pc := 94) hx hb (zd_X12_count (94, .aload_n 0, 1, 0, []) (List.mem_of_getElem? (i := 15) rfl)) rfl (j := 0) rfl ?_
    refine zp_getf (n := (A 3 : Int)) (pc := 95) hx hb hEξ hwξ (zd_X12_count (95, .getfield 13, 3, 0, []) (List.mem_of_getElem? (i := 16) rfl)) (j := 21) rfl rfl rfl (zM_P hMξ (List.mem_of_getElem? (i := 0) rfl)) ((zp_set_ne (Or.inr (by decide))).trans (((zM_G hMξ (List.mem_of_getElem? (i := 0) rfl) 3).trans (zM_F hMξ (List.mem_of_getElem? (i := 1) rfl))))) ?_
    refine zp_const (pc := 98) hx hb (zd_X12_count (98, .iconst 2, 1, 0, []) (List.mem_of_getElem? (i := 17) rfl)) rfl rfl ?_
    refine zp_ialdT (j := 2) (v := (V 3 (2000 + 2))) (pc := 99) hx hb hwξ (zd_X12_count (99, .iaload, 1, 0, []) (List.mem_of_getElem? (i := 18) rfl)) zl_T59 rfl (zl_kd 2) (zM_P hMξ (List.mem_of_getElem? (i := 2) rfl)) (by omega) (show 2 < 5580 by omega) ((zp_set_ne (Or.inl (zM_ne hMξ (List.mem_of_getElem? (i := 2) rfl) (List.mem_of_getElem? (i := 0) rfl) (by decide)))).trans (((zM_G hMξ (List.mem_of_getElem? (i := 2) rfl) (2000 + 2)).trans (hVξ 3 (2000 + 2) (Or.inl (by decide)))))) (fun _ => ?_)
    have hr405ξ := hRξ 2 (by omega)
    refine zp_iret (pc := 100) (n := (V 3 (2000 + 2))) hx hb hEξ hQξ hU5ξ rfl (by decide) (zd_X12_count (100, .ireturn, 1, 0, []) (List.mem_of_getElem? (i := 19) rfl)) (j := 0) rfl (zp_o0 (by omega) (by omega) (by omega) (by omega)) ?_
    rw [hpsξ]
    refine ⟨rfl, ?_⟩
    have hffξ : zf_cnt V p1ξ = ((V 3 (2000 + 2)), (zp_set V 0 0 0)) := by
      unfold zf_cnt
      rw [if_neg hc397ξ, if_neg hc400ξ, if_pos hc403ξ]
    show zMVr A (zf_cnt V p1ξ).2 u.1 (zp_set (zp_n u.2.1) (A 0) 0 0) ∧ (V 3 (2000 + 2)) = (zf_cnt V p1ξ).1
    rw [hffξ]
    exact ⟨⟨(zp_set M 0 0 0), (zM_set hMξ (List.mem_of_getElem? (i := 0) rfl) (by decide)), (zV_set hVξ), (zSb_set (by decide) hSbξ)⟩, rfl⟩
  by_cases hc406ξ : p1ξ = 3
  · refine zp_tin (tgt := 101) (off := 95) (pc := 6) hx hb (zd_X12_count (6, .tableswitch 179 0 14 #[74, 81, 88, 95, 102, 107, 112, 119, 126, 133, 140, 148, 155, 163, 171], 74, 0, []) (List.mem_of_getElem? (i := 4) rfl)) (by rw [hc406ξ]; decide) (by rw [hc406ξ]; decide) (by rw [hc406ξ]; decide) rfl ?_
    refine zp_load (pc := 101) hx hb (zd_X12_count (101, .aload_n 0, 1, 0, []) (List.mem_of_getElem? (i := 20) rfl)) rfl (j := 0) rfl ?_
    refine zp_getf (n := (A 3 : Int)) (pc := 102) hx hb hEξ hwξ (zd_X12_count (102, .getfield 13, 3, 0, []) (List.mem_of_getElem? (i := 21) rfl)) (j := 21) rfl rfl rfl (zM_P hMξ (List.mem_of_getElem? (i := 0) rfl)) ((zp_set_ne (Or.inr (by decide))).trans (((zM_G hMξ (List.mem_of_getElem? (i := 0) rfl) 3).trans (zM_F hMξ (List.mem_of_getElem? (i := 1) rfl))))) ?_
    refine zp_const (pc := 105) hx hb (zd_X12_count (105, .iconst 3, 1, 0, []) (List.mem_of_getElem? (i := 22) rfl)) rfl rfl ?_
    refine zp_ialdT (j := 3) (v := (V 3 (2000 + 3))) (pc := 106) hx hb hwξ (zd_X12_count (106, .iaload, 1, 0, []) (List.mem_of_getElem? (i := 23) rfl)) zl_T59 rfl (zl_kd 3) (zM_P hMξ (List.mem_of_getElem? (i := 2) rfl)) (by omega) (show 3 < 5580 by omega) ((zp_set_ne (Or.inl (zM_ne hMξ (List.mem_of_getElem? (i := 2) rfl) (List.mem_of_getElem? (i := 0) rfl) (by decide)))).trans (((zM_G hMξ (List.mem_of_getElem? (i := 2) rfl) (2000 + 3)).trans (hVξ 3 (2000 + 3) (Or.inl (by decide)))))) (fun _ => ?_)
    have hr408ξ := hRξ 3 (by omega)
    refine zp_iret (pc := 107) (n := (V 3 (2000 + 3))) hx hb hEξ hQξ hU5ξ rfl (by decide) (zd_X12_count (107, .ireturn, 1, 0, []) (List.mem_of_getElem? (i := 24) rfl)) (j := 0) rfl (zp_o0 (by omega) (by omega) (by omega) (by omega)) ?_
    rw [hpsξ]
    refine ⟨rfl, ?_⟩
    have hffξ : zf_cnt V p1ξ = ((V 3 (2000 + 3)), (zp_set V 0 0 0)) := by
      unfold zf_cnt
      rw [if_neg hc397ξ, if_neg hc400ξ, if_neg hc403ξ, if_pos hc406ξ]
    show zMVr A (zf_cnt V p1ξ).2 u.1 (zp_set (zp_n u.2.1) (A 0) 0 0) ∧ (V 3 (2000 + 3)) = (zf_cnt V p1ξ).1
    rw [hffξ]
    exact ⟨⟨(zp_set M 0 0 0), (zM_set hMξ (List.mem_of_getElem? (i := 0) rfl) (by decide)), (zV_set hVξ), (zSb_set (by decide) hSbξ)⟩, rfl⟩
  by_cases hc409ξ : p1ξ = 4
  · refine zp_tin (tgt := 108) (off := 102) (pc := 6) hx hb (zd_X12_count (6, .tableswitch 179 0 14 #[74, 81, 88, 95, 102, 107, 112, 119, 126, 133, 140, 148, 155, 163, 171], 74, 0, []) (List.mem_of_getElem? (i := 4) rfl)) (by rw [hc409ξ]; decide) (by rw [hc409ξ]; decide) (by rw [hc409ξ]; decide) rfl ?_
    refine zp_load (pc := 108) hx hb (zd_X12_count (108, .aload_n 0, 1, 0, []) (List.mem_of_getElem? (i := 25) rfl)) rfl (j := 0) rfl ?_
    refine zp_getf (n := (V 0 8)) (pc := 109) hx hb hEξ hwξ (zd_X12_count (109, .getfield 167, 3, 0, []) (List.mem_of_getElem? (i := 26) rfl)) (j := 26) rfl rfl rfl (zM_P hMξ (List.mem_of_getElem? (i := 0) rfl)) ((zp_set_ne (Or.inr (by decide))).trans (((zM_G hMξ (List.mem_of_getElem? (i := 0) rfl) 8).trans (hVξ 0 8 (Or.inr (by decide)))))) ?_
    refine zp_kn (k := 8) (a := (A 0)) hwξ (show zp_fd 13 8 = some (12, 0, 0, 0, 16) from rfl) rfl (zM_P hMξ (List.mem_of_getElem? (i := 0) rfl)) (fun hf410ξ => ?_)
    have hf410bξ := zp_int hf410ξ
    rw [((zp_set_ne (Or.inr (by decide))).trans (((zM_G hMξ (List.mem_of_getElem? (i := 0) rfl) 8).trans (hVξ 0 8 (Or.inr (by decide))))))] at hf410bξ
    clear hf410ξ
    refine zp_iret (pc := 112) (n := (V 0 8)) hx hb hEξ hQξ hU5ξ rfl (by decide) (zd_X12_count (112, .ireturn, 1, 0, []) (List.mem_of_getElem? (i := 27) rfl)) (j := 0) rfl (zp_o0 (by omega) (by omega) (by omega) (by omega)) ?_
    rw [hpsξ]
    refine ⟨rfl, ?_⟩
    have hffξ : zf_cnt V p1ξ = ((V 0 8), (zp_set V 0 0 0)) := by
      unfold zf_cnt
      rw [if_neg hc397ξ, if_neg hc400ξ, if_neg hc403ξ, if_neg hc406ξ, if_pos hc409ξ]
    show zMVr A (zf_cnt V p1ξ).2 u.1 (zp_set (zp_n u.2.1) (A 0) 0 0) ∧ (V 0 8) = (zf_cnt V p1ξ).1
    rw [hffξ]
    exact ⟨⟨(zp_set M 0 0 0), (zM_set hMξ (List.mem_of_getElem? (i := 0) rfl) (by decide)), (zV_set hVξ), (zSb_set (by decide) hSbξ)⟩, rfl⟩
  by_cases hc411ξ : p1ξ = 5
  · refine zp_tin (tgt := 113) (off := 107) (pc := 6) hx hb (zd_X12_count (6, .tableswitch 179 0 14 #[74, 81, 88, 95, 102, 107, 112, 119, 126, 133, 140, 148, 155, 163, 171], 74, 0, []) (List.mem_of_getElem? (i := 4) rfl)) (by rw [hc411ξ]; decide) (by rw [hc411ξ]; decide) (by rw [hc411ξ]; decide) rfl ?_
    refine zp_load (pc := 113) hx hb (zd_X12_count (113, .aload_n 0, 1, 0, []) (List.mem_of_getElem? (i := 28) rfl)) rfl (j := 0) rfl ?_
    refine zp_getf (n := (V 0 13)) (pc := 114) hx hb hEξ hwξ (zd_X12_count (114, .getfield 228, 3, 0, []) (List.mem_of_getElem? (i := 29) rfl)) (j := 31) rfl rfl rfl (zM_P hMξ (List.mem_of_getElem? (i := 0) rfl)) ((zp_set_ne (Or.inr (by decide))).trans (((zM_G hMξ (List.mem_of_getElem? (i := 0) rfl) 13).trans (hVξ 0 13 (Or.inr (by decide)))))) ?_
    refine zp_kn (k := 13) (a := (A 0)) hwξ (show zp_fd 13 13 = some (12, 0, 0, 0, 400) from rfl) rfl (zM_P hMξ (List.mem_of_getElem? (i := 0) rfl)) (fun hf412ξ => ?_)
    have hf412bξ := zp_int hf412ξ
    rw [((zp_set_ne (Or.inr (by decide))).trans (((zM_G hMξ (List.mem_of_getElem? (i := 0) rfl) 13).trans (hVξ 0 13 (Or.inr (by decide))))))] at hf412bξ
    clear hf412ξ
    refine zp_iret (pc := 117) (n := (V 0 13)) hx hb hEξ hQξ hU5ξ rfl (by decide) (zd_X12_count (117, .ireturn, 1, 0, []) (List.mem_of_getElem? (i := 30) rfl)) (j := 0) rfl (zp_o0 (by omega) (by omega) (by omega) (by omega)) ?_
    rw [hpsξ]
    refine ⟨rfl, ?_⟩
    have hffξ : zf_cnt V p1ξ = ((V 0 13), (zp_set V 0 0 0)) := by
      unfold zf_cnt
      rw [if_neg hc397ξ, if_neg hc400ξ, if_neg hc403ξ, if_neg hc406ξ, if_neg hc409ξ, if_pos hc411ξ]
    show zMVr A (zf_cnt V p1ξ).2 u.1 (zp_set (zp_n u.2.1) (A 0) 0 0) ∧ (V 0 13) = (zf_cnt V p1ξ).1
    rw [hffξ]
    exact ⟨⟨(zp_set M 0 0 0), (zM_set hMξ (List.mem_of_getElem? (i := 0) rfl) (by decide)), (zV_set hVξ), (zSb_set (by decide) hSbξ)⟩, rfl⟩
  by_cases hc413ξ : p1ξ = 6
  · refine zp_tin (tgt := 118) (off := 112) (pc := 6) hx hb (zd_X12_count (6, .tableswitch 179 0 14 #[74, 81, 88, 95, 102, 107, 112, 119, 126, 133, 140, 148, 155, 163, 171], 74, 0, []) (List.mem_of_getElem? (i := 4) rfl)) (by rw [hc413ξ]; decide) (by rw [hc413ξ]; decide) (by rw [hc413ξ]; decide) rfl ?_
    refine zp_load (pc := 118) hx hb (zd_X12_count (118, .aload_n 0, 1, 0, []) (List.mem_of_getElem? (i := 31) rfl)) rfl (j := 0) rfl ?_
    refine zp_getf (n := (A 2 : Int)) (pc := 119) hx hb hEξ hwξ (zd_X12_count (119, .getfield 7, 3, 0, []) (List.mem_of_getElem? (i := 32) rfl)) (j := 20) rfl rfl rfl (zM_P hMξ (List.mem_of_getElem? (i := 0) rfl)) ((zp_set_ne (Or.inr (by decide))).trans (((zM_G hMξ (List.mem_of_getElem? (i := 0) rfl) 2).trans (zM_F hMξ (List.mem_of_getElem? (i := 0) rfl))))) ?_
    refine zp_const (pc := 122) hx hb (zd_X12_count (122, .iconst 1, 1, 0, []) (List.mem_of_getElem? (i := 33) rfl)) rfl rfl ?_
    refine zp_iald (j := 1) (v := (V 2 (2000 + 1))) (pc := 123) hx hb hwξ (zd_X12_count (123, .iaload, 1, 0, []) (List.mem_of_getElem? (i := 34) rfl)) (show zp_ia 1 58 = some (7, 0, 0, (-2147483648), 2147483647) from rfl) (zM_P hMξ (List.mem_of_getElem? (i := 1) rfl)) (by omega) (by omega) ((zp_set_ne (Or.inl (zM_ne hMξ (List.mem_of_getElem? (i := 1) rfl) (List.mem_of_getElem? (i := 0) rfl) (by decide)))).trans (((zM_G hMξ (List.mem_of_getElem? (i := 1) rfl) (2000 + 1)).trans (hVξ 2 (2000 + 1) (Or.inl (by decide)))))) (fun hk414ξ => ?_)
    have hk414bξ := zp_int hk414ξ
    clear hk414ξ
    refine zp_iret (pc := 124) (n := (V 2 (2000 + 1))) hx hb hEξ hQξ hU5ξ rfl (by decide) (zd_X12_count (124, .ireturn, 1, 0, []) (List.mem_of_getElem? (i := 35) rfl)) (j := 0) rfl (zp_o0 (by omega) (by omega) (by omega) (by omega)) ?_
    rw [hpsξ]
    refine ⟨rfl, ?_⟩
    have hffξ : zf_cnt V p1ξ = ((V 2 (2000 + 1)), (zp_set V 0 0 0)) := by
      unfold zf_cnt
      rw [if_neg hc397ξ, if_neg hc400ξ, if_neg hc403ξ, if_neg hc406ξ, if_neg hc409ξ, if_neg hc411ξ, if_pos hc413ξ]
    show zMVr A (zf_cnt V p1ξ).2 u.1 (zp_set (zp_n u.2.1) (A 0) 0 0) ∧ (V 2 (2000 + 1)) = (zf_cnt V p1ξ).1
    rw [hffξ]
    exact ⟨⟨(zp_set M 0 0 0), (zM_set hMξ (List.mem_of_getElem? (i := 0) rfl) (by decide)), (zV_set hVξ), (zSb_set (by decide) hSbξ)⟩, rfl⟩
  by_cases hc415ξ : p1ξ = 7
  · refine zp_tin (tgt := 125) (off := 119) (pc := 6) hx hb (zd_X12_count (6, .tableswitch 179 0 14 #[74, 81, 88, 95, 102, 107, 112, 119, 126, 133, 140, 148, 155, 163, 171], 74, 0, []) (List.mem_of_getElem? (i := 4) rfl)) (by rw [hc415ξ]; decide) (by rw [hc415ξ]; decide) (by rw [hc415ξ]; decide) rfl ?_
    refine zp_load (pc := 125) hx hb (zd_X12_count (125, .aload_n 0, 1, 0, []) (List.mem_of_getElem? (i := 36) rfl)) rfl (j := 0) rfl ?_
    refine zp_getf (n := (A 2 : Int)) (pc := 126) hx hb hEξ hwξ (zd_X12_count (126, .getfield 7, 3, 0, []) (List.mem_of_getElem? (i := 37) rfl)) (j := 20) rfl rfl rfl (zM_P hMξ (List.mem_of_getElem? (i := 0) rfl)) ((zp_set_ne (Or.inr (by decide))).trans (((zM_G hMξ (List.mem_of_getElem? (i := 0) rfl) 2).trans (zM_F hMξ (List.mem_of_getElem? (i := 0) rfl))))) ?_
    refine zp_const (pc := 129) hx hb (zd_X12_count (129, .iconst 2, 1, 0, []) (List.mem_of_getElem? (i := 38) rfl)) rfl rfl ?_
    refine zp_iald (j := 2) (v := (V 2 (2000 + 2))) (pc := 130) hx hb hwξ (zd_X12_count (130, .iaload, 1, 0, []) (List.mem_of_getElem? (i := 39) rfl)) (show zp_ia 1 58 = some (7, 0, 0, (-2147483648), 2147483647) from rfl) (zM_P hMξ (List.mem_of_getElem? (i := 1) rfl)) (by omega) (by omega) ((zp_set_ne (Or.inl (zM_ne hMξ (List.mem_of_getElem? (i := 1) rfl) (List.mem_of_getElem? (i := 0) rfl) (by decide)))).trans (((zM_G hMξ (List.mem_of_getElem? (i := 1) rfl) (2000 + 2)).trans (hVξ 2 (2000 + 2) (Or.inl (by decide)))))) (fun hk416ξ => ?_)
    have hk416bξ := zp_int hk416ξ
    clear hk416ξ
    refine zp_iret (pc := 131) (n := (V 2 (2000 + 2))) hx hb hEξ hQξ hU5ξ rfl (by decide) (zd_X12_count (131, .ireturn, 1, 0, []) (List.mem_of_getElem? (i := 40) rfl)) (j := 0) rfl (zp_o0 (by omega) (by omega) (by omega) (by omega)) ?_
    rw [hpsξ]
    refine ⟨rfl, ?_⟩
    have hffξ : zf_cnt V p1ξ = ((V 2 (2000 + 2)), (zp_set V 0 0 0)) := by
      unfold zf_cnt
      rw [if_neg hc397ξ, if_neg hc400ξ, if_neg hc403ξ, if_neg hc406ξ, if_neg hc409ξ, if_neg hc411ξ, if_neg hc413ξ, if_pos hc415ξ]
    show zMVr A (zf_cnt V p1ξ).2 u.1 (zp_set (zp_n u.2.1) (A 0) 0 0) ∧ (V 2 (2000 + 2)) = (zf_cnt V p1ξ).1
    rw [hffξ]
    exact ⟨⟨(zp_set M 0 0 0), (zM_set hMξ (List.mem_of_getElem? (i := 0) rfl) (by decide)), (zV_set hVξ), (zSb_set (by decide) hSbξ)⟩, rfl⟩
  by_cases hc417ξ : p1ξ = 8
  · refine zp_tin (tgt := 132) (off := 126) (pc := 6) hx hb (zd_X12_count (6, .tableswitch 179 0 14 #[74, 81, 88, 95, 102, 107, 112, 119, 126, 133, 140, 148, 155, 163, 171], 74, 0, []) (List.mem_of_getElem? (i := 4) rfl)) (by rw [hc417ξ]; decide) (by rw [hc417ξ]; decide) (by rw [hc417ξ]; decide) rfl ?_
    refine zp_load (pc := 132) hx hb (zd_X12_count (132, .aload_n 0, 1, 0, []) (List.mem_of_getElem? (i := 41) rfl)) rfl (j := 0) rfl ?_
    refine zp_getf (n := (A 2 : Int)) (pc := 133) hx hb hEξ hwξ (zd_X12_count (133, .getfield 7, 3, 0, []) (List.mem_of_getElem? (i := 42) rfl)) (j := 20) rfl rfl rfl (zM_P hMξ (List.mem_of_getElem? (i := 0) rfl)) ((zp_set_ne (Or.inr (by decide))).trans (((zM_G hMξ (List.mem_of_getElem? (i := 0) rfl) 2).trans (zM_F hMξ (List.mem_of_getElem? (i := 0) rfl))))) ?_
    refine zp_const (pc := 136) hx hb (zd_X12_count (136, .iconst 3, 1, 0, []) (List.mem_of_getElem? (i := 43) rfl)) rfl rfl ?_
    refine zp_iald (j := 3) (v := (V 2 (2000 + 3))) (pc := 137) hx hb hwξ (zd_X12_count (137, .iaload, 1, 0, []) (List.mem_of_getElem? (i := 44) rfl)) (show zp_ia 1 58 = some (7, 0, 0, (-2147483648), 2147483647) from rfl) (zM_P hMξ (List.mem_of_getElem? (i := 1) rfl)) (by omega) (by omega) ((zp_set_ne (Or.inl (zM_ne hMξ (List.mem_of_getElem? (i := 1) rfl) (List.mem_of_getElem? (i := 0) rfl) (by decide)))).trans (((zM_G hMξ (List.mem_of_getElem? (i := 1) rfl) (2000 + 3)).trans (hVξ 2 (2000 + 3) (Or.inl (by decide)))))) (fun hk418ξ => ?_)
    have hk418bξ := zp_int hk418ξ
    clear hk418ξ
    refine zp_iret (pc := 138) (n := (V 2 (2000 + 3))) hx hb hEξ hQξ hU5ξ rfl (by decide) (zd_X12_count (138, .ireturn, 1, 0, []) (List.mem_of_getElem? (i := 45) rfl)) (j := 0) rfl (zp_o0 (by omega) (by omega) (by omega) (by omega)) ?_
    rw [hpsξ]
    refine ⟨rfl, ?_⟩
    have hffξ : zf_cnt V p1ξ = ((V 2 (2000 + 3)), (zp_set V 0 0 0)) := by
      unfold zf_cnt
      rw [if_neg hc397ξ, if_neg hc400ξ, if_neg hc403ξ, if_neg hc406ξ, if_neg hc409ξ, if_neg hc411ξ, if_neg hc413ξ, if_neg hc415ξ, if_pos hc417ξ]
    show zMVr A (zf_cnt V p1ξ).2 u.1 (zp_set (zp_n u.2.1) (A 0) 0 0) ∧ (V 2 (2000 + 3)) = (zf_cnt V p1ξ).1
    rw [hffξ]
    exact ⟨⟨(zp_set M 0 0 0), (zM_set hMξ (List.mem_of_getElem? (i := 0) rfl) (by decide)), (zV_set hVξ), (zSb_set (by decide) hSbξ)⟩, rfl⟩
  by_cases hc419ξ : p1ξ = 9
  · refine zp_tin (tgt := 139) (off := 133) (pc := 6) hx hb (zd_X12_count (6, .tableswitch 179 0 14 #[74, 81, 88, 95, 102, 107, 112, 119, 126, 133, 140, 148, 155, 163, 171], 74, 0, []) (List.mem_of_getElem? (i := 4) rfl)) (by rw [hc419ξ]; decide) (by rw [hc419ξ]; decide) (by rw [hc419ξ]; decide) rfl ?_
    refine zp_load (pc := 139) hx hb (zd_X12_count (139, .aload_n 0, 1, 0, []) (List.mem_of_getElem? (i := 46) rfl)) rfl (j := 0) rfl ?_
    refine zp_getf (n := (A 2 : Int)) (pc := 140) hx hb hEξ hwξ (zd_X12_count (140, .getfield 7, 3, 0, []) (List.mem_of_getElem? (i := 47) rfl)) (j := 20) rfl rfl rfl (zM_P hMξ (List.mem_of_getElem? (i := 0) rfl)) ((zp_set_ne (Or.inr (by decide))).trans (((zM_G hMξ (List.mem_of_getElem? (i := 0) rfl) 2).trans (zM_F hMξ (List.mem_of_getElem? (i := 0) rfl))))) ?_
    refine zp_const (pc := 143) hx hb (zd_X12_count (143, .iconst 5, 1, 0, []) (List.mem_of_getElem? (i := 48) rfl)) rfl rfl ?_
    refine zp_iald (j := 5) (v := (V 2 (2000 + 5))) (pc := 144) hx hb hwξ (zd_X12_count (144, .iaload, 1, 0, []) (List.mem_of_getElem? (i := 49) rfl)) (show zp_ia 1 58 = some (7, 0, 0, (-2147483648), 2147483647) from rfl) (zM_P hMξ (List.mem_of_getElem? (i := 1) rfl)) (by omega) (by omega) ((zp_set_ne (Or.inl (zM_ne hMξ (List.mem_of_getElem? (i := 1) rfl) (List.mem_of_getElem? (i := 0) rfl) (by decide)))).trans (((zM_G hMξ (List.mem_of_getElem? (i := 1) rfl) (2000 + 5)).trans (hVξ 2 (2000 + 5) (Or.inl (by decide)))))) (fun hk420ξ => ?_)
    have hk420bξ := zp_int hk420ξ
    clear hk420ξ
    refine zp_iret (pc := 145) (n := (V 2 (2000 + 5))) hx hb hEξ hQξ hU5ξ rfl (by decide) (zd_X12_count (145, .ireturn, 1, 0, []) (List.mem_of_getElem? (i := 50) rfl)) (j := 0) rfl (zp_o0 (by omega) (by omega) (by omega) (by omega)) ?_
    rw [hpsξ]
    refine ⟨rfl, ?_⟩
    have hffξ : zf_cnt V p1ξ = ((V 2 (2000 + 5)), (zp_set V 0 0 0)) := by
      unfold zf_cnt
      rw [if_neg hc397ξ, if_neg hc400ξ, if_neg hc403ξ, if_neg hc406ξ, if_neg hc409ξ, if_neg hc411ξ, if_neg hc413ξ, if_neg hc415ξ, if_neg hc417ξ, if_pos hc419ξ]
    show zMVr A (zf_cnt V p1ξ).2 u.1 (zp_set (zp_n u.2.1) (A 0) 0 0) ∧ (V 2 (2000 + 5)) = (zf_cnt V p1ξ).1
    rw [hffξ]
    exact ⟨⟨(zp_set M 0 0 0), (zM_set hMξ (List.mem_of_getElem? (i := 0) rfl) (by decide)), (zV_set hVξ), (zSb_set (by decide) hSbξ)⟩, rfl⟩
  by_cases hc421ξ : p1ξ = 10
  · refine zp_tin (tgt := 146) (off := 140) (pc := 6) hx hb (zd_X12_count (6, .tableswitch 179 0 14 #[74, 81, 88, 95, 102, 107, 112, 119, 126, 133, 140, 148, 155, 163, 171], 74, 0, []) (List.mem_of_getElem? (i := 4) rfl)) (by rw [hc421ξ]; decide) (by rw [hc421ξ]; decide) (by rw [hc421ξ]; decide) rfl ?_
    refine zp_load (pc := 146) hx hb (zd_X12_count (146, .aload_n 0, 1, 0, []) (List.mem_of_getElem? (i := 51) rfl)) rfl (j := 0) rfl ?_
    refine zp_getf (n := (A 2 : Int)) (pc := 147) hx hb hEξ hwξ (zd_X12_count (147, .getfield 7, 3, 0, []) (List.mem_of_getElem? (i := 52) rfl)) (j := 20) rfl rfl rfl (zM_P hMξ (List.mem_of_getElem? (i := 0) rfl)) ((zp_set_ne (Or.inr (by decide))).trans (((zM_G hMξ (List.mem_of_getElem? (i := 0) rfl) 2).trans (zM_F hMξ (List.mem_of_getElem? (i := 0) rfl))))) ?_
    refine zp_const (pc := 150) hx hb (zd_X12_count (150, .bipush 6, 2, 0, []) (List.mem_of_getElem? (i := 53) rfl)) rfl rfl ?_
    refine zp_iald (j := 6) (v := (V 2 (2000 + 6))) (pc := 152) hx hb hwξ (zd_X12_count (152, .iaload, 1, 0, []) (List.mem_of_getElem? (i := 54) rfl)) (show zp_ia 1 58 = some (7, 0, 0, (-2147483648), 2147483647) from rfl) (zM_P hMξ (List.mem_of_getElem? (i := 1) rfl)) (by omega) (by omega) ((zp_set_ne (Or.inl (zM_ne hMξ (List.mem_of_getElem? (i := 1) rfl) (List.mem_of_getElem? (i := 0) rfl) (by decide)))).trans (((zM_G hMξ (List.mem_of_getElem? (i := 1) rfl) (2000 + 6)).trans (hVξ 2 (2000 + 6) (Or.inl (by decide)))))) (fun hk422ξ => ?_)
    have hk422bξ := zp_int hk422ξ
    clear hk422ξ
    refine zp_iret (pc := 153) (n := (V 2 (2000 + 6))) hx hb hEξ hQξ hU5ξ rfl (by decide) (zd_X12_count (153, .ireturn, 1, 0, []) (List.mem_of_getElem? (i := 55) rfl)) (j := 0) rfl (zp_o0 (by omega) (by omega) (by omega) (by omega)) ?_
    rw [hpsξ]
    refine ⟨rfl, ?_⟩
    have hffξ : zf_cnt V p1ξ = ((V 2 (2000 + 6)), (zp_set V 0 0 0)) := by
      unfold zf_cnt
      rw [if_neg hc397ξ, if_neg hc400ξ, if_neg hc403ξ, if_neg hc406ξ, if_neg hc409ξ, if_neg hc411ξ, if_neg hc413ξ, if_neg hc415ξ, if_neg hc417ξ, if_neg hc419ξ, if_pos hc421ξ]
    show zMVr A (zf_cnt V p1ξ).2 u.1 (zp_set (zp_n u.2.1) (A 0) 0 0) ∧ (V 2 (2000 + 6)) = (zf_cnt V p1ξ).1
    rw [hffξ]
    exact ⟨⟨(zp_set M 0 0 0), (zM_set hMξ (List.mem_of_getElem? (i := 0) rfl) (by decide)), (zV_set hVξ), (zSb_set (by decide) hSbξ)⟩, rfl⟩
  by_cases hc423ξ : p1ξ = 11
  · refine zp_tin (tgt := 154) (off := 148) (pc := 6) hx hb (zd_X12_count (6, .tableswitch 179 0 14 #[74, 81, 88, 95, 102, 107, 112, 119, 126, 133, 140, 148, 155, 163, 171], 74, 0, []) (List.mem_of_getElem? (i := 4) rfl)) (by rw [hc423ξ]; decide) (by rw [hc423ξ]; decide) (by rw [hc423ξ]; decide) rfl ?_
    refine zp_load (pc := 154) hx hb (zd_X12_count (154, .aload_n 0, 1, 0, []) (List.mem_of_getElem? (i := 56) rfl)) rfl (j := 0) rfl ?_
    refine zp_getf (n := (A 3 : Int)) (pc := 155) hx hb hEξ hwξ (zd_X12_count (155, .getfield 13, 3, 0, []) (List.mem_of_getElem? (i := 57) rfl)) (j := 21) rfl rfl rfl (zM_P hMξ (List.mem_of_getElem? (i := 0) rfl)) ((zp_set_ne (Or.inr (by decide))).trans (((zM_G hMξ (List.mem_of_getElem? (i := 0) rfl) 3).trans (zM_F hMξ (List.mem_of_getElem? (i := 1) rfl))))) ?_
    refine zp_const (pc := 158) hx hb (zd_X12_count (158, .iconst 4, 1, 0, []) (List.mem_of_getElem? (i := 58) rfl)) rfl rfl ?_
    refine zp_ialdT (j := 4) (v := (V 3 (2000 + 4))) (pc := 159) hx hb hwξ (zd_X12_count (159, .iaload, 1, 0, []) (List.mem_of_getElem? (i := 59) rfl)) zl_T59 rfl (zl_kd 4) (zM_P hMξ (List.mem_of_getElem? (i := 2) rfl)) (by omega) (show 4 < 5580 by omega) ((zp_set_ne (Or.inl (zM_ne hMξ (List.mem_of_getElem? (i := 2) rfl) (List.mem_of_getElem? (i := 0) rfl) (by decide)))).trans (((zM_G hMξ (List.mem_of_getElem? (i := 2) rfl) (2000 + 4)).trans (hVξ 3 (2000 + 4) (Or.inl (by decide)))))) (fun _ => ?_)
    have hr425ξ := hRξ 4 (by omega)
    refine zp_iret (pc := 160) (n := (V 3 (2000 + 4))) hx hb hEξ hQξ hU5ξ rfl (by decide) (zd_X12_count (160, .ireturn, 1, 0, []) (List.mem_of_getElem? (i := 60) rfl)) (j := 0) rfl (zp_o0 (by omega) (by omega) (by omega) (by omega)) ?_
    rw [hpsξ]
    refine ⟨rfl, ?_⟩
    have hffξ : zf_cnt V p1ξ = ((V 3 (2000 + 4)), (zp_set V 0 0 0)) := by
      unfold zf_cnt
      rw [if_neg hc397ξ, if_neg hc400ξ, if_neg hc403ξ, if_neg hc406ξ, if_neg hc409ξ, if_neg hc411ξ, if_neg hc413ξ, if_neg hc415ξ, if_neg hc417ξ, if_neg hc419ξ, if_neg hc421ξ, if_pos hc423ξ]
    show zMVr A (zf_cnt V p1ξ).2 u.1 (zp_set (zp_n u.2.1) (A 0) 0 0) ∧ (V 3 (2000 + 4)) = (zf_cnt V p1ξ).1
    rw [hffξ]
    exact ⟨⟨(zp_set M 0 0 0), (zM_set hMξ (List.mem_of_getElem? (i := 0) rfl) (by decide)), (zV_set hVξ), (zSb_set (by decide) hSbξ)⟩, rfl⟩
  by_cases hc426ξ : p1ξ = 12
  · refine zp_tin (tgt := 161) (off := 155) (pc := 6) hx hb (zd_X12_count (6, .tableswitch 179 0 14 #[74, 81, 88, 95, 102, 107, 112, 119, 126, 133, 140, 148, 155, 163, 171], 74, 0, []) (List.mem_of_getElem? (i := 4) rfl)) (by rw [hc426ξ]; decide) (by rw [hc426ξ]; decide) (by rw [hc426ξ]; decide) rfl ?_
    refine zp_load (pc := 161) hx hb (zd_X12_count (161, .aload_n 0, 1, 0, []) (List.mem_of_getElem? (i := 61) rfl)) rfl (j := 0) rfl ?_
    refine zp_getf (n := (A 3 : Int)) (pc := 162) hx hb hEξ hwξ (zd_X12_count (162, .getfield 13, 3, 0, []) (List.mem_of_getElem? (i := 62) rfl)) (j := 21) rfl rfl rfl (zM_P hMξ (List.mem_of_getElem? (i := 0) rfl)) ((zp_set_ne (Or.inr (by decide))).trans (((zM_G hMξ (List.mem_of_getElem? (i := 0) rfl) 3).trans (zM_F hMξ (List.mem_of_getElem? (i := 1) rfl))))) ?_
    refine zp_const (pc := 165) hx hb (zd_X12_count (165, .bipush 8, 2, 0, []) (List.mem_of_getElem? (i := 63) rfl)) rfl rfl ?_
    refine zp_ialdT (j := 8) (v := (V 3 (2000 + 8))) (pc := 167) hx hb hwξ (zd_X12_count (167, .iaload, 1, 0, []) (List.mem_of_getElem? (i := 64) rfl)) zl_T59 rfl (zl_kd 8) (zM_P hMξ (List.mem_of_getElem? (i := 2) rfl)) (by omega) (show 8 < 5580 by omega) ((zp_set_ne (Or.inl (zM_ne hMξ (List.mem_of_getElem? (i := 2) rfl) (List.mem_of_getElem? (i := 0) rfl) (by decide)))).trans (((zM_G hMξ (List.mem_of_getElem? (i := 2) rfl) (2000 + 8)).trans (hVξ 3 (2000 + 8) (Or.inl (by decide)))))) (fun _ => ?_)
    have hr428ξ := hRξ 8 (by omega)
    refine zp_iret (pc := 168) (n := (V 3 (2000 + 8))) hx hb hEξ hQξ hU5ξ rfl (by decide) (zd_X12_count (168, .ireturn, 1, 0, []) (List.mem_of_getElem? (i := 65) rfl)) (j := 0) rfl (zp_o0 (by omega) (by omega) (by omega) (by omega)) ?_
    rw [hpsξ]
    refine ⟨rfl, ?_⟩
    have hffξ : zf_cnt V p1ξ = ((V 3 (2000 + 8)), (zp_set V 0 0 0)) := by
      unfold zf_cnt
      rw [if_neg hc397ξ, if_neg hc400ξ, if_neg hc403ξ, if_neg hc406ξ, if_neg hc409ξ, if_neg hc411ξ, if_neg hc413ξ, if_neg hc415ξ, if_neg hc417ξ, if_neg hc419ξ, if_neg hc421ξ, if_neg hc423ξ, if_pos hc426ξ]
    show zMVr A (zf_cnt V p1ξ).2 u.1 (zp_set (zp_n u.2.1) (A 0) 0 0) ∧ (V 3 (2000 + 8)) = (zf_cnt V p1ξ).1
    rw [hffξ]
    exact ⟨⟨(zp_set M 0 0 0), (zM_set hMξ (List.mem_of_getElem? (i := 0) rfl) (by decide)), (zV_set hVξ), (zSb_set (by decide) hSbξ)⟩, rfl⟩
  by_cases hc429ξ : p1ξ = 13
  · refine zp_tin (tgt := 169) (off := 163) (pc := 6) hx hb (zd_X12_count (6, .tableswitch 179 0 14 #[74, 81, 88, 95, 102, 107, 112, 119, 126, 133, 140, 148, 155, 163, 171], 74, 0, []) (List.mem_of_getElem? (i := 4) rfl)) (by rw [hc429ξ]; decide) (by rw [hc429ξ]; decide) (by rw [hc429ξ]; decide) rfl ?_
    refine zp_load (pc := 169) hx hb (zd_X12_count (169, .aload_n 0, 1, 0, []) (List.mem_of_getElem? (i := 66) rfl)) rfl (j := 0) rfl ?_
    refine zp_getf (n := (A 3 : Int)) (pc := 170) hx hb hEξ hwξ (zd_X12_count (170, .getfield 13, 3, 0, []) (List.mem_of_getElem? (i := 67) rfl)) (j := 21) rfl rfl rfl (zM_P hMξ (List.mem_of_getElem? (i := 0) rfl)) ((zp_set_ne (Or.inr (by decide))).trans (((zM_G hMξ (List.mem_of_getElem? (i := 0) rfl) 3).trans (zM_F hMξ (List.mem_of_getElem? (i := 1) rfl))))) ?_
    refine zp_const (pc := 173) hx hb (zd_X12_count (173, .bipush 9, 2, 0, []) (List.mem_of_getElem? (i := 68) rfl)) rfl rfl ?_
    refine zp_ialdT (j := 9) (v := (V 3 (2000 + 9))) (pc := 175) hx hb hwξ (zd_X12_count (175, .iaload, 1, 0, []) (List.mem_of_getElem? (i := 69) rfl)) zl_T59 rfl (zl_kd 9) (zM_P hMξ (List.mem_of_getElem? (i := 2) rfl)) (by omega) (show 9 < 5580 by omega) ((zp_set_ne (Or.inl (zM_ne hMξ (List.mem_of_getElem? (i := 2) rfl) (List.mem_of_getElem? (i := 0) rfl) (by decide)))).trans (((zM_G hMξ (List.mem_of_getElem? (i := 2) rfl) (2000 + 9)).trans (hVξ 3 (2000 + 9) (Or.inl (by decide)))))) (fun _ => ?_)
    have hr431ξ := hRξ 9 (by omega)
    refine zp_iret (pc := 176) (n := (V 3 (2000 + 9))) hx hb hEξ hQξ hU5ξ rfl (by decide) (zd_X12_count (176, .ireturn, 1, 0, []) (List.mem_of_getElem? (i := 70) rfl)) (j := 0) rfl (zp_o0 (by omega) (by omega) (by omega) (by omega)) ?_
    rw [hpsξ]
    refine ⟨rfl, ?_⟩
    have hffξ : zf_cnt V p1ξ = ((V 3 (2000 + 9)), (zp_set V 0 0 0)) := by
      unfold zf_cnt
      rw [if_neg hc397ξ, if_neg hc400ξ, if_neg hc403ξ, if_neg hc406ξ, if_neg hc409ξ, if_neg hc411ξ, if_neg hc413ξ, if_neg hc415ξ, if_neg hc417ξ, if_neg hc419ξ, if_neg hc421ξ, if_neg hc423ξ, if_neg hc426ξ, if_pos hc429ξ]
    show zMVr A (zf_cnt V p1ξ).2 u.1 (zp_set (zp_n u.2.1) (A 0) 0 0) ∧ (V 3 (2000 + 9)) = (zf_cnt V p1ξ).1
    rw [hffξ]
    exact ⟨⟨(zp_set M 0 0 0), (zM_set hMξ (List.mem_of_getElem? (i := 0) rfl) (by decide)), (zV_set hVξ), (zSb_set (by decide) hSbξ)⟩, rfl⟩
  by_cases hc432ξ : p1ξ = 14
  · refine zp_tin (tgt := 177) (off := 171) (pc := 6) hx hb (zd_X12_count (6, .tableswitch 179 0 14 #[74, 81, 88, 95, 102, 107, 112, 119, 126, 133, 140, 148, 155, 163, 171], 74, 0, []) (List.mem_of_getElem? (i := 4) rfl)) (by rw [hc432ξ]; decide) (by rw [hc432ξ]; decide) (by rw [hc432ξ]; decide) rfl ?_
    refine zp_load (pc := 177) hx hb (zd_X12_count (177, .aload_n 0, 1, 0, []) (List.mem_of_getElem? (i := 71) rfl)) rfl (j := 0) rfl ?_
    refine zp_getf (n := (A 3 : Int)) (pc := 178) hx hb hEξ hwξ (zd_X12_count (178, .getfield 13, 3, 0, []) (List.mem_of_getElem? (i := 72) rfl)) (j := 21) rfl rfl rfl (zM_P hMξ (List.mem_of_getElem? (i := 0) rfl)) ((zp_set_ne (Or.inr (by decide))).trans (((zM_G hMξ (List.mem_of_getElem? (i := 0) rfl) 3).trans (zM_F hMξ (List.mem_of_getElem? (i := 1) rfl))))) ?_
    refine zp_const (pc := 181) hx hb (zd_X12_count (181, .bipush 10, 2, 0, []) (List.mem_of_getElem? (i := 73) rfl)) rfl rfl ?_
    refine zp_ialdT (j := 10) (v := (V 3 (2000 + 10))) (pc := 183) hx hb hwξ (zd_X12_count (183, .iaload, 1, 0, []) (List.mem_of_getElem? (i := 74) rfl)) zl_T59 rfl (zl_kd 10) (zM_P hMξ (List.mem_of_getElem? (i := 2) rfl)) (by omega) (show 10 < 5580 by omega) ((zp_set_ne (Or.inl (zM_ne hMξ (List.mem_of_getElem? (i := 2) rfl) (List.mem_of_getElem? (i := 0) rfl) (by decide)))).trans (((zM_G hMξ (List.mem_of_getElem? (i := 2) rfl) (2000 + 10)).trans (hVξ 3 (2000 + 10) (Or.inl (by decide)))))) (fun _ => ?_)
    have hr434ξ := hRξ 10 (by omega)
    refine zp_iret (pc := 184) (n := (V 3 (2000 + 10))) hx hb hEξ hQξ hU5ξ rfl (by decide) (zd_X12_count (184, .ireturn, 1, 0, []) (List.mem_of_getElem? (i := 75) rfl)) (j := 0) rfl (zp_o0 (by omega) (by omega) (by omega) (by omega)) ?_
    rw [hpsξ]
    refine ⟨rfl, ?_⟩
    have hffξ : zf_cnt V p1ξ = ((V 3 (2000 + 10)), (zp_set V 0 0 0)) := by
      unfold zf_cnt
      rw [if_neg hc397ξ, if_neg hc400ξ, if_neg hc403ξ, if_neg hc406ξ, if_neg hc409ξ, if_neg hc411ξ, if_neg hc413ξ, if_neg hc415ξ, if_neg hc417ξ, if_neg hc419ξ, if_neg hc421ξ, if_neg hc423ξ, if_neg hc426ξ, if_neg hc429ξ, if_pos hc432ξ]
    show zMVr A (zf_cnt V p1ξ).2 u.1 (zp_set (zp_n u.2.1) (A 0) 0 0) ∧ (V 3 (2000 + 10)) = (zf_cnt V p1ξ).1
    rw [hffξ]
    exact ⟨⟨(zp_set M 0 0 0), (zM_set hMξ (List.mem_of_getElem? (i := 0) rfl) (by decide)), (zV_set hVξ), (zSb_set (by decide) hSbξ)⟩, rfl⟩
  refine zp_tout (tgt := 185) (pc := 6) hx hb (zd_X12_count (6, .tableswitch 179 0 14 #[74, 81, 88, 95, 102, 107, 112, 119, 126, 133, 140, 148, 155, 163, 171], 74, 0, []) (List.mem_of_getElem? (i := 4) rfl)) (by omega) rfl ?_
  refine zp_load (pc := 185) hx hb (zd_X12_count (185, .iload_n 1, 1, 0, []) (List.mem_of_getElem? (i := 76) rfl)) rfl (j := 1) rfl ?_
  refine zp_i2l (pc := 186) hx hb (zd_X12_count (186, .i2l, 1, 0, []) (List.mem_of_getElem? (i := 77) rfl)) ?_
  refine zp_ldc2 (pc := 187) hx hb hEξ (zd_X12_count (187, .ldc2_w 573, 3, 0, []) (List.mem_of_getElem? (i := 78) rfl)) (j := 124) rfl ?_
  refine zp_ldc2 (pc := 190) hx hb hEξ (zd_X12_count (190, .ldc2_w 575, 3, 0, []) (List.mem_of_getElem? (i := 79) rfl)) (j := 125) rfl ?_
  refine zp_call (pc := 193) (how := 1) (idx := 181) (mi := 186) (S := []) hx hb hEξ hwξ heffξ hrmξ (zX_in2 hWξ) rfl (j := 2) rfl rfl (by decide +kernel) (zd_X12_count (193, .invokestatic 181, 3, 0, []) (List.mem_of_getElem? (i := 80) rfl)) [p1ξ, 15, 17] rfl ⟨zp_o1 (by first | assumption | exact zp_r1 (by omega) (by omega)), zp_o1 (by first | assumption | exact zp_r1 (by omega) (by omega)), zp_o1 (by first | assumption | exact zp_r1 (by omega) (by omega)), trivial⟩ (Nat.le_of_ble_eq_true rfl) trivial (fun al halξ rnn435ξ Pn435 Gn435 hextn435ξ hfrn435ξ hokn435ξ hcsn435ξ hpsin435ξ => ?_)
  obtain rfl := List.mem_singleton.mp halξ
  have hrn435ξ := zp_int (hokn435ξ _ rfl).1
  obtain ⟨hPen435ξ, hGen435ξ, htn435ξ⟩ := hpsin435ξ
  rw [hPen435ξ, hGen435ξ]
  clear hextn435ξ hfrn435ξ hcsn435ξ hPen435ξ hGen435ξ
  have htn435ξ : rnn435ξ = 1 ↔ 15 ≤ p1ξ ∧ p1ξ ≤ 17 := htn435ξ
  refine zp_if (pc := 196) (tgt := 213) hx hb (zd_X12_count (196, .ifCond .eq 17, 3, 0, []) (List.mem_of_getElem? (i := 81) rfl)) rfl (fun (hc436ξ : rnn435ξ = 0) => ?_) (fun (hc436ξ : ¬ (rnn435ξ = 0)) => ?_)
  · have hbf437ξ : ¬ (15 ≤ p1ξ ∧ p1ξ ≤ 17) := fun h9ξ => absurd ((Iff.mpr htn435ξ) h9ξ) (by omega)
    refine zp_const (pc := 213) hx hb (zd_X12_count (213, .iconst (-1), 1, 0, []) (List.mem_of_getElem? (i := 91) rfl)) rfl rfl ?_
    refine zp_iret (pc := 214) (n := (-1)) hx hb hEξ hQξ hU5ξ rfl (by decide) (zd_X12_count (214, .ireturn, 1, 0, []) (List.mem_of_getElem? (i := 92) rfl)) (j := 0) rfl (zp_o0 (by omega) (by omega) (by omega) (by omega)) ?_
    rw [hpsξ]
    refine ⟨rfl, ?_⟩
    have hffξ : zf_cnt V p1ξ = ((-1), (zp_set V 0 0 0)) := by
      unfold zf_cnt
      rw [if_neg hc397ξ, if_neg hc400ξ, if_neg hc403ξ, if_neg hc406ξ, if_neg hc409ξ, if_neg hc411ξ, if_neg hc413ξ, if_neg hc415ξ, if_neg hc417ξ, if_neg hc419ξ, if_neg hc421ξ, if_neg hc423ξ, if_neg hc426ξ, if_neg hc429ξ, if_neg hc432ξ, if_neg (fun h9ξ => absurd ((Iff.mpr htn435ξ) h9ξ) (by omega))]
    show zMVr A (zf_cnt V p1ξ).2 u.1 (zp_set (zp_n u.2.1) (A 0) 0 0) ∧ (-1) = (zf_cnt V p1ξ).1
    rw [hffξ]
    exact ⟨⟨(zp_set M 0 0 0), (zM_set hMξ (List.mem_of_getElem? (i := 0) rfl) (by decide)), (zV_set hVξ), (zSb_set (by decide) hSbξ)⟩, rfl⟩
  · have hbt438ξ := (Iff.mp htn435ξ) (by omega)
    refine zp_load (pc := 199) hx hb (zd_X12_count (199, .aload_n 0, 1, 0, []) (List.mem_of_getElem? (i := 82) rfl)) rfl (j := 0) rfl ?_
    refine zp_getf (n := (A 3 : Int)) (pc := 200) hx hb hEξ hwξ (zd_X12_count (200, .getfield 13, 3, 0, []) (List.mem_of_getElem? (i := 83) rfl)) (j := 21) rfl rfl rfl (zM_P hMξ (List.mem_of_getElem? (i := 0) rfl)) ((zp_set_ne (Or.inr (by decide))).trans (((zM_G hMξ (List.mem_of_getElem? (i := 0) rfl) 3).trans (zM_F hMξ (List.mem_of_getElem? (i := 1) rfl))))) ?_
    refine zp_const (pc := 203) hx hb (zd_X12_count (203, .iconst 5, 1, 0, []) (List.mem_of_getElem? (i := 84) rfl)) rfl rfl ?_
    refine zp_load (pc := 204) hx hb (zd_X12_count (204, .iload_n 1, 1, 0, []) (List.mem_of_getElem? (i := 85) rfl)) rfl (j := 1) rfl ?_
    refine zp_add (n := (5 + p1ξ)) (pc := 205) hx hb (zd_X12_count (205, .iadd, 1, 0, []) (List.mem_of_getElem? (i := 86) rfl)) (by omega) (zp_r0 (by omega) (by omega)) ?_
    refine zp_const (pc := 206) hx hb (zd_X12_count (206, .bipush 15, 2, 0, []) (List.mem_of_getElem? (i := 87) rfl)) rfl rfl ?_
    refine zp_sub (n := ((5 + p1ξ) - 15)) (pc := 208) hx hb (zd_X12_count (208, .isub, 1, 0, []) (List.mem_of_getElem? (i := 88) rfl)) (by omega) (zp_r0 (by omega) (by omega)) ?_
    refine zp_ialdT (j := (((5 + p1ξ) - 15)).toNat) (v := (V 3 (2000 + (((5 + p1ξ) - 15)).toNat))) (pc := 209) hx hb hwξ (zd_X12_count (209, .iaload, 1, 0, []) (List.mem_of_getElem? (i := 89) rfl)) zl_T59 rfl (zl_kd ((((5 + p1ξ) - 15)).toNat)) (zM_P hMξ (List.mem_of_getElem? (i := 2) rfl)) (by omega) (show (((5 + p1ξ) - 15)).toNat < 5580 by omega) ((zp_set_ne (Or.inl (zM_ne hMξ (List.mem_of_getElem? (i := 2) rfl) (List.mem_of_getElem? (i := 0) rfl) (by decide)))).trans (((zM_G hMξ (List.mem_of_getElem? (i := 2) rfl) (2000 + (((5 + p1ξ) - 15)).toNat)).trans (hVξ 3 (2000 + (((5 + p1ξ) - 15)).toNat) (Or.inl (by decide)))))) (fun _ => ?_)
    have hr440ξ := hRξ (((5 + p1ξ) - 15)).toNat (by omega)
    refine zp_goto (tgt := 214) (pc := 210) hx hb (zd_X12_count (210, .goto 4, 3, 0, []) (List.mem_of_getElem? (i := 90) rfl)) rfl ?_
    refine zp_iret (pc := 214) (n := (V 3 (2000 + (((5 + p1ξ) - 15)).toNat))) hx hb hEξ hQξ hU5ξ rfl (by decide) (zd_X12_count (214, .ireturn, 1, 0, []) (List.mem_of_getElem? (i := 92) rfl)) (j := 0) rfl (zp_o0 (by omega) (by omega) (by omega) (by omega)) ?_
    rw [hpsξ]
    refine ⟨rfl, ?_⟩
    have hffξ : zf_cnt V p1ξ = ((V 3 (2000 + (((5 + p1ξ) - 15)).toNat)), (zp_set V 0 0 0)) := by
      unfold zf_cnt
      rw [if_neg hc397ξ, if_neg hc400ξ, if_neg hc403ξ, if_neg hc406ξ, if_neg hc409ξ, if_neg hc411ξ, if_neg hc413ξ, if_neg hc415ξ, if_neg hc417ξ, if_neg hc419ξ, if_neg hc421ξ, if_neg hc423ξ, if_neg hc426ξ, if_neg hc429ξ, if_neg hc432ξ, if_pos ((Iff.mp htn435ξ) (by omega))]
    show zMVr A (zf_cnt V p1ξ).2 u.1 (zp_set (zp_n u.2.1) (A 0) 0 0) ∧ (V 3 (2000 + (((5 + p1ξ) - 15)).toNat)) = (zf_cnt V p1ξ).1
    rw [hffξ]
    exact ⟨⟨(zp_set M 0 0 0), (zM_set hMξ (List.mem_of_getElem? (i := 0) rfl) (by decide)), (zV_set hVξ), (zSb_set (by decide) hSbξ)⟩, rfl⟩
noncomputable def zf_edr (V : Nat → Nat → Int) (n1ξ npξ : Nat) (Lwξ : List yK) (p1ξ : Int) (p2ξ : Int) (p3ξ : Int) : Int × (Nat → Nat → Int) := if 0 ≤ p1ξ ∧ p1ξ ≤ 12 then if 0 ≤ p2ξ ∧ p2ξ < (n1ξ : Int) then if 0 ≤ p3ξ ∧ p3ξ ≤ 1 then if ¬ p3ξ = 0 then (((zd_X V n1ξ npξ Lwξ p1ξ).1 p2ξ.toNat), (zp_set V 0 0 0)) else (((zd_X V n1ξ npξ Lwξ p1ξ).2 p2ξ.toNat), (zp_set V 0 0 0)) else ((-1), (zp_set V 0 0 0)) else ((-1), (zp_set V 0 0 0)) else ((-1), (zp_set V 0 0 0))
noncomputable def zK_edr : zk_K := (zt_mn 253, prog_14_method_80_code, 4, (Option.some Jvm.ClassFile.FieldType.int), 1, 12, [(2, 13, 0, 0), (0, 0, (-2147483648), 2147483647), (0, 0, (-2147483648), 2147483647), (0, 0, (-2147483648), 2147483647)], [(some (0, 0, (-2147483648), 2147483647), [])], zUE, (6, 340, 0, 0))
noncomputable def zφ_edr (A : Nat → Nat) (V : Nat → Nat → Int) (n1ξ npξ : Nat) (Lwξ : List yK) : (Nat → Option Nat) → (Nat → Nat → Int) → List Int → Prop := fun P G ps => zMVr A V P G ∧ ps.getD 0 0 = (A 0 : Int) ∧ zLV V Lwξ ∧ zd_ok (zRw V) n1ξ npξ ∧ V 0 47 = -1
noncomputable def zψ_edr (A : Nat → Nat) (V : Nat → Nat → Int) (n1ξ npξ : Nat) (Lwξ : List yK) : (Nat → Option Nat) → (Nat → Nat → Int) → List Int → (Nat → Option Nat) → (Nat → Nat → Int) → Int → Prop := fun P G ps P' G' rn => P' = P ∧ zMVr A (zf_edr V n1ξ npξ Lwξ (ps.getD 1 0) (ps.getD 2 0) (ps.getD 3 0)).2 P' G' ∧ rn = (zf_edr V n1ξ npξ Lwξ (ps.getD 1 0) (ps.getD 2 0) (ps.getD 3 0)).1
theorem zX_edr {l : Launch} {w : zk_W} (hWξ : zh_W w) (A : Nat → Nat) (V : Nat → Nat → Int) (n1ξ npξ : Nat) (Lwξ : List yK) : zk_metX l w zt_dv zt_TB zK_edr (zp_A (zφ_edr A V n1ξ npξ Lwξ)) (zp_B (zψ_edr A V n1ξ npξ Lwξ)) ∧ zk_cok w zt_TB zK_edr := by
  refine zp_methX (cn := "WoundTownModel") zp_lkall hWξ (pl := 1864) rfl (by decide +kernel) (fun p e R s m args below meth c Q u hx hb hEξ hQξ hU5ξ heffξ hnLξ hokξ hφ => ?_)
  have hwξ := hWξ.1
  obtain ⟨p0ξ, p1ξ, p2ξ, p3ξ, hpsξ, tk0, tk1, tk2, tk3⟩ := zp_ps4 hokξ
  have hrmξ : zk_Kr (zk_ev (zt_types, zp_lk, zt_dv, [], [], zp_lc, zK_edr)) = zk_Kr zK_edr := rfl
  rw [hpsξ] at hφ ⊢
  have hφ : zMVr A V u.1 (zp_n u.2.1) ∧ p0ξ = (A 0 : Int) ∧ zLV V Lwξ ∧ zd_ok (zRw V) n1ξ npξ ∧ V 0 47 = -1 := hφ
  obtain ⟨⟨M, hMξ, hVξ, hSbξ⟩, rfl, hLVξ, hDξ, h47ξ⟩ := hφ
  have hi1ξ := zp_int tk1
  have hi2ξ := zp_int tk2
  have hi3ξ := zp_int tk3
  show zp_J p l e R s m args below meth c Q w u [] 0 [(0, 2, (A 0 : Int)), (1, 0, p1ξ), (2, 0, p2ξ), (3, 0, p3ξ)] [] u.1 (zp_n u.2.1)
  have hDkξ := hDξ
  obtain ⟨hn10ξ, hnp6ξ, hn1ξ, hnpξ, hDwξ, hDpξ⟩ := hDξ
  have hn1ξ : V 3 (2000 + 1) = (n1ξ : Int) := hn1ξ
  have hnpξ : V 3 (2000 + 0) = (npξ : Int) := hnpξ
  refine zp_load (pc := 0) hx hb (zd_X12_ends (0, .aload_n 0, 1, 0, []) (List.mem_of_getElem? (i := 0) rfl)) rfl (j := 0) rfl ?_
  refine zp_const (pc := 1) hx hb (zd_X12_ends (1, .iconst 0, 1, 0, []) (List.mem_of_getElem? (i := 1) rfl)) rfl rfl ?_
  refine zp_putf (pc := 2) hx hb hEξ hwξ heffξ (zd_X12_ends (2, .putfield 161, 3, 0, []) (List.mem_of_getElem? (i := 2) rfl)) (j := 18) rfl rfl rfl (zM_P hMξ (List.mem_of_getElem? (i := 0) rfl)) (zp_o0 (by decide) (by decide) (by decide) (by decide)) ?_
  refine zp_load (pc := 5) hx hb (zd_X12_ends (5, .iload_n 1, 1, 0, []) (List.mem_of_getElem? (i := 3) rfl)) rfl (j := 1) rfl ?_
  refine zp_i2l (pc := 6) hx hb (zd_X12_ends (6, .i2l, 1, 0, []) (List.mem_of_getElem? (i := 4) rfl)) ?_
  refine zp_const (pc := 7) hx hb (zd_X12_ends (7, .lconst 0, 1, 0, []) (List.mem_of_getElem? (i := 5) rfl)) rfl rfl ?_
  refine zp_ldc2 (pc := 8) hx hb hEξ (zd_X12_ends (8, .ldc2_w 431, 3, 0, []) (List.mem_of_getElem? (i := 6) rfl)) (j := 105) rfl ?_
  refine zp_call (pc := 11) (how := 1) (idx := 181) (mi := 186) (S := []) hx hb hEξ hwξ heffξ hrmξ (zX_in2 hWξ) rfl (j := 2) rfl rfl (by decide +kernel) (zd_X12_ends (11, .invokestatic 181, 3, 0, []) (List.mem_of_getElem? (i := 7) rfl)) [p1ξ, 0, 12] rfl ⟨zp_o1 (by first | assumption | exact zp_r1 (by omega) (by omega)), zp_o1 (by first | assumption | exact zp_r1 (by omega) (by omega)), zp_o1 (by first | assumption | exact zp_r1 (by omega) (by omega)), trivial⟩ (Nat.le_of_ble_eq_true rfl) trivial (fun al halξ rnn441ξ Pn441 Gn441 hextn441ξ hfrn441ξ hokn441ξ hcsn441ξ hpsin441ξ => ?_)
  obtain rfl := List.mem_singleton.mp halξ
  have hrn441ξ := zp_int (hokn441ξ _ rfl).1
  obtain ⟨hPen441ξ, hGen441ξ, htn441ξ⟩ := hpsin441ξ
  rw [hPen441ξ, hGen441ξ]
  clear hextn441ξ hfrn441ξ hcsn441ξ hPen441ξ hGen441ξ
  have htn441ξ : rnn441ξ = 1 ↔ 0 ≤ p1ξ ∧ p1ξ ≤ 12 := htn441ξ
  refine zp_if (pc := 14) (tgt := 35) hx hb (zd_X12_ends (14, .ifCond .eq 21, 3, 0, []) (List.mem_of_getElem? (i := 8) rfl)) rfl (fun (hc442ξ : rnn441ξ = 0) => ?_) (fun (hc442ξ : ¬ (rnn441ξ = 0)) => ?_)
  · have hbf443ξ : ¬ (0 ≤ p1ξ ∧ p1ξ ≤ 12) := fun h9ξ => absurd ((Iff.mpr htn441ξ) h9ξ) (by omega)
    refine zp_const (pc := 35) hx hb (zd_X12_ends (35, .iconst (-1), 1, 0, []) (List.mem_of_getElem? (i := 19) rfl)) rfl rfl ?_
    refine zp_iret (pc := 36) (n := (-1)) hx hb hEξ hQξ hU5ξ rfl (by decide) (zd_X12_ends (36, .ireturn, 1, 0, []) (List.mem_of_getElem? (i := 20) rfl)) (j := 0) rfl (zp_o0 (by omega) (by omega) (by omega) (by omega)) ?_
    rw [hpsξ]
    refine ⟨rfl, ?_⟩
    have hffξ : zf_edr V n1ξ npξ Lwξ p1ξ p2ξ p3ξ = ((-1), (zp_set V 0 0 0)) := by
      unfold zf_edr
      rw [if_neg (fun h9ξ => absurd ((Iff.mpr htn441ξ) h9ξ) (by omega))]
    show zMVr A (zf_edr V n1ξ npξ Lwξ p1ξ p2ξ p3ξ).2 u.1 (zp_set (zp_n u.2.1) (A 0) 0 0) ∧ (-1) = (zf_edr V n1ξ npξ Lwξ p1ξ p2ξ p3ξ).1
    rw [hffξ]
    exact ⟨⟨(zp_set M 0 0 0), (zM_set hMξ (List.mem_of_getElem? (i := 0) rfl) (by decide)), (zV_set hVξ), (zSb_set (by decide) hSbξ)⟩, rfl⟩
  · have hbt444ξ := (Iff.mp htn441ξ) (by omega)
    refine zp_load (pc := 17) hx hb (zd_X12_ends (17, .aload_n 0, 1, 0, []) (List.mem_of_getElem? (i := 9) rfl)) rfl (j := 0) rfl ?_
    refine zp_load (pc := 18) hx hb (zd_X12_ends (18, .iload_n 2, 1, 0, []) (List.mem_of_getElem? (i := 10) rfl)) rfl (j := 2) rfl ?_
    refine zp_call (pc := 19) (how := 0) (idx := 217) (mi := 200) (S := []) hx hb hEξ hwξ heffξ hrmξ (zX_isw hWξ A (zp_set M 0 0 0)) rfl (j := 10) rfl rfl (by decide +kernel) (zd_X12_ends (19, .invokevirtual 217, 3, 0, []) (List.mem_of_getElem? (i := 11) rfl)) [(A 0 : Int), p2ξ] rfl ⟨zp_o2 (zM_P hMξ (List.mem_of_getElem? (i := 0) rfl)), zp_o0 (by omega) (by omega) (by omega) (by omega), trivial⟩ (Nat.le_of_ble_eq_true rfl) ⟨(zM_set hMξ (List.mem_of_getElem? (i := 0) rfl) (by decide)), rfl, (show -2147483647 ≤ (zp_set M 0 0 0) 3 (2000 + 1) ∧ (zp_set M 0 0 0) 3 (2000 + 1) ≤ 2147483647 by rw [((zp_set_ne (Or.inl (by decide))).trans (((hVξ 3 (2000 + 1) (Or.inl (by decide))).trans hn1ξ)))]; omega)⟩ (fun al halξ rni445ξ Pi445 Gi445 hexti445ξ hfri445ξ hoki445ξ hcsi445ξ hpsii445ξ => ?_)
    obtain rfl := List.mem_singleton.mp halξ
    have hri445ξ := zp_int (hoki445ξ _ rfl).1
    obtain ⟨hPei445ξ, hGei445ξ, hti445ξ⟩ := hpsii445ξ
    rw [hPei445ξ, hGei445ξ]
    clear hexti445ξ hfri445ξ hcsi445ξ hPei445ξ hGei445ξ
    have hti445ξ : rni445ξ = 1 ↔ 0 ≤ p2ξ ∧ p2ξ < (n1ξ : Int) := by
      have h9ξ : rni445ξ = 1 ↔ 0 ≤ p2ξ ∧ p2ξ < (zp_set M 0 0 0) 3 (2000 + 1) := hti445ξ
      rw [((zp_set_ne (Or.inl (by decide))).trans (((hVξ 3 (2000 + 1) (Or.inl (by decide))).trans hn1ξ)))] at h9ξ
      exact h9ξ
    refine zp_if (pc := 22) (tgt := 35) hx hb (zd_X12_ends (22, .ifCond .eq 13, 3, 0, []) (List.mem_of_getElem? (i := 12) rfl)) rfl (fun (hc446ξ : rni445ξ = 0) => ?_) (fun (hc446ξ : ¬ (rni445ξ = 0)) => ?_)
    · have hbf447ξ : ¬ (0 ≤ p2ξ ∧ p2ξ < (n1ξ : Int)) := fun h9ξ => absurd ((Iff.mpr hti445ξ) h9ξ) (by omega)
      refine zp_const (pc := 35) hx hb (zd_X12_ends (35, .iconst (-1), 1, 0, []) (List.mem_of_getElem? (i := 19) rfl)) rfl rfl ?_
      refine zp_iret (pc := 36) (n := (-1)) hx hb hEξ hQξ hU5ξ rfl (by decide) (zd_X12_ends (36, .ireturn, 1, 0, []) (List.mem_of_getElem? (i := 20) rfl)) (j := 0) rfl (zp_o0 (by omega) (by omega) (by omega) (by omega)) ?_
      rw [hpsξ]
      refine ⟨rfl, ?_⟩
      have hffξ : zf_edr V n1ξ npξ Lwξ p1ξ p2ξ p3ξ = ((-1), (zp_set V 0 0 0)) := by
        unfold zf_edr
        rw [if_pos ((Iff.mp htn441ξ) (by omega)), if_neg (fun h9ξ => absurd ((Iff.mpr hti445ξ) h9ξ) (by omega))]
      show zMVr A (zf_edr V n1ξ npξ Lwξ p1ξ p2ξ p3ξ).2 u.1 (zp_set (zp_n u.2.1) (A 0) 0 0) ∧ (-1) = (zf_edr V n1ξ npξ Lwξ p1ξ p2ξ p3ξ).1
      rw [hffξ]
      exact ⟨⟨(zp_set M 0 0 0), (zM_set hMξ (List.mem_of_getElem? (i := 0) rfl) (by decide)), (zV_set hVξ), (zSb_set (by decide) hSbξ)⟩, rfl⟩
    · have hbt448ξ := (Iff.mp hti445ξ) (by omega)
      refine zp_load (pc := 25) hx hb (zd_X12_ends (25, .iload_n 3, 1, 0, []) (List.mem_of_getElem? (i := 13) rfl)) rfl (j := 3) rfl ?_
      refine zp_i2l (pc := 26) hx hb (zd_X12_ends (26, .i2l, 1, 0, []) (List.mem_of_getElem? (i := 14) rfl)) ?_
      refine zp_const (pc := 27) hx hb (zd_X12_ends (27, .lconst 0, 1, 0, []) (List.mem_of_getElem? (i := 15) rfl)) rfl rfl ?_
      refine zp_const (pc := 28) hx hb (zd_X12_ends (28, .lconst 1, 1, 0, []) (List.mem_of_getElem? (i := 16) rfl)) rfl rfl ?_
      refine zp_call (pc := 29) (how := 1) (idx := 181) (mi := 186) (S := []) hx hb hEξ hwξ heffξ hrmξ (zX_in2 hWξ) rfl (j := 2) rfl rfl (by decide +kernel) (zd_X12_ends (29, .invokestatic 181, 3, 0, []) (List.mem_of_getElem? (i := 17) rfl)) [p3ξ, 0, 1] rfl ⟨zp_o1 (by first | assumption | exact zp_r1 (by omega) (by omega)), zp_o1 (by first | assumption | exact zp_r1 (by omega) (by omega)), zp_o1 (by first | assumption | exact zp_r1 (by omega) (by omega)), trivial⟩ (Nat.le_of_ble_eq_true rfl) trivial (fun al halξ rnn449ξ Pn449 Gn449 hextn449ξ hfrn449ξ hokn449ξ hcsn449ξ hpsin449ξ => ?_)
      obtain rfl := List.mem_singleton.mp halξ
      have hrn449ξ := zp_int (hokn449ξ _ rfl).1
      obtain ⟨hPen449ξ, hGen449ξ, htn449ξ⟩ := hpsin449ξ
      rw [hPen449ξ, hGen449ξ]
      clear hextn449ξ hfrn449ξ hcsn449ξ hPen449ξ hGen449ξ
      have htn449ξ : rnn449ξ = 1 ↔ 0 ≤ p3ξ ∧ p3ξ ≤ 1 := htn449ξ
      refine zp_if (pc := 32) (tgt := 37) hx hb (zd_X12_ends (32, .ifCond .ne 5, 3, 0, []) (List.mem_of_getElem? (i := 18) rfl)) rfl (fun (hc450ξ : ¬ rnn449ξ = 0) => ?_) (fun (hc450ξ : ¬ (¬ rnn449ξ = 0)) => ?_)
      · have hbt451ξ := (Iff.mp htn449ξ) (by omega)
        refine zp_load (pc := 37) hx hb (zd_X12_ends (37, .aload_n 0, 1, 0, []) (List.mem_of_getElem? (i := 21) rfl)) rfl (j := 0) rfl ?_
        refine zp_load (pc := 38) hx hb (zd_X12_ends (38, .iload_n 1, 1, 0, []) (List.mem_of_getElem? (i := 22) rfl)) rfl (j := 1) rfl ?_
        have hVyξ : ∀ o k, zNs o k → (zp_set M 0 0 0) o k = (zp_set V 0 0 0) o k := (zV_set hVξ)
        have h47yξ : (zp_set V 0 0 0) 0 47 = -1 := ((zp_set_ne (Or.inr (by decide))).trans ((Eq.trans rfl h47ξ)))
        have hLyξ : zLV (zp_set V 0 0 0) Lwξ := (zLV_o (by decide) (Or.inr (by decide)) hLVξ)
        refine zp_call (pc := 39) (how := 0) (idx := 457) (mi := 248) (S := []) hx hb hEξ hwξ heffξ hrmξ (zX_lay hWξ A (zp_set M 0 0 0) n1ξ npξ (zRw V) Lwξ) rfl (j := 47) rfl rfl (by decide +kernel) (zd_X12_ends (39, .invokevirtual 457, 3, 0, []) (List.mem_of_getElem? (i := 23) rfl)) [(A 0 : Int), p1ξ] rfl ⟨zp_o2 (zM_P hMξ (List.mem_of_getElem? (i := 0) rfl)), zp_o0 (by omega) (by omega) (by omega) (by omega), trivial⟩ (Nat.le_of_ble_eq_true rfl) ⟨(zM_set hMξ (List.mem_of_getElem? (i := 0) rfl) (by decide)), rfl, (hVyξ 0 47 (Or.inr (by decide))).trans h47yξ, (hVyξ 0 20 (Or.inr (by decide))).trans hLyξ.2.2.2.2, hDkξ, fun j => (hVyξ 3 _ (Or.inl (by decide))).trans ((zp_set_ne (Or.inl (by decide))).trans (rfl)), hLVξ.1, hLVξ.2.1, hLVξ.2.2.1, (zSb_set (by decide) hSbξ), (show (0 : Int) ≤ p1ξ by omega), (show (p1ξ : Int) ≤ 12 by omega)⟩ (fun al halξ rnl Pl Gl hextlξ hfrlξ hoklξ hcslξ hpsilξ => ?_)
        obtain rfl := List.mem_singleton.mp halξ
        obtain ⟨hPelξ, Ml, hMlξ, htlξ⟩ := hpsilξ
        subst hPelξ
        obtain ⟨hNlξ, hSlξ, hDlξ, hxlξ⟩ := htlξ
        have hVlξ : ∀ o k, zNs o k → Ml o k = (zp_set V 0 0 0) o k := fun o k hkξ => (hNlξ o k hkξ).trans (hVyξ o k hkξ)
        refine zp_load (pc := 42) hx hb (zd_X12_ends (42, .iload_n 3, 1, 0, []) (List.mem_of_getElem? (i := 24) rfl)) rfl (j := 3) rfl ?_
        refine zp_if (pc := 43) (tgt := 55) hx hb (zd_X12_ends (43, .ifCond .ne 12, 3, 0, []) (List.mem_of_getElem? (i := 25) rfl)) rfl (fun (hc453ξ : ¬ p3ξ = 0) => ?_) (fun (hc453ξ : ¬ (¬ p3ξ = 0)) => ?_)
        · refine zp_load (pc := 55) hx hb (zd_X12_ends (55, .aload_n 0, 1, 0, []) (List.mem_of_getElem? (i := 31) rfl)) rfl (j := 0) rfl ?_
          refine zp_getf (n := (A 44 : Int)) (pc := 56) hx hb hEξ hwξ (zd_X12_ends (56, .getfield 119, 3, 0, []) (List.mem_of_getElem? (i := 32) rfl)) (j := 62) rfl rfl rfl (zM_P hMlξ (List.mem_of_getElem? (i := 0) rfl)) ((zM_G hMlξ (List.mem_of_getElem? (i := 0) rfl) 44).trans (zM_F hMlξ (List.mem_of_getElem? (i := 23) rfl))) ?_
          refine zp_load (pc := 59) hx hb (zd_X12_ends (59, .iload_n 2, 1, 0, []) (List.mem_of_getElem? (i := 33) rfl)) rfl (j := 2) rfl ?_
          refine zp_iald (j := p2ξ.toNat) (v := ((zd_X V n1ξ npξ Lwξ p1ξ).1 p2ξ.toNat)) (pc := 60) hx hb hwξ (zd_X12_ends (60, .iaload, 1, 0, []) (List.mem_of_getElem? (i := 34) rfl)) (show zp_ia 1 81 = some (10, 0, 0, (-2147483648), 2147483647) from rfl) (zM_P hMlξ (List.mem_of_getElem? (i := 24) rfl)) (by omega) (by omega) ((zM_G hMlξ (List.mem_of_getElem? (i := 24) rfl) (2000 + p2ξ.toNat)).trans (hxlξ p2ξ.toNat (by omega)).1) (fun hk454ξ => ?_)
          have hk454bξ := zp_int hk454ξ
          clear hk454ξ
          refine zp_iret (pc := 61) (n := ((zd_X V n1ξ npξ Lwξ p1ξ).1 p2ξ.toNat)) hx hb hEξ hQξ hU5ξ rfl (by decide) (zd_X12_ends (61, .ireturn, 1, 0, []) (List.mem_of_getElem? (i := 35) rfl)) (j := 0) rfl (zp_o0 (by omega) (by omega) (by omega) (by omega)) ?_
          rw [hpsξ]
          refine ⟨rfl, ?_⟩
          have hffξ : zf_edr V n1ξ npξ Lwξ p1ξ p2ξ p3ξ = (((zd_X V n1ξ npξ Lwξ p1ξ).1 p2ξ.toNat), (zp_set V 0 0 0)) := by
            unfold zf_edr
            rw [if_pos ((Iff.mp htn441ξ) (by omega)), if_pos ((Iff.mp hti445ξ) (by omega)), if_pos ((Iff.mp htn449ξ) (by omega)), if_pos hc453ξ]
          show zMVr A (zf_edr V n1ξ npξ Lwξ p1ξ p2ξ p3ξ).2 u.1 Gl ∧ ((zd_X V n1ξ npξ Lwξ p1ξ).1 p2ξ.toNat) = (zf_edr V n1ξ npξ Lwξ p1ξ p2ξ p3ξ).1
          rw [hffξ]
          exact ⟨⟨Ml, hMlξ, hVlξ, hSlξ⟩, rfl⟩
        · refine zp_load (pc := 46) hx hb (zd_X12_ends (46, .aload_n 0, 1, 0, []) (List.mem_of_getElem? (i := 26) rfl)) rfl (j := 0) rfl ?_
          refine zp_getf (n := (A 45 : Int)) (pc := 47) hx hb hEξ hwξ (zd_X12_ends (47, .getfield 122, 3, 0, []) (List.mem_of_getElem? (i := 27) rfl)) (j := 63) rfl rfl rfl (zM_P hMlξ (List.mem_of_getElem? (i := 0) rfl)) ((zM_G hMlξ (List.mem_of_getElem? (i := 0) rfl) 45).trans (zM_F hMlξ (List.mem_of_getElem? (i := 24) rfl))) ?_
          refine zp_load (pc := 50) hx hb (zd_X12_ends (50, .iload_n 2, 1, 0, []) (List.mem_of_getElem? (i := 28) rfl)) rfl (j := 2) rfl ?_
          refine zp_iald (j := p2ξ.toNat) (v := ((zd_X V n1ξ npξ Lwξ p1ξ).2 p2ξ.toNat)) (pc := 51) hx hb hwξ (zd_X12_ends (51, .iaload, 1, 0, []) (List.mem_of_getElem? (i := 29) rfl)) (show zp_ia 1 82 = some (10, 0, 0, (-2147483648), 2147483647) from rfl) (zM_P hMlξ (List.mem_of_getElem? (i := 25) rfl)) (by omega) (by omega) ((zM_G hMlξ (List.mem_of_getElem? (i := 25) rfl) (2000 + p2ξ.toNat)).trans (hxlξ p2ξ.toNat (by omega)).2) (fun hk455ξ => ?_)
          have hk455bξ := zp_int hk455ξ
          clear hk455ξ
          refine zp_goto (tgt := 61) (pc := 52) hx hb (zd_X12_ends (52, .goto 9, 3, 0, []) (List.mem_of_getElem? (i := 30) rfl)) rfl ?_
          refine zp_iret (pc := 61) (n := ((zd_X V n1ξ npξ Lwξ p1ξ).2 p2ξ.toNat)) hx hb hEξ hQξ hU5ξ rfl (by decide) (zd_X12_ends (61, .ireturn, 1, 0, []) (List.mem_of_getElem? (i := 35) rfl)) (j := 0) rfl (zp_o0 (by omega) (by omega) (by omega) (by omega)) ?_
          rw [hpsξ]
          refine ⟨rfl, ?_⟩
          have hffξ : zf_edr V n1ξ npξ Lwξ p1ξ p2ξ p3ξ = (((zd_X V n1ξ npξ Lwξ p1ξ).2 p2ξ.toNat), (zp_set V 0 0 0)) := by
            unfold zf_edr
            rw [if_pos ((Iff.mp htn441ξ) (by omega)), if_pos ((Iff.mp hti445ξ) (by omega)), if_pos ((Iff.mp htn449ξ) (by omega)), if_neg hc453ξ]
          show zMVr A (zf_edr V n1ξ npξ Lwξ p1ξ p2ξ p3ξ).2 u.1 Gl ∧ ((zd_X V n1ξ npξ Lwξ p1ξ).2 p2ξ.toNat) = (zf_edr V n1ξ npξ Lwξ p1ξ p2ξ p3ξ).1
          rw [hffξ]
          exact ⟨⟨Ml, hMlξ, hVlξ, hSlξ⟩, rfl⟩
      · have hbf452ξ : ¬ (0 ≤ p3ξ ∧ p3ξ ≤ 1) := fun h9ξ => absurd ((Iff.mpr htn449ξ) h9ξ) (by omega)
        refine zp_const (pc := 35) hx hb (zd_X12_ends (35, .iconst (-1), 1, 0, []) (List.mem_of_getElem? (i := 19) rfl)) rfl rfl ?_
        refine zp_iret (pc := 36) (n := (-1)) hx hb hEξ hQξ hU5ξ rfl (by decide) (zd_X12_ends (36, .ireturn, 1, 0, []) (List.mem_of_getElem? (i := 20) rfl)) (j := 0) rfl (zp_o0 (by omega) (by omega) (by omega) (by omega)) ?_
        rw [hpsξ]
        refine ⟨rfl, ?_⟩
        have hffξ : zf_edr V n1ξ npξ Lwξ p1ξ p2ξ p3ξ = ((-1), (zp_set V 0 0 0)) := by
          unfold zf_edr
          rw [if_pos ((Iff.mp htn441ξ) (by omega)), if_pos ((Iff.mp hti445ξ) (by omega)), if_neg (fun h9ξ => absurd ((Iff.mpr htn449ξ) h9ξ) (by omega))]
        show zMVr A (zf_edr V n1ξ npξ Lwξ p1ξ p2ξ p3ξ).2 u.1 (zp_set (zp_n u.2.1) (A 0) 0 0) ∧ (-1) = (zf_edr V n1ξ npξ Lwξ p1ξ p2ξ p3ξ).1
        rw [hffξ]
        exact ⟨⟨(zp_set M 0 0 0), (zM_set hMξ (List.mem_of_getElem? (i := 0) rfl) (by decide)), (zV_set hVξ), (zSb_set (by decide) hSbξ)⟩, rfl⟩
noncomputable def zf_hor (V : Nat → Nat → Int) (n1ξ npξ : Nat) (Lwξ : List yK) (p1ξ : Int) (p2ξ : Int) (p3ξ : Int) : Int × (Nat → Nat → Int) := if 0 ≤ p1ξ ∧ p1ξ ≤ 12 then if 0 ≤ p2ξ ∧ p2ξ ≤ 23 then if 0 ≤ p3ξ ∧ p3ξ ≤ (npξ : Int) then if ¬ p3ξ = 0 then ((zd_sp (zRw V) Lwξ p1ξ (zd_pw (zd_ru (zRw V) Lwξ p1ξ) p1ξ p2ξ.toNat) p2ξ.toNat (p3ξ - 1).toNat), (zp_set V 0 0 0)) else ((zd_pw (zd_ru (zRw V) Lwξ p1ξ) p1ξ p2ξ.toNat), (zp_set V 0 0 0)) else ((-1), (zp_set V 0 0 0)) else ((-1), (zp_set V 0 0 0)) else ((-1), (zp_set V 0 0 0))
noncomputable def zK_hor : zk_K := (zt_mn 247, prog_14_method_79_code, 4, (Option.some Jvm.ClassFile.FieldType.int), 1, 12, [(2, 13, 0, 0), (0, 0, (-2147483648), 2147483647), (0, 0, (-2147483648), 2147483647), (0, 0, (-2147483648), 2147483647)], [(some (0, 0, (-2147483648), 2147483647), [])], zUE, (6, 340, 0, 0))
noncomputable def zφ_hor (A : Nat → Nat) (V : Nat → Nat → Int) (n1ξ npξ : Nat) (Lwξ : List yK) : (Nat → Option Nat) → (Nat → Nat → Int) → List Int → Prop := fun P G ps => zMVr A V P G ∧ ps.getD 0 0 = (A 0 : Int) ∧ zLV V Lwξ ∧ zd_ok (zRw V) n1ξ npξ ∧ V 0 47 = -1
noncomputable def zψ_hor (A : Nat → Nat) (V : Nat → Nat → Int) (n1ξ npξ : Nat) (Lwξ : List yK) : (Nat → Option Nat) → (Nat → Nat → Int) → List Int → (Nat → Option Nat) → (Nat → Nat → Int) → Int → Prop := fun P G ps P' G' rn => P' = P ∧ zMVr A (zf_hor V n1ξ npξ Lwξ (ps.getD 1 0) (ps.getD 2 0) (ps.getD 3 0)).2 P' G' ∧ rn = (zf_hor V n1ξ npξ Lwξ (ps.getD 1 0) (ps.getD 2 0) (ps.getD 3 0)).1
theorem zX_hor {l : Launch} {w : zk_W} (hWξ : zh_W w) (A : Nat → Nat) (V : Nat → Nat → Int) (n1ξ npξ : Nat) (Lwξ : List yK) : zk_metX l w zt_dv zt_TB zK_hor (zp_A (zφ_hor A V n1ξ npξ Lwξ)) (zp_B (zψ_hor A V n1ξ npξ Lwξ)) ∧ zk_cok w zt_TB zK_hor := by
  refine zp_methX (cn := "WoundTownModel") zp_lkall hWξ (pl := 1838) rfl (by decide +kernel) (fun p e R s m args below meth c Q u hx hb hEξ hQξ hU5ξ heffξ hnLξ hokξ hφ => ?_)
  have hwξ := hWξ.1
  obtain ⟨p0ξ, p1ξ, p2ξ, p3ξ, hpsξ, tk0, tk1, tk2, tk3⟩ := zp_ps4 hokξ
  have hrmξ : zk_Kr (zk_ev (zt_types, zp_lk, zt_dv, [], [], zp_lc, zK_hor)) = zk_Kr zK_hor := rfl
  rw [hpsξ] at hφ ⊢
  have hφ : zMVr A V u.1 (zp_n u.2.1) ∧ p0ξ = (A 0 : Int) ∧ zLV V Lwξ ∧ zd_ok (zRw V) n1ξ npξ ∧ V 0 47 = -1 := hφ
  obtain ⟨⟨M, hMξ, hVξ, hSbξ⟩, rfl, hLVξ, hDξ, h47ξ⟩ := hφ
  have hi1ξ := zp_int tk1
  have hi2ξ := zp_int tk2
  have hi3ξ := zp_int tk3
  show zp_J p l e R s m args below meth c Q w u [] 0 [(0, 2, (A 0 : Int)), (1, 0, p1ξ), (2, 0, p2ξ), (3, 0, p3ξ)] [] u.1 (zp_n u.2.1)
  have hDkξ := hDξ
  obtain ⟨hn10ξ, hnp6ξ, hn1ξ, hnpξ, hDwξ, hDpξ⟩ := hDξ
  have hn1ξ : V 3 (2000 + 1) = (n1ξ : Int) := hn1ξ
  have hnpξ : V 3 (2000 + 0) = (npξ : Int) := hnpξ
  refine zp_load (pc := 0) hx hb (zd_X12_hour (0, .aload_n 0, 1, 0, []) (List.mem_of_getElem? (i := 0) rfl)) rfl (j := 0) rfl ?_
  refine zp_const (pc := 1) hx hb (zd_X12_hour (1, .iconst 0, 1, 0, []) (List.mem_of_getElem? (i := 1) rfl)) rfl rfl ?_
  refine zp_putf (pc := 2) hx hb hEξ hwξ heffξ (zd_X12_hour (2, .putfield 161, 3, 0, []) (List.mem_of_getElem? (i := 2) rfl)) (j := 18) rfl rfl rfl (zM_P hMξ (List.mem_of_getElem? (i := 0) rfl)) (zp_o0 (by decide) (by decide) (by decide) (by decide)) ?_
  refine zp_load (pc := 5) hx hb (zd_X12_hour (5, .iload_n 1, 1, 0, []) (List.mem_of_getElem? (i := 3) rfl)) rfl (j := 1) rfl ?_
  refine zp_i2l (pc := 6) hx hb (zd_X12_hour (6, .i2l, 1, 0, []) (List.mem_of_getElem? (i := 4) rfl)) ?_
  refine zp_const (pc := 7) hx hb (zd_X12_hour (7, .lconst 0, 1, 0, []) (List.mem_of_getElem? (i := 5) rfl)) rfl rfl ?_
  refine zp_ldc2 (pc := 8) hx hb hEξ (zd_X12_hour (8, .ldc2_w 431, 3, 0, []) (List.mem_of_getElem? (i := 6) rfl)) (j := 105) rfl ?_
  refine zp_call (pc := 11) (how := 1) (idx := 181) (mi := 186) (S := []) hx hb hEξ hwξ heffξ hrmξ (zX_in2 hWξ) rfl (j := 2) rfl rfl (by decide +kernel) (zd_X12_hour (11, .invokestatic 181, 3, 0, []) (List.mem_of_getElem? (i := 7) rfl)) [p1ξ, 0, 12] rfl ⟨zp_o1 (by first | assumption | exact zp_r1 (by omega) (by omega)), zp_o1 (by first | assumption | exact zp_r1 (by omega) (by omega)), zp_o1 (by first | assumption | exact zp_r1 (by omega) (by omega)), trivial⟩ (Nat.le_of_ble_eq_true rfl) trivial (fun al halξ rnn456ξ Pn456 Gn456 hextn456ξ hfrn456ξ hokn456ξ hcsn456ξ hpsin456ξ => ?_)
  obtain rfl := List.mem_singleton.mp halξ
  have hrn456ξ := zp_int (hokn456ξ _ rfl).1
  obtain ⟨hPen456ξ, hGen456ξ, htn456ξ⟩ := hpsin456ξ
  rw [hPen456ξ, hGen456ξ]
  clear hextn456ξ hfrn456ξ hcsn456ξ hPen456ξ hGen456ξ
  have htn456ξ : rnn456ξ = 1 ↔ 0 ≤ p1ξ ∧ p1ξ ≤ 12 := htn456ξ
  refine zp_if (pc := 14) (tgt := 45) hx hb (zd_X12_hour (14, .ifCond .eq 31, 3, 0, []) (List.mem_of_getElem? (i := 8) rfl)) rfl (fun (hc457ξ : rnn456ξ = 0) => ?_) (fun (hc457ξ : ¬ (rnn456ξ = 0)) => ?_)
  · have hbf458ξ : ¬ (0 ≤ p1ξ ∧ p1ξ ≤ 12) := fun h9ξ => absurd ((Iff.mpr htn456ξ) h9ξ) (by omega)
    refine zp_const (pc := 45) hx hb (zd_X12_hour (45, .iconst (-1), 1, 0, []) (List.mem_of_getElem? (i := 25) rfl)) rfl rfl ?_
    refine zp_iret (pc := 46) (n := (-1)) hx hb hEξ hQξ hU5ξ rfl (by decide) (zd_X12_hour (46, .ireturn, 1, 0, []) (List.mem_of_getElem? (i := 26) rfl)) (j := 0) rfl (zp_o0 (by omega) (by omega) (by omega) (by omega)) ?_
    rw [hpsξ]
    refine ⟨rfl, ?_⟩
    have hffξ : zf_hor V n1ξ npξ Lwξ p1ξ p2ξ p3ξ = ((-1), (zp_set V 0 0 0)) := by
      unfold zf_hor
      rw [if_neg (fun h9ξ => absurd ((Iff.mpr htn456ξ) h9ξ) (by omega))]
    show zMVr A (zf_hor V n1ξ npξ Lwξ p1ξ p2ξ p3ξ).2 u.1 (zp_set (zp_n u.2.1) (A 0) 0 0) ∧ (-1) = (zf_hor V n1ξ npξ Lwξ p1ξ p2ξ p3ξ).1
    rw [hffξ]
    exact ⟨⟨(zp_set M 0 0 0), (zM_set hMξ (List.mem_of_getElem? (i := 0) rfl) (by decide)), (zV_set hVξ), (zSb_set (by decide) hSbξ)⟩, rfl⟩
  · have hbt459ξ := (Iff.mp htn456ξ) (by omega)
    refine zp_load (pc := 17) hx hb (zd_X12_hour (17, .iload_n 2, 1, 0, []) (List.mem_of_getElem? (i := 9) rfl)) rfl (j := 2) rfl ?_
    refine zp_i2l (pc := 18) hx hb (zd_X12_hour (18, .i2l, 1, 0, []) (List.mem_of_getElem? (i := 10) rfl)) ?_
    refine zp_const (pc := 19) hx hb (zd_X12_hour (19, .lconst 0, 1, 0, []) (List.mem_of_getElem? (i := 11) rfl)) rfl rfl ?_
    refine zp_ldc2 (pc := 20) hx hb hEξ (zd_X12_hour (20, .ldc2_w 215, 3, 0, []) (List.mem_of_getElem? (i := 12) rfl)) (j := 87) rfl ?_
    refine zp_call (pc := 23) (how := 1) (idx := 181) (mi := 186) (S := []) hx hb hEξ hwξ heffξ hrmξ (zX_in2 hWξ) rfl (j := 2) rfl rfl (by decide +kernel) (zd_X12_hour (23, .invokestatic 181, 3, 0, []) (List.mem_of_getElem? (i := 13) rfl)) [p2ξ, 0, 23] rfl ⟨zp_o1 (by first | assumption | exact zp_r1 (by omega) (by omega)), zp_o1 (by first | assumption | exact zp_r1 (by omega) (by omega)), zp_o1 (by first | assumption | exact zp_r1 (by omega) (by omega)), trivial⟩ (Nat.le_of_ble_eq_true rfl) trivial (fun al halξ rnn460ξ Pn460 Gn460 hextn460ξ hfrn460ξ hokn460ξ hcsn460ξ hpsin460ξ => ?_)
    obtain rfl := List.mem_singleton.mp halξ
    have hrn460ξ := zp_int (hokn460ξ _ rfl).1
    obtain ⟨hPen460ξ, hGen460ξ, htn460ξ⟩ := hpsin460ξ
    rw [hPen460ξ, hGen460ξ]
    clear hextn460ξ hfrn460ξ hcsn460ξ hPen460ξ hGen460ξ
    have htn460ξ : rnn460ξ = 1 ↔ 0 ≤ p2ξ ∧ p2ξ ≤ 23 := htn460ξ
    refine zp_if (pc := 26) (tgt := 45) hx hb (zd_X12_hour (26, .ifCond .eq 19, 3, 0, []) (List.mem_of_getElem? (i := 14) rfl)) rfl (fun (hc461ξ : rnn460ξ = 0) => ?_) (fun (hc461ξ : ¬ (rnn460ξ = 0)) => ?_)
    · have hbf462ξ : ¬ (0 ≤ p2ξ ∧ p2ξ ≤ 23) := fun h9ξ => absurd ((Iff.mpr htn460ξ) h9ξ) (by omega)
      refine zp_const (pc := 45) hx hb (zd_X12_hour (45, .iconst (-1), 1, 0, []) (List.mem_of_getElem? (i := 25) rfl)) rfl rfl ?_
      refine zp_iret (pc := 46) (n := (-1)) hx hb hEξ hQξ hU5ξ rfl (by decide) (zd_X12_hour (46, .ireturn, 1, 0, []) (List.mem_of_getElem? (i := 26) rfl)) (j := 0) rfl (zp_o0 (by omega) (by omega) (by omega) (by omega)) ?_
      rw [hpsξ]
      refine ⟨rfl, ?_⟩
      have hffξ : zf_hor V n1ξ npξ Lwξ p1ξ p2ξ p3ξ = ((-1), (zp_set V 0 0 0)) := by
        unfold zf_hor
        rw [if_pos ((Iff.mp htn456ξ) (by omega)), if_neg (fun h9ξ => absurd ((Iff.mpr htn460ξ) h9ξ) (by omega))]
      show zMVr A (zf_hor V n1ξ npξ Lwξ p1ξ p2ξ p3ξ).2 u.1 (zp_set (zp_n u.2.1) (A 0) 0 0) ∧ (-1) = (zf_hor V n1ξ npξ Lwξ p1ξ p2ξ p3ξ).1
      rw [hffξ]
      exact ⟨⟨(zp_set M 0 0 0), (zM_set hMξ (List.mem_of_getElem? (i := 0) rfl) (by decide)), (zV_set hVξ), (zSb_set (by decide) hSbξ)⟩, rfl⟩
    · have hbt463ξ := (Iff.mp htn460ξ) (by omega)
      refine zp_load (pc := 29) hx hb (zd_X12_hour (29, .iload_n 3, 1, 0, []) (List.mem_of_getElem? (i := 15) rfl)) rfl (j := 3) rfl ?_
      refine zp_i2l (pc := 30) hx hb (zd_X12_hour (30, .i2l, 1, 0, []) (List.mem_of_getElem? (i := 16) rfl)) ?_
      refine zp_const (pc := 31) hx hb (zd_X12_hour (31, .lconst 0, 1, 0, []) (List.mem_of_getElem? (i := 17) rfl)) rfl rfl ?_
      refine zp_load (pc := 32) hx hb (zd_X12_hour (32, .aload_n 0, 1, 0, []) (List.mem_of_getElem? (i := 18) rfl)) rfl (j := 0) rfl ?_
      refine zp_getf (n := (A 3 : Int)) (pc := 33) hx hb hEξ hwξ (zd_X12_hour (33, .getfield 13, 3, 0, []) (List.mem_of_getElem? (i := 19) rfl)) (j := 21) rfl rfl rfl (zM_P hMξ (List.mem_of_getElem? (i := 0) rfl)) ((zp_set_ne (Or.inr (by decide))).trans (((zM_G hMξ (List.mem_of_getElem? (i := 0) rfl) 3).trans (zM_F hMξ (List.mem_of_getElem? (i := 1) rfl))))) ?_
      refine zp_const (pc := 36) hx hb (zd_X12_hour (36, .iconst 0, 1, 0, []) (List.mem_of_getElem? (i := 20) rfl)) rfl rfl ?_
      refine zp_ialdT (j := 0) (v := (npξ : Int)) (pc := 37) hx hb hwξ (zd_X12_hour (37, .iaload, 1, 0, []) (List.mem_of_getElem? (i := 21) rfl)) zl_T59 rfl (zl_kd 0) (zM_P hMξ (List.mem_of_getElem? (i := 2) rfl)) (by omega) (show 0 < 5580 by omega) ((zp_set_ne (Or.inl (zM_ne hMξ (List.mem_of_getElem? (i := 2) rfl) (List.mem_of_getElem? (i := 0) rfl) (by decide)))).trans ((((zM_G hMξ (List.mem_of_getElem? (i := 2) rfl) (2000 + 0)).trans (hVξ 3 (2000 + 0) (Or.inl (by decide)))).trans hnpξ))) (fun _ => ?_)
      refine zp_i2l (pc := 38) hx hb (zd_X12_hour (38, .i2l, 1, 0, []) (List.mem_of_getElem? (i := 22) rfl)) ?_
      refine zp_call (pc := 39) (how := 1) (idx := 181) (mi := 186) (S := []) hx hb hEξ hwξ heffξ hrmξ (zX_in2 hWξ) rfl (j := 2) rfl rfl (by decide +kernel) (zd_X12_hour (39, .invokestatic 181, 3, 0, []) (List.mem_of_getElem? (i := 23) rfl)) [p3ξ, 0, (npξ : Int)] rfl ⟨zp_o1 (by first | assumption | exact zp_r1 (by omega) (by omega)), zp_o1 (by first | assumption | exact zp_r1 (by omega) (by omega)), zp_o1 (by first | assumption | exact zp_r1 (by omega) (by omega)), trivial⟩ (Nat.le_of_ble_eq_true rfl) trivial (fun al halξ rnn465ξ Pn465 Gn465 hextn465ξ hfrn465ξ hokn465ξ hcsn465ξ hpsin465ξ => ?_)
      obtain rfl := List.mem_singleton.mp halξ
      have hrn465ξ := zp_int (hokn465ξ _ rfl).1
      obtain ⟨hPen465ξ, hGen465ξ, htn465ξ⟩ := hpsin465ξ
      rw [hPen465ξ, hGen465ξ]
      clear hextn465ξ hfrn465ξ hcsn465ξ hPen465ξ hGen465ξ
      have htn465ξ : rnn465ξ = 1 ↔ 0 ≤ p3ξ ∧ p3ξ ≤ (npξ : Int) := htn465ξ
      refine zp_if (pc := 42) (tgt := 47) hx hb (zd_X12_hour (42, .ifCond .ne 5, 3, 0, []) (List.mem_of_getElem? (i := 24) rfl)) rfl (fun (hc466ξ : ¬ rnn465ξ = 0) => ?_) (fun (hc466ξ : ¬ (¬ rnn465ξ = 0)) => ?_)
      · have hbt467ξ := (Iff.mp htn465ξ) (by omega)
        refine zp_load (pc := 47) hx hb (zd_X12_hour (47, .aload_n 0, 1, 0, []) (List.mem_of_getElem? (i := 27) rfl)) rfl (j := 0) rfl ?_
        refine zp_load (pc := 48) hx hb (zd_X12_hour (48, .iload_n 1, 1, 0, []) (List.mem_of_getElem? (i := 28) rfl)) rfl (j := 1) rfl ?_
        have hVyξ : ∀ o k, zNs o k → (zp_set M 0 0 0) o k = (zp_set V 0 0 0) o k := (zV_set hVξ)
        have h47yξ : (zp_set V 0 0 0) 0 47 = -1 := ((zp_set_ne (Or.inr (by decide))).trans ((Eq.trans rfl h47ξ)))
        have hLyξ : zLV (zp_set V 0 0 0) Lwξ := (zLV_o (by decide) (Or.inr (by decide)) hLVξ)
        refine zp_call (pc := 49) (how := 0) (idx := 457) (mi := 248) (S := []) hx hb hEξ hwξ heffξ hrmξ (zX_lay hWξ A (zp_set M 0 0 0) n1ξ npξ (zRw V) Lwξ) rfl (j := 47) rfl rfl (by decide +kernel) (zd_X12_hour (49, .invokevirtual 457, 3, 0, []) (List.mem_of_getElem? (i := 29) rfl)) [(A 0 : Int), p1ξ] rfl ⟨zp_o2 (zM_P hMξ (List.mem_of_getElem? (i := 0) rfl)), zp_o0 (by omega) (by omega) (by omega) (by omega), trivial⟩ (Nat.le_of_ble_eq_true rfl) ⟨(zM_set hMξ (List.mem_of_getElem? (i := 0) rfl) (by decide)), rfl, (hVyξ 0 47 (Or.inr (by decide))).trans h47yξ, (hVyξ 0 20 (Or.inr (by decide))).trans hLyξ.2.2.2.2, hDkξ, fun j => (hVyξ 3 _ (Or.inl (by decide))).trans ((zp_set_ne (Or.inl (by decide))).trans (rfl)), hLVξ.1, hLVξ.2.1, hLVξ.2.2.1, (zSb_set (by decide) hSbξ), (show (0 : Int) ≤ p1ξ by omega), (show (p1ξ : Int) ≤ 12 by omega)⟩ (fun al halξ rnl Pl Gl hextlξ hfrlξ hoklξ hcslξ hpsilξ => ?_)
        obtain rfl := List.mem_singleton.mp halξ
        obtain ⟨hPelξ, Ml, hMlξ, htlξ⟩ := hpsilξ
        subst hPelξ
        obtain ⟨hNlξ, hSlξ, hDlξ, hxlξ⟩ := htlξ
        have hVlξ : ∀ o k, zNs o k → Ml o k = (zp_set V 0 0 0) o k := fun o k hkξ => (hNlξ o k hkξ).trans (hVyξ o k hkξ)
        refine zp_load (pc := 52) hx hb (zd_X12_hour (52, .iload_n 3, 1, 0, []) (List.mem_of_getElem? (i := 30) rfl)) rfl (j := 3) rfl ?_
        refine zp_if (pc := 53) (tgt := 65) hx hb (zd_X12_hour (53, .ifCond .ne 12, 3, 0, []) (List.mem_of_getElem? (i := 31) rfl)) rfl (fun (hc469ξ : ¬ p3ξ = 0) => ?_) (fun (hc469ξ : ¬ (¬ p3ξ = 0)) => ?_)
        · refine zp_load (pc := 65) hx hb (zd_X12_hour (65, .aload_n 0, 1, 0, []) (List.mem_of_getElem? (i := 37) rfl)) rfl (j := 0) rfl ?_
          refine zp_getf (n := (A 42 : Int)) (pc := 66) hx hb hEξ hwξ (zd_X12_hour (66, .getfield 113, 3, 0, []) (List.mem_of_getElem? (i := 38) rfl)) (j := 60) rfl rfl rfl (zM_P hMlξ (List.mem_of_getElem? (i := 0) rfl)) ((zM_G hMlξ (List.mem_of_getElem? (i := 0) rfl) 42).trans (zM_F hMlξ (List.mem_of_getElem? (i := 21) rfl))) ?_
          refine zp_const (pc := 69) hx hb (zd_X12_hour (69, .bipush 6, 2, 0, []) (List.mem_of_getElem? (i := 39) rfl)) rfl rfl ?_
          refine zp_load (pc := 71) hx hb (zd_X12_hour (71, .iload_n 2, 1, 0, []) (List.mem_of_getElem? (i := 40) rfl)) rfl (j := 2) rfl ?_
          refine zp_mul (n := (6 * p2ξ)) (pc := 72) hx hb (zd_X12_hour (72, .imul, 1, 0, []) (List.mem_of_getElem? (i := 41) rfl)) (by omega) (zp_r0 (by omega) (by omega)) ?_
          refine zp_load (pc := 73) hx hb (zd_X12_hour (73, .iload_n 3, 1, 0, []) (List.mem_of_getElem? (i := 42) rfl)) rfl (j := 3) rfl ?_
          refine zp_add (n := ((6 * p2ξ) + p3ξ)) (pc := 74) hx hb (zd_X12_hour (74, .iadd, 1, 0, []) (List.mem_of_getElem? (i := 43) rfl)) (by omega) (zp_r0 (by omega) (by omega)) ?_
          refine zp_const (pc := 75) hx hb (zd_X12_hour (75, .iconst 1, 1, 0, []) (List.mem_of_getElem? (i := 44) rfl)) rfl rfl ?_
          refine zp_sub (n := (((6 * p2ξ) + p3ξ) - 1)) (pc := 76) hx hb (zd_X12_hour (76, .isub, 1, 0, []) (List.mem_of_getElem? (i := 45) rfl)) (by omega) (zp_r0 (by omega) (by omega)) ?_
          refine zp_iald (j := ((((6 * p2ξ) + p3ξ) - 1)).toNat) (v := (zd_sp (zRw V) Lwξ p1ξ (zd_pw (zd_ru (zRw V) Lwξ p1ξ) p1ξ p2ξ.toNat) p2ξ.toNat (p3ξ - 1).toNat)) (pc := 77) hx hb hwξ (zd_X12_hour (77, .iaload, 1, 0, []) (List.mem_of_getElem? (i := 46) rfl)) (show zp_ia 1 79 = some (144, 0, 0, (-2147483648), 2147483647) from rfl) (zM_P hMlξ (List.mem_of_getElem? (i := 22) rfl)) (by omega) (by omega) ((zM_G hMlξ (List.mem_of_getElem? (i := 22) rfl) (2000 + ((((6 * p2ξ) + p3ξ) - 1)).toNat)).trans (Eq.trans (congrArg (fun z => Ml 42 (2000 + z)) (show ((((6 * p2ξ) + p3ξ) - 1)).toNat = 6 * p2ξ.toNat + (p3ξ - 1).toNat by omega)) (hDlξ.1 p2ξ.toNat (p3ξ - 1).toNat (by omega) (by omega)))) (fun hk470ξ => ?_)
          have hk470bξ := zp_int hk470ξ
          clear hk470ξ
          refine zp_iret (pc := 78) (n := (zd_sp (zRw V) Lwξ p1ξ (zd_pw (zd_ru (zRw V) Lwξ p1ξ) p1ξ p2ξ.toNat) p2ξ.toNat (p3ξ - 1).toNat)) hx hb hEξ hQξ hU5ξ rfl (by decide) (zd_X12_hour (78, .ireturn, 1, 0, []) (List.mem_of_getElem? (i := 47) rfl)) (j := 0) rfl (zp_o0 (by omega) (by omega) (by omega) (by omega)) ?_
          rw [hpsξ]
          refine ⟨rfl, ?_⟩
          have hffξ : zf_hor V n1ξ npξ Lwξ p1ξ p2ξ p3ξ = ((zd_sp (zRw V) Lwξ p1ξ (zd_pw (zd_ru (zRw V) Lwξ p1ξ) p1ξ p2ξ.toNat) p2ξ.toNat (p3ξ - 1).toNat), (zp_set V 0 0 0)) := by
            unfold zf_hor
            rw [if_pos ((Iff.mp htn456ξ) (by omega)), if_pos ((Iff.mp htn460ξ) (by omega)), if_pos ((Iff.mp htn465ξ) (by omega)), if_pos hc469ξ]
          show zMVr A (zf_hor V n1ξ npξ Lwξ p1ξ p2ξ p3ξ).2 u.1 Gl ∧ (zd_sp (zRw V) Lwξ p1ξ (zd_pw (zd_ru (zRw V) Lwξ p1ξ) p1ξ p2ξ.toNat) p2ξ.toNat (p3ξ - 1).toNat) = (zf_hor V n1ξ npξ Lwξ p1ξ p2ξ p3ξ).1
          rw [hffξ]
          exact ⟨⟨Ml, hMlξ, hVlξ, hSlξ⟩, rfl⟩
        · refine zp_load (pc := 56) hx hb (zd_X12_hour (56, .aload_n 0, 1, 0, []) (List.mem_of_getElem? (i := 32) rfl)) rfl (j := 0) rfl ?_
          refine zp_getf (n := (A 41 : Int)) (pc := 57) hx hb hEξ hwξ (zd_X12_hour (57, .getfield 110, 3, 0, []) (List.mem_of_getElem? (i := 33) rfl)) (j := 59) rfl rfl rfl (zM_P hMlξ (List.mem_of_getElem? (i := 0) rfl)) ((zM_G hMlξ (List.mem_of_getElem? (i := 0) rfl) 41).trans (zM_F hMlξ (List.mem_of_getElem? (i := 20) rfl))) ?_
          refine zp_load (pc := 60) hx hb (zd_X12_hour (60, .iload_n 2, 1, 0, []) (List.mem_of_getElem? (i := 34) rfl)) rfl (j := 2) rfl ?_
          refine zp_iald (j := p2ξ.toNat) (v := (zd_pw (zd_ru (zRw V) Lwξ p1ξ) p1ξ p2ξ.toNat)) (pc := 61) hx hb hwξ (zd_X12_hour (61, .iaload, 1, 0, []) (List.mem_of_getElem? (i := 35) rfl)) (show zp_ia 1 78 = some (24, 0, 0, (-2147483648), 2147483647) from rfl) (zM_P hMlξ (List.mem_of_getElem? (i := 21) rfl)) (by omega) (by omega) ((zM_G hMlξ (List.mem_of_getElem? (i := 21) rfl) (2000 + p2ξ.toNat)).trans (hDlξ.2.1 p2ξ.toNat (by omega))) (fun hk471ξ => ?_)
          have hk471bξ := zp_int hk471ξ
          clear hk471ξ
          refine zp_goto (tgt := 78) (pc := 62) hx hb (zd_X12_hour (62, .goto 16, 3, 0, []) (List.mem_of_getElem? (i := 36) rfl)) rfl ?_
          refine zp_iret (pc := 78) (n := (zd_pw (zd_ru (zRw V) Lwξ p1ξ) p1ξ p2ξ.toNat)) hx hb hEξ hQξ hU5ξ rfl (by decide) (zd_X12_hour (78, .ireturn, 1, 0, []) (List.mem_of_getElem? (i := 47) rfl)) (j := 0) rfl (zp_o0 (by omega) (by omega) (by omega) (by omega)) ?_
          rw [hpsξ]
          refine ⟨rfl, ?_⟩
          have hffξ : zf_hor V n1ξ npξ Lwξ p1ξ p2ξ p3ξ = ((zd_pw (zd_ru (zRw V) Lwξ p1ξ) p1ξ p2ξ.toNat), (zp_set V 0 0 0)) := by
            unfold zf_hor
            rw [if_pos ((Iff.mp htn456ξ) (by omega)), if_pos ((Iff.mp htn460ξ) (by omega)), if_pos ((Iff.mp htn465ξ) (by omega)), if_neg hc469ξ]
          show zMVr A (zf_hor V n1ξ npξ Lwξ p1ξ p2ξ p3ξ).2 u.1 Gl ∧ (zd_pw (zd_ru (zRw V) Lwξ p1ξ) p1ξ p2ξ.toNat) = (zf_hor V n1ξ npξ Lwξ p1ξ p2ξ p3ξ).1
          rw [hffξ]
          exact ⟨⟨Ml, hMlξ, hVlξ, hSlξ⟩, rfl⟩
      · have hbf468ξ : ¬ (0 ≤ p3ξ ∧ p3ξ ≤ (npξ : Int)) := fun h9ξ => absurd ((Iff.mpr htn465ξ) h9ξ) (by omega)
        refine zp_const (pc := 45) hx hb (zd_X12_hour (45, .iconst (-1), 1, 0, []) (List.mem_of_getElem? (i := 25) rfl)) rfl rfl ?_
        refine zp_iret (pc := 46) (n := (-1)) hx hb hEξ hQξ hU5ξ rfl (by decide) (zd_X12_hour (46, .ireturn, 1, 0, []) (List.mem_of_getElem? (i := 26) rfl)) (j := 0) rfl (zp_o0 (by omega) (by omega) (by omega) (by omega)) ?_
        rw [hpsξ]
        refine ⟨rfl, ?_⟩
        have hffξ : zf_hor V n1ξ npξ Lwξ p1ξ p2ξ p3ξ = ((-1), (zp_set V 0 0 0)) := by
          unfold zf_hor
          rw [if_pos ((Iff.mp htn456ξ) (by omega)), if_pos ((Iff.mp htn460ξ) (by omega)), if_neg (fun h9ξ => absurd ((Iff.mpr htn465ξ) h9ξ) (by omega))]
        show zMVr A (zf_hor V n1ξ npξ Lwξ p1ξ p2ξ p3ξ).2 u.1 (zp_set (zp_n u.2.1) (A 0) 0 0) ∧ (-1) = (zf_hor V n1ξ npξ Lwξ p1ξ p2ξ p3ξ).1
        rw [hffξ]
        exact ⟨⟨(zp_set M 0 0 0), (zM_set hMξ (List.mem_of_getElem? (i := 0) rfl) (by decide)), (zV_set hVξ), (zSb_set (by decide) hSbξ)⟩, rfl⟩