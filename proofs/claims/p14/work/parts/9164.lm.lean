/-! part lm: the reference over logical cells: lasts, odds -/
/-- all stands as it did but for what is kept on paper -/
noncomputable def zKp (V V' : Nat → Nat → Int) : Prop := ∀ o k, (o ≠ 6 ∨ k < 2544) → (o ≠ 0 ∨ k ≠ 0) → V' o k = V o k
/-- what stands on paper: a row with another life, another day -/
noncomputable def zPp (V1 V : Nat → Nat → Int) (x d : Int) : Prop := (∀ o k, ¬ (o = 3 ∧ (k = 2000 + 5 ∨ k = 2000 + 8)) → V o k = V1 o k) ∧ V 3 (2000 + 8) = x ∧ V 3 (2000 + 5) = d
theorem zPp_R {V1 V : Nat → Nat → Int} {x : Int} {k : Nat} (h : zPp V1 V x (V1 3 (2000 + 5) + (k : Int))) : zRw V = zy_R (zRw V1) x k := by
  obtain ⟨h1ξ, h2ξ, h3ξ⟩ := h
  funext j
  unfold zy_R
  by_cases c5 : j = 5
  · subst c5
    rw [yu_at]
    exact h3ξ
  · rw [yu_ne c5]
    by_cases c8 : j = 8
    · subst c8
      rw [yu_at]
      exact h2ξ
    · rw [yu_ne c8]
      exact h1ξ _ _ (by omega)
theorem zPp_i {V1 : Nat → Nat → Int} : zPp V1 V1 (V1 3 (2000 + 8)) (V1 3 (2000 + 5)) := ⟨fun _ _ _ => rfl, rfl, rfl⟩
theorem zPp_s {V1 V : Nat → Nat → Int} {x d x' d' : Int} (h : zPp V1 V x d) : zPp V1 (zp_set (zp_set V 3 (2000 + 8) x') 3 (2000 + 5) d') x' d' := by
  obtain ⟨h1ξ, h2ξ, h3ξ⟩ := h
  refine ⟨fun o k hkξ => ?_, (zp_set_ne (Or.inr (by decide))).trans zp_set_self, zp_set_self⟩
  rw [zp_set_ne (by omega), zp_set_ne (by omega)]
  exact h1ξ o k hkξ
/-- put back -/
theorem zPp_b {V V2 : Nat → Nat → Int} {x d : Int} (h : zPp (zc_cp (zp_set V 0 0 0) 3 5 6 (34 * 16) 34) V2 x d) : zKp V (zc_cp V2 6 (34 * 16) 3 5 34) := by
  obtain ⟨h1ξ, h2ξ, h3ξ⟩ := h
  intro o k c1 c2
  have e1 : ∀ o k, (o ≠ 6 ∨ k < 2544) → (o ≠ 0 ∨ k ≠ 0) → zc_cp (zp_set V 0 0 0) 3 5 6 (34 * 16) 34 o k = V o k := fun o k c1 c2 => by
    have e2 : zc_cp (zp_set V 0 0 0) 3 5 6 (34 * 16) 34 o k = zp_set V 0 0 0 o k := if_neg (fun z => by omega)
    rw [e2, zp_set_ne c2]
  by_cases c3 : o = 3 ∧ 2005 ≤ k ∧ k < 2039
  · obtain ⟨rfl, c4, c5⟩ := c3
    obtain ⟨j, rfl⟩ : ∃ j, k = 2000 + j := ⟨k - 2000, by omega⟩
    rw [zc_cp_e (by omega) (by omega), h1ξ _ _ (by omega), zc_cp_e (by omega) (by omega), show 5 + (34 * 16 + (j - 5) - 34 * 16) = j by omega]
    exact zp_set_ne (Or.inl (by decide))
  · have e3 : zc_cp V2 6 (34 * 16) 3 5 34 o k = V2 o k := if_neg (fun z => c3 ⟨z.1, by omega, by omega⟩)
    rw [e3, h1ξ _ _ (fun z => c3 ⟨z.1, by omega, by omega⟩)]
    exact e1 o k c1 c2
noncomputable def zK_lasr : zk_K := (zt_mn 263, prog_14_method_88_code, 4, (Option.some Jvm.ClassFile.FieldType.int), 1, 12, [(2, 13, 0, 0), (0, 0, (-2147483648), 2147483647)], [(some (0, 0, (-2147483648), 2147483647), [])], zUE, (5, 300, 0, 0))
noncomputable def zφ_lasr (A : Nat → Nat) (V : Nat → Nat → Int) (Lwξ : List yK) : (Nat → Option Nat) → (Nat → Nat → Int) → List Int → Prop := fun P G ps => zMVr A V P G ∧ ps.getD 0 0 = (A 0 : Int) ∧ zLV V Lwξ ∧ (0 ≤ V 3 (2000 + 8) ∧ V 3 (2000 + 8) ≤ 9999) ∧ (0 ≤ V 3 (2000 + 5) ∧ V 3 (2000 + 5) ≤ 999)
noncomputable def zψ_lasr (A : Nat → Nat) (V : Nat → Nat → Int) (Lwξ : List yK) : (Nat → Option Nat) → (Nat → Nat → Int) → List Int → (Nat → Option Nat) → (Nat → Nat → Int) → Int → Prop := fun P G ps P' G' rn => P' = P ∧ ∃ V' : Nat → Nat → Int, zMVr A V' P' G' ∧ zKp V V' ∧ rn = (if 0 ≤ (ps.getD 1 0) ∧ (ps.getD 1 0) ≤ 12 then zv_la (zRw V) Lwξ (ps.getD 1 0) else -1)
theorem zX_lasr {l : Launch} {w : zk_W} (hWξ : zh_W w) (A : Nat → Nat) (V : Nat → Nat → Int) (Lwξ : List yK) : zk_metX l w zt_dv zt_TB zK_lasr (zp_A (zφ_lasr A V Lwξ)) (zp_B (zψ_lasr A V Lwξ)) ∧ zk_cok w zt_TB zK_lasr := by
  refine zp_methX (cn := "WoundTownModel") zp_lkall hWξ (pl := 1904) rfl (by decide +kernel) (fun p e R s m args below meth c Q u hx hb hEξ hQξ hU5ξ heffξ hnLξ hokξ hφ => ?_)
  have hwξ := hWξ.1
  obtain ⟨p0ξ, p1ξ, hpsξ, tk0, tk1⟩ := zp_ps2 hokξ
  have hrmξ : zk_Kr (zk_ev (zt_types, zp_lk, zt_dv, [], [], zp_lc, zK_lasr)) = zk_Kr zK_lasr := rfl
  rw [hpsξ] at hφ ⊢
  have hφ : zMVr A V u.1 (zp_n u.2.1) ∧ p0ξ = (A 0 : Int) ∧ zLV V Lwξ ∧ (0 ≤ V 3 (2000 + 8) ∧ V 3 (2000 + 8) ≤ 9999) ∧ (0 ≤ V 3 (2000 + 5) ∧ V 3 (2000 + 5) ≤ 999) := hφ
  obtain ⟨⟨M, hMξ, hVξ, hSbξ⟩, rfl, hLVξ, ⟨hlf0ξ, hlf1ξ⟩, ⟨hdy0ξ, hdy1ξ⟩⟩ := hφ
  have hi1ξ := zp_int tk1
  show zp_J p l e R s m args below meth c Q w u [] 0 [(0, 2, (A 0 : Int)), (1, 0, p1ξ)] [] u.1 (zp_n u.2.1)
  refine zp_load (pc := 0) hx hb (zd_X12_lasts (0, .aload_n 0, 1, 0, []) (List.mem_of_getElem? (i := 0) rfl)) rfl (j := 0) rfl ?_
  refine zp_const (pc := 1) hx hb (zd_X12_lasts (1, .iconst 0, 1, 0, []) (List.mem_of_getElem? (i := 1) rfl)) rfl rfl ?_
  refine zp_putf (pc := 2) hx hb hEξ hwξ heffξ (zd_X12_lasts (2, .putfield 161, 3, 0, []) (List.mem_of_getElem? (i := 2) rfl)) (j := 18) rfl rfl rfl (zM_P hMξ (List.mem_of_getElem? (i := 0) rfl)) (zp_o0 (by decide) (by decide) (by decide) (by decide)) ?_
  refine zp_load (pc := 5) hx hb (zd_X12_lasts (5, .iload_n 1, 1, 0, []) (List.mem_of_getElem? (i := 3) rfl)) rfl (j := 1) rfl ?_
  refine zp_i2l (pc := 6) hx hb (zd_X12_lasts (6, .i2l, 1, 0, []) (List.mem_of_getElem? (i := 4) rfl)) ?_
  refine zp_const (pc := 7) hx hb (zd_X12_lasts (7, .lconst 0, 1, 0, []) (List.mem_of_getElem? (i := 5) rfl)) rfl rfl ?_
  refine zp_ldc2 (pc := 8) hx hb hEξ (zd_X12_lasts (8, .ldc2_w 431, 3, 0, []) (List.mem_of_getElem? (i := 6) rfl)) (j := 105) rfl ?_
  refine zp_call (pc := 11) (how := 1) (idx := 181) (mi := 186) (S := []) hx hb hEξ hwξ heffξ hrmξ (zX_in2 hWξ) rfl (j := 2) rfl rfl (by decide +kernel) (zd_X12_lasts (11, .invokestatic 181, 3, 0, []) (List.mem_of_getElem? (i := 7) rfl)) [p1ξ, 0, 12] rfl ⟨zp_o1 (by first | assumption | exact zp_r1 (by omega) (by omega)), zp_o1 (by first | assumption | exact zp_r1 (by omega) (by omega)), zp_o1 (by first | assumption | exact zp_r1 (by omega) (by omega)), trivial⟩ (Nat.le_of_ble_eq_true rfl) trivial (fun al halξ rnn332ξ Pn332 Gn332 hextn332ξ hfrn332ξ hokn332ξ hcsn332ξ hpsin332ξ => ?_)
  obtain rfl := List.mem_singleton.mp halξ
  have hrn332ξ := zp_int (hokn332ξ _ rfl).1
  obtain ⟨hPen332ξ, hGen332ξ, htn332ξ⟩ := hpsin332ξ
  rw [hPen332ξ, hGen332ξ]
  clear hextn332ξ hfrn332ξ hcsn332ξ hPen332ξ hGen332ξ
  have htn332ξ : rnn332ξ = 1 ↔ 0 ≤ p1ξ ∧ p1ξ ≤ 12 := htn332ξ
  refine zp_if (pc := 14) (tgt := 19) hx hb (zd_X12_lasts (14, .ifCond .ne 5, 3, 0, []) (List.mem_of_getElem? (i := 8) rfl)) rfl (fun (hc333ξ : ¬ rnn332ξ = 0) => ?_) (fun (hc333ξ : ¬ (¬ rnn332ξ = 0)) => ?_)
  · have hbt334ξ := (Iff.mp htn332ξ) (by omega)
    refine zp_load (pc := 19) hx hb (zd_X12_lasts (19, .aload_n 0, 1, 0, []) (List.mem_of_getElem? (i := 11) rfl)) rfl (j := 0) rfl ?_
    refine zp_const (pc := 20) hx hb (zd_X12_lasts (20, .bipush 16, 2, 0, []) (List.mem_of_getElem? (i := 12) rfl)) rfl rfl ?_
    refine zp_call (pc := 22) (how := 0) (idx := 174) (mi := 264) (S := []) hx hb hEξ hwξ heffξ hrmξ (zX_kal hWξ A (zp_set V 0 0 0) 16) rfl (j := 57) rfl rfl (by decide +kernel) (zd_X12_lasts (22, .invokevirtual 174, 3, 0, []) (List.mem_of_getElem? (i := 13) rfl)) [(A 0 : Int), 16] rfl ⟨zp_o2 (zM_P hMξ (List.mem_of_getElem? (i := 0) rfl)), zp_o0 (by omega) (by omega) (by omega) (by omega), trivial⟩ (Nat.le_of_ble_eq_true rfl) ⟨⟨(zp_set M 0 0 0), (zM_set hMξ (List.mem_of_getElem? (i := 0) rfl) (by decide)), (zV_set hVξ), (zSb_set (by decide) hSbξ)⟩, rfl, rfl⟩ (fun al halξ rnk336ξ Pk336 Gk336 hextk336ξ hfrk336ξ hokk336ξ hcsk336ξ hpsik336ξ => ?_)
    obtain rfl := List.mem_singleton.mp halξ
    obtain ⟨hPek336ξ, Mk336, hMk336ξ, hVk336ξ, hSbk336ξ⟩ := hpsik336ξ
    subst hPek336ξ
    clear hextk336ξ hfrk336ξ hcsk336ξ hokk336ξ
    have hVk336ξ : ∀ o k, zNs o k → Mk336 o k = (zc_cp (zp_set V 0 0 0) 3 5 6 (34 * 16) 34) o k := hVk336ξ
    have hLV1ξ : zLV (zc_cp (zp_set V 0 0 0) 3 5 6 (34 * 16) 34) Lwξ := zLV_e (fun k => (zc_cp_o (by decide)).trans (zp_set_ne (Or.inl (by decide)))) ((zc_cp_o (by decide)).trans (zp_set_ne (Or.inr (by decide)))) hLVξ
    have hR1ξ : zRw (zc_cp (zp_set V 0 0 0) 3 5 6 (34 * 16) 34) = zRw V := funext fun j => (zc_cp_o (by decide)).trans (zp_set_ne (Or.inl (by decide)))
    refine zp_const (pc := 25) hx hb (zd_X12_lasts (25, .iconst 0, 1, 0, []) (List.mem_of_getElem? (i := 14) rfl)) rfl rfl ?_
    refine zp_store (L' := [(2, 0, 0), (0, 2, (A 0 : Int)), (1, 0, p1ξ)]) (pc := 26) hx hb hnLξ (zd_X12_lasts (26, .istore_n 2, 1, 0, []) (List.mem_of_getElem? (i := 15) rfl)) rfl rfl rfl ?_
    refine zp_load (pc := 27) hx hb (zd_X12_lasts (27, .aload_n 0, 1, 0, []) (List.mem_of_getElem? (i := 16) rfl)) rfl (j := 1) rfl ?_
    refine zp_getf (n := (A 3 : Int)) (pc := 28) hx hb hEξ hwξ (zd_X12_lasts (28, .getfield 13, 3, 0, []) (List.mem_of_getElem? (i := 17) rfl)) (j := 21) rfl rfl rfl (zM_P hMk336ξ (List.mem_of_getElem? (i := 0) rfl)) ((zM_G hMk336ξ (List.mem_of_getElem? (i := 0) rfl) 3).trans (zM_F hMk336ξ (List.mem_of_getElem? (i := 1) rfl))) ?_
    refine zp_const (pc := 31) hx hb (zd_X12_lasts (31, .bipush 9, 2, 0, []) (List.mem_of_getElem? (i := 18) rfl)) rfl rfl ?_
    refine zp_ialdT (j := 9) (v := (V 3 (2000 + 9))) (pc := 33) hx hb hwξ (zd_X12_lasts (33, .iaload, 1, 0, []) (List.mem_of_getElem? (i := 19) rfl)) zl_T59 rfl (zl_kd 9) (zM_P hMk336ξ (List.mem_of_getElem? (i := 2) rfl)) (by omega) (show 9 < 5580 by omega) (((zM_G hMk336ξ (List.mem_of_getElem? (i := 2) rfl) (2000 + 9)).trans (hVk336ξ 3 (2000 + 9) (Or.inl (by decide)))).trans ((zc_cp_o (by decide)).trans (zp_set_ne (Or.inl (by decide))))) (fun _ => ?_)
    have hr338ξ := hLV1ξ.1 9 (by omega)
    refine zp_if (pc := 34) (tgt := 41) hx hb (zd_X12_lasts (34, .ifCond .ne 7, 3, 0, []) (List.mem_of_getElem? (i := 20) rfl)) rfl (fun (hc339ξ : ¬ (V 3 (2000 + 9)) = 0) => ?_) (fun (hc339ξ : ¬ (¬ (V 3 (2000 + 9)) = 0)) => ?_)
    · refine zp_const (pc := 41) hx hb (zd_X12_lasts (41, .iconst 0, 1, 0, []) (List.mem_of_getElem? (i := 23) rfl)) rfl rfl ?_
      refine zp_store (L' := [(3, 0, 0), (2, 0, 0), (0, 2, (A 0 : Int)), (1, 0, p1ξ)]) (pc := 42) hx hb hnLξ (zd_X12_lasts (42, .istore_n 3, 1, 0, []) (List.mem_of_getElem? (i := 24) rfl)) rfl rfl rfl ?_
      have hsnξ : ¬ V 3 (2000 + 9) = 0 := by omega
      have hp12ξ : 0 ≤ p1ξ ∧ p1ξ ≤ 12 := by omega
      refine zp_load (pc := 43) hx hb (zd_X12_lasts (43, .iload_n 3, 1, 0, []) (List.mem_of_getElem? (i := 25) rfl)) rfl (j := 0) rfl ?_
      refine zp_if (pc := 44) (tgt := 123) hx hb (zd_X12_lasts (44, .ifCond .eq 79, 3, 0, []) (List.mem_of_getElem? (i := 26) rfl)) rfl (fun (hc340ξ : (0 : Int) = 0) => ?_) (fun (hc340ξ : ¬ ((0 : Int) = 0)) => ?_)
      · refine zp_load (pc := 123) hx hb (zd_X12_lasts (123, .aload_n 0, 1, 0, []) (List.mem_of_getElem? (i := 72) rfl)) rfl (j := 2) rfl ?_
        refine zp_const (pc := 124) hx hb (zd_X12_lasts (124, .bipush 16, 2, 0, []) (List.mem_of_getElem? (i := 73) rfl)) rfl rfl ?_
        refine zp_call (pc := 126) (how := 0) (idx := 178) (mi := 184) (S := []) hx hb hEξ hwξ heffξ hrmξ (zX_pub hWξ A (zc_cp (zp_set V 0 0 0) 3 5 6 (34 * 16) 34) 16) rfl (j := 1) rfl rfl (by decide +kernel) (zd_X12_lasts (126, .invokevirtual 178, 3, 0, []) (List.mem_of_getElem? (i := 74) rfl)) [(A 0 : Int), 16] rfl ⟨zp_o2 (zM_P hMk336ξ (List.mem_of_getElem? (i := 0) rfl)), zp_o0 (by omega) (by omega) (by omega) (by omega), trivial⟩ (Nat.le_of_ble_eq_true rfl) ⟨⟨Mk336, hMk336ξ, hVk336ξ, hSbk336ξ⟩, rfl, rfl⟩ (fun al halξ rnp341ξ Pp341 Gp341 hextp341ξ hfrp341ξ hokp341ξ hcsp341ξ hpsip341ξ => ?_)
        obtain rfl := List.mem_singleton.mp halξ
        obtain ⟨hPep341ξ, Mp341, hMp341ξ, hVp341ξ, hSbp341ξ⟩ := hpsip341ξ
        subst hPep341ξ
        clear hextp341ξ hfrp341ξ hcsp341ξ hokp341ξ
        have hVp341ξ : ∀ o k, zNs o k → Mp341 o k = (zc_cp (zc_cp (zp_set V 0 0 0) 3 5 6 (34 * 16) 34) 6 (34 * 16) 3 5 34) o k := hVp341ξ
        refine zp_load (pc := 129) hx hb (zd_X12_lasts (129, .iload_n 3, 1, 0, []) (List.mem_of_getElem? (i := 75) rfl)) rfl (j := 0) rfl ?_
        refine zp_if (pc := 130) (tgt := 137) hx hb (zd_X12_lasts (130, .ifCond .eq 7, 3, 0, []) (List.mem_of_getElem? (i := 76) rfl)) rfl (fun (hc342ξ : (0 : Int) = 0) => ?_) (fun (hc342ξ : ¬ ((0 : Int) = 0)) => ?_)
        · refine zp_load (pc := 137) hx hb (zd_X12_lasts (137, .iload_n 2, 1, 0, []) (List.mem_of_getElem? (i := 79) rfl)) rfl (j := 1) rfl ?_
          refine zp_iret (pc := 138) (n := 0) hx hb hEξ hQξ hU5ξ rfl (by decide) (zd_X12_lasts (138, .ireturn, 1, 0, []) (List.mem_of_getElem? (i := 80) rfl)) (j := 0) rfl (zp_o0 (by omega) (by omega) (by omega) (by omega)) ?_
          rw [hpsξ]
          refine ⟨rfl, ?_⟩
          refine ⟨_, ⟨Mp341, hMp341ξ, hVp341ξ, hSbp341ξ⟩, zPp_b zPp_i, ?_⟩
          show 0 = (if 0 ≤ p1ξ ∧ p1ξ ≤ 12 then zv_la (zRw V) Lwξ p1ξ else -1)
          rw [if_pos hp12ξ]
          unfold zv_la
          rw [if_neg (show ¬ zRw V 9 = 0 from hsnξ)]
        · exfalso
          omega
      · exfalso
        omega
    · refine zp_const (pc := 37) hx hb (zd_X12_lasts (37, .iconst 1, 1, 0, []) (List.mem_of_getElem? (i := 21) rfl)) rfl rfl ?_
      refine zp_goto (tgt := 42) (pc := 38) hx hb (zd_X12_lasts (38, .goto 4, 3, 0, []) (List.mem_of_getElem? (i := 22) rfl)) rfl ?_
      refine zp_store (L' := [(3, 0, 1), (2, 0, 0), (0, 2, (A 0 : Int)), (1, 0, p1ξ)]) (pc := 42) hx hb hnLξ (zd_X12_lasts (42, .istore_n 3, 1, 0, []) (List.mem_of_getElem? (i := 24) rfl)) rfl rfl rfl ?_
      have hsnξ : V 3 (2000 + 9) = 0 := by omega
      obtain ⟨V1, hV1ξ⟩ : ∃ V1, V1 = (zc_cp (zp_set V 0 0 0) 3 5 6 (34 * 16) 34) := ⟨_, rfl⟩
      obtain ⟨V0, hV0ξ⟩ : ∃ V0 : Nat → Nat → Int, V0 = V := ⟨V, rfl⟩
      subst hV0ξ
      have hRzξ : zRw V1 = zRw V0 := by rw [hV1ξ]; exact hR1ξ
      have hl8ξ : V1 3 (2000 + 8) = V0 3 (2000 + 8) := congrFun hRzξ 8
      have hl5ξ : V1 3 (2000 + 5) = V0 3 (2000 + 5) := congrFun hRzξ 5
      have hp12ξ : 0 ≤ p1ξ ∧ p1ξ ≤ 12 := by omega
      have hv9ξ : zv_la (zRw V0) Lwξ p1ξ = zy_la (zRw V0) Lwξ p1ξ 999 0 := if_pos hsnξ
      have loop : ∀ (r9ξ k9ξ : Nat) (V M : Nat → Nat → Int) (G : Nat → Nat → Int), r9ξ + k9ξ = 999 → zM A zYr zFr M u.1 G → (∀ o k, zNs o k → M o k = V o k) → zSb M → zLV V Lwξ → zPp V1 V (zy_lf (zRw V1) Lwξ p1ξ k9ξ) (V1 3 (2000 + 5) + (k9ξ : Int)) → zy_la (zRw V1) Lwξ p1ξ 999 0 = zy_la (zRw V1) Lwξ p1ξ r9ξ k9ξ → zp_J p l e R s m args below meth c Q w u [] 43 [(3, 0, 1), (2, 0, (k9ξ : Int)), (0, 2, (A 0 : Int)), (1, 0, p1ξ)] [] u.1 G := by
        intro r9ξ
        induction r9ξ with
        | zero =>
          intro k9ξ V M G hrξ hMξ hVξ hSbξ hLVξ hPξ hlaξ
          have hlfbξ := zy_lfb (R := (zRw V1)) (L := Lwξ) hp12ξ.1 hp12ξ.2 ⟨by rw [hRzξ]; exact hlf0ξ, by rw [hRzξ]; exact hlf1ξ⟩ k9ξ
          have h8vξ := hPξ.2.1
          have h5vξ : V 3 (2000 + 5) = V0 3 (2000 + 5) + (k9ξ : Int) := by rw [hPξ.2.2, hl5ξ]
          have hRvξ := zPp_R hPξ
          refine zp_load (pc := 43) hx hb (zd_X12_lasts (43, .iload_n 3, 1, 0, []) (List.mem_of_getElem? (i := 25) rfl)) rfl (j := 0) rfl ?_
          refine zp_if (pc := 44) (tgt := 123) hx hb (zd_X12_lasts (44, .ifCond .eq 79, 3, 0, []) (List.mem_of_getElem? (i := 26) rfl)) rfl (fun (hc343ξ : (1 : Int) = 0) => ?_) (fun (hc343ξ : ¬ ((1 : Int) = 0)) => ?_)
          · exfalso
            omega
          · refine zp_load (pc := 47) hx hb (zd_X12_lasts (47, .iload_n 2, 1, 0, []) (List.mem_of_getElem? (i := 27) rfl)) rfl (j := 1) rfl ?_
            refine zp_const (pc := 48) hx hb (zd_X12_lasts (48, .sipush 999, 3, 0, []) (List.mem_of_getElem? (i := 28) rfl)) rfl rfl ?_
            refine zp_icmp (pc := 51) (tgt := 123) hx hb (zd_X12_lasts (51, .if_icmp .ge 72, 3, 0, []) (List.mem_of_getElem? (i := 29) rfl)) rfl (fun (hc344ξ : 999 ≤ (k9ξ : Int)) => ?_) (fun (hc344ξ : ¬ (999 ≤ (k9ξ : Int))) => ?_)
            · refine zp_load (pc := 123) hx hb (zd_X12_lasts (123, .aload_n 0, 1, 0, []) (List.mem_of_getElem? (i := 72) rfl)) rfl (j := 2) rfl ?_
              refine zp_const (pc := 124) hx hb (zd_X12_lasts (124, .bipush 16, 2, 0, []) (List.mem_of_getElem? (i := 73) rfl)) rfl rfl ?_
              refine zp_call (pc := 126) (how := 0) (idx := 178) (mi := 184) (S := []) hx hb hEξ hwξ heffξ hrmξ (zX_pub hWξ A V 16) rfl (j := 1) rfl rfl (by decide +kernel) (zd_X12_lasts (126, .invokevirtual 178, 3, 0, []) (List.mem_of_getElem? (i := 74) rfl)) [(A 0 : Int), 16] rfl ⟨zp_o2 (zM_P hMξ (List.mem_of_getElem? (i := 0) rfl)), zp_o0 (by omega) (by omega) (by omega) (by omega), trivial⟩ (Nat.le_of_ble_eq_true rfl) ⟨⟨M, hMξ, hVξ, hSbξ⟩, rfl, rfl⟩ (fun al halξ rnp345ξ Pp345 Gp345 hextp345ξ hfrp345ξ hokp345ξ hcsp345ξ hpsip345ξ => ?_)
              obtain rfl := List.mem_singleton.mp halξ
              obtain ⟨hPep345ξ, Mp345, hMp345ξ, hVp345ξ, hSbp345ξ⟩ := hpsip345ξ
              subst hPep345ξ
              clear hextp345ξ hfrp345ξ hcsp345ξ hokp345ξ
              have hVp345ξ : ∀ o k, zNs o k → Mp345 o k = (zc_cp V 6 (34 * 16) 3 5 34) o k := hVp345ξ
              refine zp_load (pc := 129) hx hb (zd_X12_lasts (129, .iload_n 3, 1, 0, []) (List.mem_of_getElem? (i := 75) rfl)) rfl (j := 0) rfl ?_
              refine zp_if (pc := 130) (tgt := 137) hx hb (zd_X12_lasts (130, .ifCond .eq 7, 3, 0, []) (List.mem_of_getElem? (i := 76) rfl)) rfl (fun (hc346ξ : (1 : Int) = 0) => ?_) (fun (hc346ξ : ¬ ((1 : Int) = 0)) => ?_)
              · exfalso
                omega
              · refine zp_const (pc := 133) hx hb (zd_X12_lasts (133, .iconst (-1), 1, 0, []) (List.mem_of_getElem? (i := 77) rfl)) rfl rfl ?_
                refine zp_goto (tgt := 138) (pc := 134) hx hb (zd_X12_lasts (134, .goto 4, 3, 0, []) (List.mem_of_getElem? (i := 78) rfl)) rfl ?_
                refine zp_iret (pc := 138) (n := (-1)) hx hb hEξ hQξ hU5ξ rfl (by decide) (zd_X12_lasts (138, .ireturn, 1, 0, []) (List.mem_of_getElem? (i := 80) rfl)) (j := 0) rfl (zp_o0 (by omega) (by omega) (by omega) (by omega)) ?_
                rw [hpsξ]
                refine ⟨rfl, ?_⟩
                refine ⟨_, ⟨Mp345, hMp345ξ, hVp345ξ, hSbp345ξ⟩, zPp_b (by rw [← hV1ξ]; exact hPξ), ?_⟩
                show (-1) = (if 0 ≤ p1ξ ∧ p1ξ ≤ 12 then zv_la (zRw V0) Lwξ p1ξ else -1)
                rw [if_pos hp12ξ]
                unfold zv_la
                rw [if_pos (show zRw V0 9 = 0 from hsnξ), ← hRzξ, hlaξ]
                rfl
            · exfalso
              omega
        | succ r9ξ ih =>
          intro k9ξ V M G hrξ hMξ hVξ hSbξ hLVξ hPξ hlaξ
          have hlfbξ := zy_lfb (R := (zRw V1)) (L := Lwξ) hp12ξ.1 hp12ξ.2 ⟨by rw [hRzξ]; exact hlf0ξ, by rw [hRzξ]; exact hlf1ξ⟩ k9ξ
          have h8vξ := hPξ.2.1
          have h5vξ : V 3 (2000 + 5) = V0 3 (2000 + 5) + (k9ξ : Int) := by rw [hPξ.2.2, hl5ξ]
          have hRvξ := zPp_R hPξ
          refine zp_load (pc := 43) hx hb (zd_X12_lasts (43, .iload_n 3, 1, 0, []) (List.mem_of_getElem? (i := 25) rfl)) rfl (j := 0) rfl ?_
          refine zp_if (pc := 44) (tgt := 123) hx hb (zd_X12_lasts (44, .ifCond .eq 79, 3, 0, []) (List.mem_of_getElem? (i := 26) rfl)) rfl (fun (hc347ξ : (1 : Int) = 0) => ?_) (fun (hc347ξ : ¬ ((1 : Int) = 0)) => ?_)
          · exfalso
            omega
          · refine zp_load (pc := 47) hx hb (zd_X12_lasts (47, .iload_n 2, 1, 0, []) (List.mem_of_getElem? (i := 27) rfl)) rfl (j := 1) rfl ?_
            refine zp_const (pc := 48) hx hb (zd_X12_lasts (48, .sipush 999, 3, 0, []) (List.mem_of_getElem? (i := 28) rfl)) rfl rfl ?_
            refine zp_icmp (pc := 51) (tgt := 123) hx hb (zd_X12_lasts (51, .if_icmp .ge 72, 3, 0, []) (List.mem_of_getElem? (i := 29) rfl)) rfl (fun (hc348ξ : 999 ≤ (k9ξ : Int)) => ?_) (fun (hc348ξ : ¬ (999 ≤ (k9ξ : Int))) => ?_)
            · exfalso
              omega
            · refine zp_load (pc := 54) hx hb (zd_X12_lasts (54, .aload_n 0, 1, 0, []) (List.mem_of_getElem? (i := 30) rfl)) rfl (j := 2) rfl ?_
              refine zp_getf (n := (A 3 : Int)) (pc := 55) hx hb hEξ hwξ (zd_X12_lasts (55, .getfield 13, 3, 0, []) (List.mem_of_getElem? (i := 31) rfl)) (j := 21) rfl rfl rfl (zM_P hMξ (List.mem_of_getElem? (i := 0) rfl)) ((zM_G hMξ (List.mem_of_getElem? (i := 0) rfl) 3).trans (zM_F hMξ (List.mem_of_getElem? (i := 1) rfl))) ?_
              refine zp_const (pc := 58) hx hb (zd_X12_lasts (58, .bipush 8, 2, 0, []) (List.mem_of_getElem? (i := 32) rfl)) rfl rfl ?_
              refine zp_load (pc := 60) hx hb (zd_X12_lasts (60, .aload_n 0, 1, 0, []) (List.mem_of_getElem? (i := 33) rfl)) rfl (j := 2) rfl ?_
              refine zp_getf (n := (A 3 : Int)) (pc := 61) hx hb hEξ hwξ (zd_X12_lasts (61, .getfield 13, 3, 0, []) (List.mem_of_getElem? (i := 34) rfl)) (j := 21) rfl rfl rfl (zM_P hMξ (List.mem_of_getElem? (i := 0) rfl)) ((zM_G hMξ (List.mem_of_getElem? (i := 0) rfl) 3).trans (zM_F hMξ (List.mem_of_getElem? (i := 1) rfl))) ?_
              refine zp_const (pc := 64) hx hb (zd_X12_lasts (64, .bipush 8, 2, 0, []) (List.mem_of_getElem? (i := 35) rfl)) rfl rfl ?_
              refine zp_ialdT (j := 8) (v := (zy_lf (zRw V1) Lwξ p1ξ k9ξ)) (pc := 66) hx hb hwξ (zd_X12_lasts (66, .iaload, 1, 0, []) (List.mem_of_getElem? (i := 36) rfl)) zl_T59 rfl (zl_kd 8) (zM_P hMξ (List.mem_of_getElem? (i := 2) rfl)) (by omega) (show 8 < 5580 by omega) (((zM_G hMξ (List.mem_of_getElem? (i := 2) rfl) (2000 + 8)).trans (hVξ 3 (2000 + 8) (Or.inl (by decide)))).trans h8vξ) (fun _ => ?_)
              refine zp_load (pc := 67) hx hb (zd_X12_lasts (67, .aload_n 0, 1, 0, []) (List.mem_of_getElem? (i := 37) rfl)) rfl (j := 2) rfl ?_
              refine zp_load (pc := 68) hx hb (zd_X12_lasts (68, .iload_n 1, 1, 0, []) (List.mem_of_getElem? (i := 38) rfl)) rfl (j := 3) rfl ?_
              have hMqa350ξ : zM A zYr zFr M u.1 G := hMξ
              have hVqa350ξ : ∀ o k, zNs o k → M o k = V o k := hVξ
              have hSqa350ξ : zSb M := hSbξ
              have hLqa350ξ : zLV V Lwξ := hLVξ
              have htaa350ξ : 0 ≤ p1ξ ∧ p1ξ ≤ 31 := by omega
              refine zp_call (pc := 69) (how := 0) (idx := 433) (mi := 238) (S := [(0, (zy_lf (zRw V1) Lwξ p1ξ k9ξ)), (0, 8), (2, (A 3 : Int))]) hx hb hEξ hwξ heffξ hrmξ (zX_weo hWξ (A 3) (A 35) (A 37) (fun j => V 3 (2000 + j)) (fun j => M 35 (2000 + j)) Lwξ) rfl (j := 38) rfl rfl (by decide +kernel) (zd_X12_lasts (69, .invokevirtual 433, 3, 0, []) (List.mem_of_getElem? (i := 39) rfl)) [(A 0 : Int), p1ξ] rfl ⟨zp_o2 (zM_P hMξ (List.mem_of_getElem? (i := 0) rfl)), zp_o0 (by omega) (by omega) (by omega) (by omega), trivial⟩ (Nat.le_of_ble_eq_true rfl) ⟨⟨⟨⟨(zM_G hMqa350ξ (List.mem_of_getElem? (i := 0) rfl) 20).trans ((hVqa350ξ 0 20 (Or.inr (by decide))).trans hLqa350ξ.2.2.2.2), (zM_G hMqa350ξ (List.mem_of_getElem? (i := 0) rfl) 3).trans (zM_F hMqa350ξ (List.mem_of_getElem? (i := 1) rfl)), (zM_G hMqa350ξ (List.mem_of_getElem? (i := 0) rfl) 35).trans (zM_F hMqa350ξ (List.mem_of_getElem? (i := 17) rfl)), (zM_G hMqa350ξ (List.mem_of_getElem? (i := 0) rfl) 37).trans (zM_F hMqa350ξ (List.mem_of_getElem? (i := 19) rfl)), fun j => (zM_G hMqa350ξ (List.mem_of_getElem? (i := 2) rfl) (2000 + j)).trans (hVqa350ξ 3 _ (Or.inl (by decide))), fun j => zM_G hMqa350ξ (List.mem_of_getElem? (i := 18) rfl) (2000 + j)⟩, zM_P hMqa350ξ (List.mem_of_getElem? (i := 2) rfl), zM_P hMqa350ξ (List.mem_of_getElem? (i := 18) rfl), zM_P hMqa350ξ (List.mem_of_getElem? (i := 20) rfl), hLqa350ξ.1, hSqa350ξ⟩, hLqa350ξ.2.1⟩, (show 0 ≤ p1ξ by omega), (show p1ξ ≤ _ by omega)⟩ (fun al halξ rna350ξ Pa350 Ga350 hexta350ξ hfra350ξ hoka350ξ hcsa350ξ hpsia350ξ => ?_)
              obtain rfl := List.mem_singleton.mp halξ
              have hra350ξ := zp_int (hoka350ξ _ rfl).1
              obtain ⟨hPea350ξ, hta350ξ⟩ := hpsia350ξ
              have hMa350ξ := zM_eff (eff := [(13, 34, 0), (75, 1001, 0), (13, 38, 0), (13, 39, 0), (13, 40, 0), (77, 1001, 0)]) hMqa350ξ hfra350ξ hexta350ξ (zM_fb (by decide +kernel))
              subst hPea350ξ
              obtain ⟨Ma350, hMa350ξ, hMfa350ξ⟩ := hMa350ξ
              have hVa350ξ : ∀ o k, zNs o k → Ma350 o k = V o k := fun o k hkξ => (zMf_s hMfa350ξ hkξ).trans (hVqa350ξ o k hkξ)
              clear hMfa350ξ hfra350ξ hexta350ξ hoka350ξ hcsa350ξ hVqa350ξ hMqa350ξ hSqa350ξ
              obtain ⟨hta350ξ, hSza350ξ⟩ := hta350ξ
              have hSba350ξ : zSb Ma350 := fun j hjξ => by rw [← zM_G hMa350ξ (List.mem_of_getElem? (i := 18) rfl) (2000 + j)]; exact hSza350ξ j hjξ
              have hta350ξ : rna350ξ = (zd_we V Lwξ p1ξ) := Eq.trans hta350ξ (zy_we_9 hLqa350ξ.2.2.1)
              have hta350ξ := (Eq.symm hta350ξ)
              subst hta350ξ
              have hba350ξ := zd_web (V := V) (L := Lwξ) htaa350ξ.1 htaa350ξ.2
              have hwRξ : (zd_we V Lwξ p1ξ) = zy_wR (zy_R (zRw V1) (zy_lf (zRw V1) Lwξ p1ξ k9ξ) k9ξ) Lwξ p1ξ := by rw [← hRvξ]; rfl
              have hlf9ξ : max 0 (min 9999 (zy_lf (zRw V1) Lwξ p1ξ k9ξ - (zd_we V Lwξ p1ξ))) = (zy_lf (zRw V1) Lwξ p1ξ (k9ξ + 1)) := by
                have h9ξ : (zy_lf (zRw V1) Lwξ p1ξ (k9ξ + 1)) = max 0 (zy_lf (zRw V1) Lwξ p1ξ k9ξ - zy_wR (zy_R (zRw V1) (zy_lf (zRw V1) Lwξ p1ξ k9ξ) k9ξ) Lwξ p1ξ) := rfl
                rw [h9ξ, ← hwRξ]
                omega
              have hlfb1ξ := zy_lfb (R := (zRw V1)) (L := Lwξ) hp12ξ.1 hp12ξ.2 ⟨by rw [hRzξ]; exact hlf0ξ, by rw [hRzξ]; exact hlf1ξ⟩ (k9ξ + 1)
              refine zp_sub (n := ((zy_lf (zRw V1) Lwξ p1ξ k9ξ) - (zd_we V Lwξ p1ξ))) (pc := 72) hx hb (zd_X12_lasts (72, .isub, 1, 0, []) (List.mem_of_getElem? (i := 40) rfl)) (by omega) (zp_r0 (by omega) (by omega)) ?_
              refine zp_i2l (pc := 73) hx hb (zd_X12_lasts (73, .i2l, 1, 0, []) (List.mem_of_getElem? (i := 41) rfl)) ?_
              refine zp_const (pc := 74) hx hb (zd_X12_lasts (74, .iconst 0, 1, 0, []) (List.mem_of_getElem? (i := 42) rfl)) rfl rfl ?_
              refine zp_const (pc := 75) hx hb (zd_X12_lasts (75, .sipush 9999, 3, 0, []) (List.mem_of_getElem? (i := 43) rfl)) rfl rfl ?_
              refine zp_call (pc := 78) (how := 1) (idx := 427) (mi := 245) (S := [(0, 8), (2, (A 3 : Int))]) hx hb hEξ hwξ heffξ hrmξ (zX_wi hWξ) rfl (j := 45) rfl rfl (by decide +kernel) (zd_X12_lasts (78, .invokestatic 427, 3, 0, []) (List.mem_of_getElem? (i := 44) rfl)) [((zy_lf (zRw V1) Lwξ p1ξ k9ξ) - (zd_we V Lwξ p1ξ)), 0, 9999] rfl ⟨zp_o1 (zp_r1 (by omega) (by omega)), zp_o0 (by omega) (by omega) (by omega) (by omega), zp_o0 (by omega) (by omega) (by omega) (by omega), trivial⟩ (Nat.le_of_ble_eq_true rfl) (show 0 ≤ 9999 by omega) (fun al halξ rnv351ξ Pv351 Gv351 hextv351ξ hfrv351ξ hokv351ξ hcsv351ξ hpsiv351ξ => ?_)
              obtain rfl := List.mem_singleton.mp halξ
              have hrv351ξ := zp_int (hokv351ξ _ rfl).1
              obtain ⟨hPev351ξ, hGev351ξ, htv351ξ⟩ := hpsiv351ξ
              rw [hPev351ξ, hGev351ξ]
              clear hextv351ξ hfrv351ξ hcsv351ξ hPev351ξ hGev351ξ
              have htv351ξ : rnv351ξ = (max 0 (min 9999 ((zy_lf (zRw V1) Lwξ p1ξ k9ξ) - (zd_we V Lwξ p1ξ)))) := htv351ξ
              have htv351ξ := (Eq.symm htv351ξ)
              subst htv351ξ
              have hxv351ξ : 0 ≤ (max 0 (min 9999 ((zy_lf (zRw V1) Lwξ p1ξ k9ξ) - (zd_we V Lwξ p1ξ)))) ∧ (max 0 (min 9999 ((zy_lf (zRw V1) Lwξ p1ξ k9ξ) - (zd_we V Lwξ p1ξ)))) ≤ 9999 := by omega
              rw [hlf9ξ]
              refine zp_iastR (j := 8) (pc := 81) hx hb hwξ heffξ (zd_X12_lasts (81, .iastore, 1, 0, []) (List.mem_of_getElem? (i := 45) rfl)) (zM_P hMa350ξ (List.mem_of_getElem? (i := 2) rfl)) (by omega) (show 8 < 180 by omega) (zr_st (lo := 0) (hi := 9999) ⟨rfl, rfl, rfl⟩ (by omega) (by omega) (by omega) (by omega)) ⟨1002, rfl, zp_1002 (by omega)⟩ ?_
              refine zp_load (pc := 82) hx hb (zd_X12_lasts (82, .aload_n 0, 1, 0, []) (List.mem_of_getElem? (i := 46) rfl)) rfl (j := 2) rfl ?_
              refine zp_getf (n := (A 3 : Int)) (pc := 83) hx hb hEξ hwξ (zd_X12_lasts (83, .getfield 13, 3, 0, []) (List.mem_of_getElem? (i := 47) rfl)) (j := 21) rfl rfl rfl (zM_P hMa350ξ (List.mem_of_getElem? (i := 0) rfl)) ((zp_set_ne (Or.inl (zM_ne hMa350ξ (List.mem_of_getElem? (i := 0) rfl) (List.mem_of_getElem? (i := 2) rfl) (by decide)))).trans (((zM_G hMa350ξ (List.mem_of_getElem? (i := 0) rfl) 3).trans (zM_F hMa350ξ (List.mem_of_getElem? (i := 1) rfl))))) ?_
              refine zp_const (pc := 86) hx hb (zd_X12_lasts (86, .bipush 8, 2, 0, []) (List.mem_of_getElem? (i := 48) rfl)) rfl rfl ?_
              refine zp_ialdT (j := 8) (v := (zy_lf (zRw V1) Lwξ p1ξ (k9ξ + 1))) (pc := 88) hx hb hwξ (zd_X12_lasts (88, .iaload, 1, 0, []) (List.mem_of_getElem? (i := 49) rfl)) zl_T59 rfl (zl_kd 8) (zM_P hMa350ξ (List.mem_of_getElem? (i := 2) rfl)) (by omega) (show 8 < 5580 by omega) zp_set_self (fun _ => ?_)
              refine zp_if (pc := 89) (tgt := 96) hx hb (zd_X12_lasts (89, .ifCond .le 7, 3, 0, []) (List.mem_of_getElem? (i := 50) rfl)) rfl (fun (hc353ξ : (zy_lf (zRw V1) Lwξ p1ξ (k9ξ + 1)) ≤ 0) => ?_) (fun (hc353ξ : ¬ ((zy_lf (zRw V1) Lwξ p1ξ (k9ξ + 1)) ≤ 0)) => ?_)
              · refine zp_const (pc := 96) hx hb (zd_X12_lasts (96, .iconst 0, 1, 0, []) (List.mem_of_getElem? (i := 53) rfl)) rfl rfl ?_
                refine zp_store (L' := [(3, 0, 0), (2, 0, (k9ξ : Int)), (0, 2, (A 0 : Int)), (1, 0, p1ξ)]) (pc := 97) hx hb hnLξ (zd_X12_lasts (97, .istore_n 3, 1, 0, []) (List.mem_of_getElem? (i := 54) rfl)) rfl rfl rfl ?_
                refine zp_load (pc := 98) hx hb (zd_X12_lasts (98, .iload_n 2, 1, 0, []) (List.mem_of_getElem? (i := 55) rfl)) rfl (j := 1) rfl ?_
                refine zp_load (pc := 99) hx hb (zd_X12_lasts (99, .iload_n 3, 1, 0, []) (List.mem_of_getElem? (i := 56) rfl)) rfl (j := 0) rfl ?_
                refine zp_if (pc := 100) (tgt := 107) hx hb (zd_X12_lasts (100, .ifCond .eq 7, 3, 0, []) (List.mem_of_getElem? (i := 57) rfl)) rfl (fun (hc354ξ : (0 : Int) = 0) => ?_) (fun (hc354ξ : ¬ ((0 : Int) = 0)) => ?_)
                · refine zp_const (pc := 107) hx hb (zd_X12_lasts (107, .iconst 0, 1, 0, []) (List.mem_of_getElem? (i := 60) rfl)) rfl rfl ?_
                  refine zp_add (n := (k9ξ : Int)) (pc := 108) hx hb (zd_X12_lasts (108, .iadd, 1, 0, []) (List.mem_of_getElem? (i := 61) rfl)) (by omega) (zp_r0 (by omega) (by omega)) ?_
                  refine zp_store (L' := [(2, 0, (k9ξ : Int)), (3, 0, 0), (0, 2, (A 0 : Int)), (1, 0, p1ξ)]) (pc := 109) hx hb hnLξ (zd_X12_lasts (109, .istore_n 2, 1, 0, []) (List.mem_of_getElem? (i := 62) rfl)) rfl rfl rfl ?_
                  refine zp_load (pc := 110) hx hb (zd_X12_lasts (110, .aload_n 0, 1, 0, []) (List.mem_of_getElem? (i := 63) rfl)) rfl (j := 2) rfl ?_
                  refine zp_getf (n := (A 3 : Int)) (pc := 111) hx hb hEξ hwξ (zd_X12_lasts (111, .getfield 13, 3, 0, []) (List.mem_of_getElem? (i := 64) rfl)) (j := 21) rfl rfl rfl (zM_P hMa350ξ (List.mem_of_getElem? (i := 0) rfl)) ((zp_set_ne (Or.inl (zM_ne hMa350ξ (List.mem_of_getElem? (i := 0) rfl) (List.mem_of_getElem? (i := 2) rfl) (by decide)))).trans (((zM_G hMa350ξ (List.mem_of_getElem? (i := 0) rfl) 3).trans (zM_F hMa350ξ (List.mem_of_getElem? (i := 1) rfl))))) ?_
                  refine zp_const (pc := 114) hx hb (zd_X12_lasts (114, .iconst 5, 1, 0, []) (List.mem_of_getElem? (i := 65) rfl)) rfl rfl ?_
                  refine zp_dup2 (pc := 115) hx hb (zd_X12_lasts (115, .dup2, 1, 0, []) (List.mem_of_getElem? (i := 66) rfl)) (show (0 : Nat) ≠ 1 by decide) (show (2 : Nat) ≠ 1 by decide) ?_
                  refine zp_ialdT (j := 5) (v := (V0 3 (2000 + 5) + (k9ξ : Int))) (pc := 116) hx hb hwξ (zd_X12_lasts (116, .iaload, 1, 0, []) (List.mem_of_getElem? (i := 67) rfl)) zl_T59 rfl (zl_kd 5) (zM_P hMa350ξ (List.mem_of_getElem? (i := 2) rfl)) (by omega) (show 5 < 5580 by omega) ((zp_set_ne (Or.inr (by omega))).trans ((((zM_G hMa350ξ (List.mem_of_getElem? (i := 2) rfl) (2000 + 5)).trans (hVa350ξ 3 (2000 + 5) (Or.inl (by decide)))).trans h5vξ))) (fun _ => ?_)
                  refine zp_const (pc := 117) hx hb (zd_X12_lasts (117, .iconst 1, 1, 0, []) (List.mem_of_getElem? (i := 68) rfl)) rfl rfl ?_
                  refine zp_add (n := ((V0 3 (2000 + 5) + (k9ξ : Int)) + 1)) (pc := 118) hx hb (zd_X12_lasts (118, .iadd, 1, 0, []) (List.mem_of_getElem? (i := 69) rfl)) (by omega) (zp_r0 (by omega) (by omega)) ?_
                  refine zp_iastR (j := 5) (pc := 119) hx hb hwξ heffξ (zd_X12_lasts (119, .iastore, 1, 0, []) (List.mem_of_getElem? (i := 70) rfl)) (zM_P hMa350ξ (List.mem_of_getElem? (i := 2) rfl)) (by omega) (show 5 < 180 by omega) (zr_st (lo := (-2147483648)) (hi := 2147483647) ⟨rfl, rfl, rfl⟩ (by omega) (by omega) (by omega) (by omega)) ⟨1002, rfl, zp_1002 (by omega)⟩ ?_
                  refine zp_goto (tgt := 43) (pc := 120) hx hb (zd_X12_lasts (120, .goto (-77), 3, 0, []) (List.mem_of_getElem? (i := 71) rfl)) rfl ?_
                  have hz9ξ : (zy_lf (zRw V1) Lwξ p1ξ (k9ξ + 1)) = 0 := by omega
                  have hP9ξ := zPp_s (x' := (zy_lf (zRw V1) Lwξ p1ξ (k9ξ + 1))) (d' := V0 3 (2000 + 5) + (k9ξ : Int) + 1) hPξ
                  refine zp_load (pc := 43) hx hb (zd_X12_lasts (43, .iload_n 3, 1, 0, []) (List.mem_of_getElem? (i := 25) rfl)) rfl (j := 1) rfl ?_
                  refine zp_if (pc := 44) (tgt := 123) hx hb (zd_X12_lasts (44, .ifCond .eq 79, 3, 0, []) (List.mem_of_getElem? (i := 26) rfl)) rfl (fun (hc356ξ : (0 : Int) = 0) => ?_) (fun (hc356ξ : ¬ ((0 : Int) = 0)) => ?_)
                  · refine zp_load (pc := 123) hx hb (zd_X12_lasts (123, .aload_n 0, 1, 0, []) (List.mem_of_getElem? (i := 72) rfl)) rfl (j := 2) rfl ?_
                    refine zp_const (pc := 124) hx hb (zd_X12_lasts (124, .bipush 16, 2, 0, []) (List.mem_of_getElem? (i := 73) rfl)) rfl rfl ?_
                    refine zp_call (pc := 126) (how := 0) (idx := 178) (mi := 184) (S := []) hx hb hEξ hwξ heffξ hrmξ (zX_pub hWξ A (zp_set (zp_set V 3 (2000 + 8) (zy_lf (zRw V1) Lwξ p1ξ (k9ξ + 1))) 3 (2000 + 5) ((V0 3 (2000 + 5) + (k9ξ : Int)) + 1)) 16) rfl (j := 1) rfl rfl (by decide +kernel) (zd_X12_lasts (126, .invokevirtual 178, 3, 0, []) (List.mem_of_getElem? (i := 74) rfl)) [(A 0 : Int), 16] rfl ⟨zp_o2 (zM_P hMa350ξ (List.mem_of_getElem? (i := 0) rfl)), zp_o0 (by omega) (by omega) (by omega) (by omega), trivial⟩ (Nat.le_of_ble_eq_true rfl) ⟨⟨(zp_set (zp_set Ma350 3 (2000 + 8) (zy_lf (zRw V1) Lwξ p1ξ (k9ξ + 1))) 3 (2000 + 5) ((V0 3 (2000 + 5) + (k9ξ : Int)) + 1)), (zM_setE (zM_setE hMa350ξ (List.mem_of_getElem? (i := 2) rfl)) (List.mem_of_getElem? (i := 2) rfl)), (zV_set (zV_set hVa350ξ)), (zSb_set (by decide) (zSb_set (by decide) hSba350ξ))⟩, rfl, rfl⟩ (fun al halξ rnp357ξ Pp357 Gp357 hextp357ξ hfrp357ξ hokp357ξ hcsp357ξ hpsip357ξ => ?_)
                    obtain rfl := List.mem_singleton.mp halξ
                    obtain ⟨hPep357ξ, Mp357, hMp357ξ, hVp357ξ, hSbp357ξ⟩ := hpsip357ξ
                    subst hPep357ξ
                    clear hextp357ξ hfrp357ξ hcsp357ξ hokp357ξ
                    have hVp357ξ : ∀ o k, zNs o k → Mp357 o k = (zc_cp (zp_set (zp_set V 3 (2000 + 8) (zy_lf (zRw V1) Lwξ p1ξ (k9ξ + 1))) 3 (2000 + 5) ((V0 3 (2000 + 5) + (k9ξ : Int)) + 1)) 6 (34 * 16) 3 5 34) o k := hVp357ξ
                    refine zp_load (pc := 129) hx hb (zd_X12_lasts (129, .iload_n 3, 1, 0, []) (List.mem_of_getElem? (i := 75) rfl)) rfl (j := 1) rfl ?_
                    refine zp_if (pc := 130) (tgt := 137) hx hb (zd_X12_lasts (130, .ifCond .eq 7, 3, 0, []) (List.mem_of_getElem? (i := 76) rfl)) rfl (fun (hc358ξ : (0 : Int) = 0) => ?_) (fun (hc358ξ : ¬ ((0 : Int) = 0)) => ?_)
                    · refine zp_load (pc := 137) hx hb (zd_X12_lasts (137, .iload_n 2, 1, 0, []) (List.mem_of_getElem? (i := 79) rfl)) rfl (j := 0) rfl ?_
                      refine zp_iret (pc := 138) (n := (k9ξ : Int)) hx hb hEξ hQξ hU5ξ rfl (by decide) (zd_X12_lasts (138, .ireturn, 1, 0, []) (List.mem_of_getElem? (i := 80) rfl)) (j := 0) rfl (zp_o0 (by omega) (by omega) (by omega) (by omega)) ?_
                      rw [hpsξ]
                      refine ⟨rfl, ?_⟩
                      refine ⟨_, ⟨Mp357, hMp357ξ, hVp357ξ, hSbp357ξ⟩, zPp_b (by rw [← hV1ξ]; exact hP9ξ), ?_⟩
                      show (k9ξ : Int) = (if 0 ≤ p1ξ ∧ p1ξ ≤ 12 then zv_la (zRw V0) Lwξ p1ξ else -1)
                      rw [if_pos hp12ξ]
                      unfold zv_la
                      rw [if_pos (show zRw V0 9 = 0 from hsnξ), ← hRzξ, hlaξ]
                      rw [zy_la, if_pos hz9ξ]
                    · exfalso
                      omega
                  · exfalso
                    omega
                · exfalso
                  omega
              · refine zp_const (pc := 92) hx hb (zd_X12_lasts (92, .iconst 1, 1, 0, []) (List.mem_of_getElem? (i := 51) rfl)) rfl rfl ?_
                refine zp_goto (tgt := 97) (pc := 93) hx hb (zd_X12_lasts (93, .goto 4, 3, 0, []) (List.mem_of_getElem? (i := 52) rfl)) rfl ?_
                refine zp_store (L' := [(3, 0, 1), (2, 0, (k9ξ : Int)), (0, 2, (A 0 : Int)), (1, 0, p1ξ)]) (pc := 97) hx hb hnLξ (zd_X12_lasts (97, .istore_n 3, 1, 0, []) (List.mem_of_getElem? (i := 54) rfl)) rfl rfl rfl ?_
                refine zp_load (pc := 98) hx hb (zd_X12_lasts (98, .iload_n 2, 1, 0, []) (List.mem_of_getElem? (i := 55) rfl)) rfl (j := 1) rfl ?_
                refine zp_load (pc := 99) hx hb (zd_X12_lasts (99, .iload_n 3, 1, 0, []) (List.mem_of_getElem? (i := 56) rfl)) rfl (j := 0) rfl ?_
                refine zp_if (pc := 100) (tgt := 107) hx hb (zd_X12_lasts (100, .ifCond .eq 7, 3, 0, []) (List.mem_of_getElem? (i := 57) rfl)) rfl (fun (hc359ξ : (1 : Int) = 0) => ?_) (fun (hc359ξ : ¬ ((1 : Int) = 0)) => ?_)
                · exfalso
                  omega
                · refine zp_const (pc := 103) hx hb (zd_X12_lasts (103, .iconst 1, 1, 0, []) (List.mem_of_getElem? (i := 58) rfl)) rfl rfl ?_
                  refine zp_goto (tgt := 108) (pc := 104) hx hb (zd_X12_lasts (104, .goto 4, 3, 0, []) (List.mem_of_getElem? (i := 59) rfl)) rfl ?_
                  refine zp_add (n := ((k9ξ : Int) + 1)) (pc := 108) hx hb (zd_X12_lasts (108, .iadd, 1, 0, []) (List.mem_of_getElem? (i := 61) rfl)) (by omega) (zp_r0 (by omega) (by omega)) ?_
                  refine zp_store (L' := [(2, 0, ((k9ξ : Int) + 1)), (3, 0, 1), (0, 2, (A 0 : Int)), (1, 0, p1ξ)]) (pc := 109) hx hb hnLξ (zd_X12_lasts (109, .istore_n 2, 1, 0, []) (List.mem_of_getElem? (i := 62) rfl)) rfl rfl rfl ?_
                  refine zp_load (pc := 110) hx hb (zd_X12_lasts (110, .aload_n 0, 1, 0, []) (List.mem_of_getElem? (i := 63) rfl)) rfl (j := 2) rfl ?_
                  refine zp_getf (n := (A 3 : Int)) (pc := 111) hx hb hEξ hwξ (zd_X12_lasts (111, .getfield 13, 3, 0, []) (List.mem_of_getElem? (i := 64) rfl)) (j := 21) rfl rfl rfl (zM_P hMa350ξ (List.mem_of_getElem? (i := 0) rfl)) ((zp_set_ne (Or.inl (zM_ne hMa350ξ (List.mem_of_getElem? (i := 0) rfl) (List.mem_of_getElem? (i := 2) rfl) (by decide)))).trans (((zM_G hMa350ξ (List.mem_of_getElem? (i := 0) rfl) 3).trans (zM_F hMa350ξ (List.mem_of_getElem? (i := 1) rfl))))) ?_
                  refine zp_const (pc := 114) hx hb (zd_X12_lasts (114, .iconst 5, 1, 0, []) (List.mem_of_getElem? (i := 65) rfl)) rfl rfl ?_
                  refine zp_dup2 (pc := 115) hx hb (zd_X12_lasts (115, .dup2, 1, 0, []) (List.mem_of_getElem? (i := 66) rfl)) (show (0 : Nat) ≠ 1 by decide) (show (2 : Nat) ≠ 1 by decide) ?_
                  refine zp_ialdT (j := 5) (v := (V0 3 (2000 + 5) + (k9ξ : Int))) (pc := 116) hx hb hwξ (zd_X12_lasts (116, .iaload, 1, 0, []) (List.mem_of_getElem? (i := 67) rfl)) zl_T59 rfl (zl_kd 5) (zM_P hMa350ξ (List.mem_of_getElem? (i := 2) rfl)) (by omega) (show 5 < 5580 by omega) ((zp_set_ne (Or.inr (by omega))).trans ((((zM_G hMa350ξ (List.mem_of_getElem? (i := 2) rfl) (2000 + 5)).trans (hVa350ξ 3 (2000 + 5) (Or.inl (by decide)))).trans h5vξ))) (fun _ => ?_)
                  refine zp_const (pc := 117) hx hb (zd_X12_lasts (117, .iconst 1, 1, 0, []) (List.mem_of_getElem? (i := 68) rfl)) rfl rfl ?_
                  refine zp_add (n := ((V0 3 (2000 + 5) + (k9ξ : Int)) + 1)) (pc := 118) hx hb (zd_X12_lasts (118, .iadd, 1, 0, []) (List.mem_of_getElem? (i := 69) rfl)) (by omega) (zp_r0 (by omega) (by omega)) ?_
                  refine zp_iastR (j := 5) (pc := 119) hx hb hwξ heffξ (zd_X12_lasts (119, .iastore, 1, 0, []) (List.mem_of_getElem? (i := 70) rfl)) (zM_P hMa350ξ (List.mem_of_getElem? (i := 2) rfl)) (by omega) (show 5 < 180 by omega) (zr_st (lo := (-2147483648)) (hi := 2147483647) ⟨rfl, rfl, rfl⟩ (by omega) (by omega) (by omega) (by omega)) ⟨1002, rfl, zp_1002 (by omega)⟩ ?_
                  refine zp_goto (tgt := 43) (pc := 120) hx hb (zd_X12_lasts (120, .goto (-77), 3, 0, []) (List.mem_of_getElem? (i := 71) rfl)) rfl ?_
                  refine zp_drop (L' := [(3, 0, 1), (2, 0, ((k9ξ : Int) + 1)), (0, 2, (A 0 : Int)), (1, 0, p1ξ)]) (by simp) ?_
                  refine ih (k9ξ + 1) (zp_set (zp_set V 3 (2000 + 8) (zy_lf (zRw V1) Lwξ p1ξ (k9ξ + 1))) 3 (2000 + 5) ((V0 3 (2000 + 5) + (k9ξ : Int)) + 1)) (zp_set (zp_set Ma350 3 (2000 + 8) (zy_lf (zRw V1) Lwξ p1ξ (k9ξ + 1))) 3 (2000 + 5) ((V0 3 (2000 + 5) + (k9ξ : Int)) + 1)) (zp_set (zp_set Ga350 (A 3) (2000 + 8) (zy_lf (zRw V1) Lwξ p1ξ (k9ξ + 1))) (A 3) (2000 + 5) ((V0 3 (2000 + 5) + (k9ξ : Int)) + 1)) (by omega) (zM_setE (zM_setE hMa350ξ (List.mem_of_getElem? (i := 2) rfl)) (List.mem_of_getElem? (i := 2) rfl)) (zV_set (zV_set hVa350ξ)) (zSb_set (by decide) (zSb_set (by decide) hSba350ξ)) (zLV_3 (by omega) (by omega) (by omega) (zLV_3 (by omega) (by omega) (by omega) hLqa350ξ)) ?_ ?_
                  · have h9ξ := zPp_s (x' := (zy_lf (zRw V1) Lwξ p1ξ (k9ξ + 1))) (d' := V0 3 (2000 + 5) + (k9ξ : Int) + 1) hPξ
                    rw [show V1 3 (2000 + 5) + ((k9ξ + 1 : Nat) : Int) = V0 3 (2000 + 5) + (k9ξ : Int) + 1 by omega]
                    exact h9ξ
                  · rw [hlaξ, zy_la, if_neg (by omega)]
      refine zp_drop (L' := [(3, 0, 1), (2, 0, 0), (0, 2, (A 0 : Int)), (1, 0, p1ξ)]) (by simp) ?_
      have hstξ := hV1ξ
      refine loop 999 0 V1 Mk336 Gk336 (by omega) hMk336ξ (by rw [hV1ξ]; exact hVk336ξ) hSbk336ξ (by rw [hV1ξ]; exact hLV1ξ) ?_ rfl
      show zPp V1 V1 (V1 3 (2000 + 8)) (V1 3 (2000 + 5) + ((0 : Nat) : Int))
      rw [show V1 3 (2000 + 5) + ((0 : Nat) : Int) = V1 3 (2000 + 5) by omega]
      exact zPp_i
  · have hbf335ξ : ¬ (0 ≤ p1ξ ∧ p1ξ ≤ 12) := fun h9ξ => absurd ((Iff.mpr htn332ξ) h9ξ) (by omega)
    refine zp_const (pc := 17) hx hb (zd_X12_lasts (17, .iconst (-1), 1, 0, []) (List.mem_of_getElem? (i := 9) rfl)) rfl rfl ?_
    refine zp_iret (pc := 18) (n := (-1)) hx hb hEξ hQξ hU5ξ rfl (by decide) (zd_X12_lasts (18, .ireturn, 1, 0, []) (List.mem_of_getElem? (i := 10) rfl)) (j := 0) rfl (zp_o0 (by omega) (by omega) (by omega) (by omega)) ?_
    rw [hpsξ]
    refine ⟨rfl, ?_⟩
    refine ⟨_, ⟨(zp_set M 0 0 0), (zM_set hMξ (List.mem_of_getElem? (i := 0) rfl) (by decide)), (zV_set hVξ), (zSb_set (by decide) hSbξ)⟩, fun o k _ c2 => zp_set_ne c2, ?_⟩
    show (-1) = (if 0 ≤ p1ξ ∧ p1ξ ≤ 12 then zv_la (zRw V) Lwξ p1ξ else -1)
    rw [if_neg (show ¬ (0 ≤ p1ξ ∧ p1ξ ≤ 12) by omega)]
noncomputable def zK_oddr : zk_K := (zt_mn 265, prog_14_method_89_code, 6, (Option.some Jvm.ClassFile.FieldType.long), 1, 12, [(2, 13, 0, 0), (0, 0, (-2147483648), 2147483647), (0, 0, (-2147483648), 2147483647)], [(some (1, 0, (-9223372036854775808), 9223372036854775807), [])], zUE, (5, 300, 0, 0))
noncomputable def zφ_oddr (A : Nat → Nat) (V : Nat → Nat → Int) (Lwξ : List yK) : (Nat → Option Nat) → (Nat → Nat → Int) → List Int → Prop := fun P G ps => zMVr A V P G ∧ ps.getD 0 0 = (A 0 : Int) ∧ zLV V Lwξ ∧ (0 ≤ V 3 (2000 + 8) ∧ V 3 (2000 + 8) ≤ 9999) ∧ (0 ≤ V 3 (2000 + 5) ∧ V 3 (2000 + 5) ≤ 999)
noncomputable def zψ_oddr (A : Nat → Nat) (V : Nat → Nat → Int) (Lwξ : List yK) : (Nat → Option Nat) → (Nat → Nat → Int) → List Int → (Nat → Option Nat) → (Nat → Nat → Int) → Int → Prop := fun P G ps P' G' rn => P' = P ∧ ∃ V' : Nat → Nat → Int, zMVr A V' P' G' ∧ zKp V V' ∧ rn = (if (0 ≤ (ps.getD 1 0) ∧ (ps.getD 1 0) ≤ 12) ∧ 0 ≤ (ps.getD 2 0) ∧ (ps.getD 2 0) ≤ 60 then zy_od (zRw V) Lwξ (ps.getD 1 0) (ps.getD 2 0).toNat else -1)
theorem zX_oddr {l : Launch} {w : zk_W} (hWξ : zh_W w) (A : Nat → Nat) (V : Nat → Nat → Int) (Lwξ : List yK) : zk_metX l w zt_dv zt_TB zK_oddr (zp_A (zφ_oddr A V Lwξ)) (zp_B (zψ_oddr A V Lwξ)) ∧ zk_cok w zt_TB zK_oddr := by
  refine zp_methX (cn := "WoundTownModel") zp_lkall hWξ (pl := 1912) rfl (by decide +kernel) (fun p e R s m args below meth c Q u hx hb hEξ hQξ hU5ξ heffξ hnLξ hokξ hφ => ?_)
  have hwξ := hWξ.1
  obtain ⟨p0ξ, p1ξ, p2ξ, hpsξ, tk0, tk1, tk2⟩ := zp_ps3 hokξ
  have hrmξ : zk_Kr (zk_ev (zt_types, zp_lk, zt_dv, [], [], zp_lc, zK_oddr)) = zk_Kr zK_oddr := rfl
  rw [hpsξ] at hφ ⊢
  have hφ : zMVr A V u.1 (zp_n u.2.1) ∧ p0ξ = (A 0 : Int) ∧ zLV V Lwξ ∧ (0 ≤ V 3 (2000 + 8) ∧ V 3 (2000 + 8) ≤ 9999) ∧ (0 ≤ V 3 (2000 + 5) ∧ V 3 (2000 + 5) ≤ 999) := hφ
  obtain ⟨⟨M, hMξ, hVξ, hSbξ⟩, rfl, hLVξ, ⟨hlf0ξ, hlf1ξ⟩, ⟨hdy0ξ, hdy1ξ⟩⟩ := hφ
  have hi1ξ := zp_int tk1
  have hi2ξ := zp_int tk2
  show zp_J p l e R s m args below meth c Q w u [] 0 [(0, 2, (A 0 : Int)), (1, 0, p1ξ), (2, 0, p2ξ)] [] u.1 (zp_n u.2.1)
  refine zp_load (pc := 0) hx hb (zd_X12_odds (0, .aload_n 0, 1, 0, []) (List.mem_of_getElem? (i := 0) rfl)) rfl (j := 0) rfl ?_
  refine zp_const (pc := 1) hx hb (zd_X12_odds (1, .iconst 0, 1, 0, []) (List.mem_of_getElem? (i := 1) rfl)) rfl rfl ?_
  refine zp_putf (pc := 2) hx hb hEξ hwξ heffξ (zd_X12_odds (2, .putfield 161, 3, 0, []) (List.mem_of_getElem? (i := 2) rfl)) (j := 18) rfl rfl rfl (zM_P hMξ (List.mem_of_getElem? (i := 0) rfl)) (zp_o0 (by decide) (by decide) (by decide) (by decide)) ?_
  refine zp_load (pc := 5) hx hb (zd_X12_odds (5, .iload_n 1, 1, 0, []) (List.mem_of_getElem? (i := 3) rfl)) rfl (j := 1) rfl ?_
  refine zp_i2l (pc := 6) hx hb (zd_X12_odds (6, .i2l, 1, 0, []) (List.mem_of_getElem? (i := 4) rfl)) ?_
  refine zp_const (pc := 7) hx hb (zd_X12_odds (7, .lconst 0, 1, 0, []) (List.mem_of_getElem? (i := 5) rfl)) rfl rfl ?_
  refine zp_ldc2 (pc := 8) hx hb hEξ (zd_X12_odds (8, .ldc2_w 431, 3, 0, []) (List.mem_of_getElem? (i := 6) rfl)) (j := 105) rfl ?_
  refine zp_call (pc := 11) (how := 1) (idx := 181) (mi := 186) (S := []) hx hb hEξ hwξ heffξ hrmξ (zX_in2 hWξ) rfl (j := 2) rfl rfl (by decide +kernel) (zd_X12_odds (11, .invokestatic 181, 3, 0, []) (List.mem_of_getElem? (i := 7) rfl)) [p1ξ, 0, 12] rfl ⟨zp_o1 (by first | assumption | exact zp_r1 (by omega) (by omega)), zp_o1 (by first | assumption | exact zp_r1 (by omega) (by omega)), zp_o1 (by first | assumption | exact zp_r1 (by omega) (by omega)), trivial⟩ (Nat.le_of_ble_eq_true rfl) trivial (fun al halξ rnn361ξ Pn361 Gn361 hextn361ξ hfrn361ξ hokn361ξ hcsn361ξ hpsin361ξ => ?_)
  obtain rfl := List.mem_singleton.mp halξ
  have hrn361ξ := zp_int (hokn361ξ _ rfl).1
  obtain ⟨hPen361ξ, hGen361ξ, htn361ξ⟩ := hpsin361ξ
  rw [hPen361ξ, hGen361ξ]
  clear hextn361ξ hfrn361ξ hcsn361ξ hPen361ξ hGen361ξ
  have htn361ξ : rnn361ξ = 1 ↔ 0 ≤ p1ξ ∧ p1ξ ≤ 12 := htn361ξ
  refine zp_if (pc := 14) (tgt := 29) hx hb (zd_X12_odds (14, .ifCond .eq 15, 3, 0, []) (List.mem_of_getElem? (i := 8) rfl)) rfl (fun (hc362ξ : rnn361ξ = 0) => ?_) (fun (hc362ξ : ¬ (rnn361ξ = 0)) => ?_)
  · have hbf363ξ : ¬ (0 ≤ p1ξ ∧ p1ξ ≤ 12) := fun h9ξ => absurd ((Iff.mpr htn361ξ) h9ξ) (by omega)
    refine zp_ldc2 (pc := 29) hx hb hEξ (zd_X12_odds (29, .ldc2_w 267, 3, 0, []) (List.mem_of_getElem? (i := 15) rfl)) (j := 92) rfl ?_
    refine zp_lret (pc := 32) (n := (-1)) hx hb hEξ hQξ hU5ξ rfl (by decide) (zd_X12_odds (32, .lreturn, 1, 0, []) (List.mem_of_getElem? (i := 16) rfl)) (j := 0) rfl (zp_o1 (by first | assumption | exact zp_r1 (by omega) (by omega))) ?_
    rw [hpsξ]
    refine ⟨rfl, ?_⟩
    refine ⟨_, ⟨(zp_set M 0 0 0), (zM_set hMξ (List.mem_of_getElem? (i := 0) rfl) (by decide)), (zV_set hVξ), (zSb_set (by decide) hSbξ)⟩, fun o k _ c2 => zp_set_ne c2, ?_⟩
    show (-1) = (if (0 ≤ p1ξ ∧ p1ξ ≤ 12) ∧ 0 ≤ p2ξ ∧ p2ξ ≤ 60 then zy_od (zRw V) Lwξ p1ξ p2ξ.toNat else -1)
    rw [if_neg (show ¬ ((0 ≤ p1ξ ∧ p1ξ ≤ 12) ∧ 0 ≤ p2ξ ∧ p2ξ ≤ 60) by omega)]
  · have hbt364ξ := (Iff.mp htn361ξ) (by omega)
    refine zp_load (pc := 17) hx hb (zd_X12_odds (17, .iload_n 2, 1, 0, []) (List.mem_of_getElem? (i := 9) rfl)) rfl (j := 2) rfl ?_
    refine zp_i2l (pc := 18) hx hb (zd_X12_odds (18, .i2l, 1, 0, []) (List.mem_of_getElem? (i := 10) rfl)) ?_
    refine zp_const (pc := 19) hx hb (zd_X12_odds (19, .lconst 0, 1, 0, []) (List.mem_of_getElem? (i := 11) rfl)) rfl rfl ?_
    refine zp_ldc2 (pc := 20) hx hb hEξ (zd_X12_odds (20, .ldc2_w 421, 3, 0, []) (List.mem_of_getElem? (i := 12) rfl)) (j := 108) rfl ?_
    refine zp_call (pc := 23) (how := 1) (idx := 181) (mi := 186) (S := []) hx hb hEξ hwξ heffξ hrmξ (zX_in2 hWξ) rfl (j := 2) rfl rfl (by decide +kernel) (zd_X12_odds (23, .invokestatic 181, 3, 0, []) (List.mem_of_getElem? (i := 13) rfl)) [p2ξ, 0, 60] rfl ⟨zp_o1 (by first | assumption | exact zp_r1 (by omega) (by omega)), zp_o1 (by first | assumption | exact zp_r1 (by omega) (by omega)), zp_o1 (by first | assumption | exact zp_r1 (by omega) (by omega)), trivial⟩ (Nat.le_of_ble_eq_true rfl) trivial (fun al halξ rnn365ξ Pn365 Gn365 hextn365ξ hfrn365ξ hokn365ξ hcsn365ξ hpsin365ξ => ?_)
    obtain rfl := List.mem_singleton.mp halξ
    have hrn365ξ := zp_int (hokn365ξ _ rfl).1
    obtain ⟨hPen365ξ, hGen365ξ, htn365ξ⟩ := hpsin365ξ
    rw [hPen365ξ, hGen365ξ]
    clear hextn365ξ hfrn365ξ hcsn365ξ hPen365ξ hGen365ξ
    have htn365ξ : rnn365ξ = 1 ↔ 0 ≤ p2ξ ∧ p2ξ ≤ 60 := htn365ξ
    refine zp_if (pc := 26) (tgt := 33) hx hb (zd_X12_odds (26, .ifCond .ne 7, 3, 0, []) (List.mem_of_getElem? (i := 14) rfl)) rfl (fun (hc366ξ : ¬ rnn365ξ = 0) => ?_) (fun (hc366ξ : ¬ (¬ rnn365ξ = 0)) => ?_)
    · have hbt367ξ := (Iff.mp htn365ξ) (by omega)
      refine zp_load (pc := 33) hx hb (zd_X12_odds (33, .aload_n 0, 1, 0, []) (List.mem_of_getElem? (i := 17) rfl)) rfl (j := 0) rfl ?_
      refine zp_const (pc := 34) hx hb (zd_X12_odds (34, .bipush 16, 2, 0, []) (List.mem_of_getElem? (i := 18) rfl)) rfl rfl ?_
      refine zp_call (pc := 36) (how := 0) (idx := 174) (mi := 264) (S := []) hx hb hEξ hwξ heffξ hrmξ (zX_kal hWξ A (zp_set V 0 0 0) 16) rfl (j := 57) rfl rfl (by decide +kernel) (zd_X12_odds (36, .invokevirtual 174, 3, 0, []) (List.mem_of_getElem? (i := 19) rfl)) [(A 0 : Int), 16] rfl ⟨zp_o2 (zM_P hMξ (List.mem_of_getElem? (i := 0) rfl)), zp_o0 (by omega) (by omega) (by omega) (by omega), trivial⟩ (Nat.le_of_ble_eq_true rfl) ⟨⟨(zp_set M 0 0 0), (zM_set hMξ (List.mem_of_getElem? (i := 0) rfl) (by decide)), (zV_set hVξ), (zSb_set (by decide) hSbξ)⟩, rfl, rfl⟩ (fun al halξ rnk369ξ Pk369 Gk369 hextk369ξ hfrk369ξ hokk369ξ hcsk369ξ hpsik369ξ => ?_)
      obtain rfl := List.mem_singleton.mp halξ
      obtain ⟨hPek369ξ, Mk369, hMk369ξ, hVk369ξ, hSbk369ξ⟩ := hpsik369ξ
      subst hPek369ξ
      clear hextk369ξ hfrk369ξ hcsk369ξ hokk369ξ
      have hVk369ξ : ∀ o k, zNs o k → Mk369 o k = (zc_cp (zp_set V 0 0 0) 3 5 6 (34 * 16) 34) o k := hVk369ξ
      have hLV1ξ : zLV (zc_cp (zp_set V 0 0 0) 3 5 6 (34 * 16) 34) Lwξ := zLV_e (fun k => (zc_cp_o (by decide)).trans (zp_set_ne (Or.inl (by decide)))) ((zc_cp_o (by decide)).trans (zp_set_ne (Or.inr (by decide)))) hLVξ
      have hR1ξ : zRw (zc_cp (zp_set V 0 0 0) 3 5 6 (34 * 16) 34) = zRw V := funext fun j => (zc_cp_o (by decide)).trans (zp_set_ne (Or.inl (by decide)))
      refine zp_ldc2 (pc := 39) hx hb hEξ (zd_X12_odds (39, .ldc2_w 481, 3, 0, []) (List.mem_of_getElem? (i := 20) rfl)) (j := 111) rfl ?_
      refine zp_store (L' := [(3, 1, 1000000000000), (0, 2, (A 0 : Int)), (1, 0, p1ξ), (2, 0, p2ξ)]) (pc := 42) hx hb hnLξ (zd_X12_odds (42, .lstore_n 3, 1, 0, []) (List.mem_of_getElem? (i := 21) rfl)) rfl rfl rfl ?_
      refine zp_const (pc := 43) hx hb (zd_X12_odds (43, .iconst 0, 1, 0, []) (List.mem_of_getElem? (i := 22) rfl)) rfl rfl ?_
      refine zp_store (L' := [(5, 0, 0), (3, 1, 1000000000000), (0, 2, (A 0 : Int)), (1, 0, p1ξ), (2, 0, p2ξ)]) (pc := 44) hx hb hnLξ (zd_X12_odds (44, .istore 5, 2, 0, []) (List.mem_of_getElem? (i := 23) rfl)) rfl rfl rfl ?_
      obtain ⟨V1, hV1ξ⟩ : ∃ V1, V1 = (zc_cp (zp_set V 0 0 0) 3 5 6 (34 * 16) 34) := ⟨_, rfl⟩
      obtain ⟨V0, hV0ξ⟩ : ∃ V0 : Nat → Nat → Int, V0 = V := ⟨V, rfl⟩
      subst hV0ξ
      have hRzξ : zRw V1 = zRw V0 := by rw [hV1ξ]; exact hR1ξ
      have hl8ξ : V1 3 (2000 + 8) = V0 3 (2000 + 8) := congrFun hRzξ 8
      have hl5ξ : V1 3 (2000 + 5) = V0 3 (2000 + 5) := congrFun hRzξ 5
      have hp12ξ : 0 ≤ p1ξ ∧ p1ξ ≤ 12 := by omega
      have hp60ξ : 0 ≤ p2ξ ∧ p2ξ ≤ 60 := by omega
      have loop : ∀ (r9ξ k9ξ : Nat) (V M : Nat → Nat → Int) (G : Nat → Nat → Int), r9ξ + k9ξ = p2ξ.toNat → zM A zYr zFr M u.1 G → (∀ o k, zNs o k → M o k = V o k) → zSb M → zLV V Lwξ → zPp V1 V (zy_lf (zRw V1) Lwξ p1ξ k9ξ) (V1 3 (2000 + 5) + (k9ξ : Int)) → zp_J p l e R s m args below meth c Q w u [] 46 [(5, 0, (k9ξ : Int)), (3, 1, (zy_od (zRw V1) Lwξ p1ξ k9ξ)), (0, 2, (A 0 : Int)), (1, 0, p1ξ), (2, 0, p2ξ)] [] u.1 G := by
        intro r9ξ
        induction r9ξ with
        | zero =>
          intro k9ξ V M G hrξ hMξ hVξ hSbξ hLVξ hPξ
          have hlfbξ := zy_lfb (R := (zRw V1)) (L := Lwξ) hp12ξ.1 hp12ξ.2 ⟨by rw [hRzξ]; exact hlf0ξ, by rw [hRzξ]; exact hlf1ξ⟩ k9ξ
          have h8vξ := hPξ.2.1
          have h5vξ : V 3 (2000 + 5) = V0 3 (2000 + 5) + (k9ξ : Int) := by rw [hPξ.2.2, hl5ξ]
          have hRvξ := zPp_R hPξ
          have hodbξ := zy_odb (R := (zRw V1)) (L := Lwξ) (t := p1ξ) k9ξ
          refine zp_load (pc := 46) hx hb (zd_X12_odds (46, .iload 5, 2, 0, []) (List.mem_of_getElem? (i := 24) rfl)) rfl (j := 0) rfl ?_
          refine zp_load (pc := 48) hx hb (zd_X12_odds (48, .iload_n 2, 1, 0, []) (List.mem_of_getElem? (i := 25) rfl)) rfl (j := 4) rfl ?_
          refine zp_icmp (pc := 49) (tgt := 111) hx hb (zd_X12_odds (49, .if_icmp .ge 62, 3, 0, []) (List.mem_of_getElem? (i := 26) rfl)) rfl (fun (hc370ξ : p2ξ ≤ (k9ξ : Int)) => ?_) (fun (hc370ξ : ¬ (p2ξ ≤ (k9ξ : Int))) => ?_)
          · refine zp_load (pc := 111) hx hb (zd_X12_odds (111, .aload_n 0, 1, 0, []) (List.mem_of_getElem? (i := 64) rfl)) rfl (j := 2) rfl ?_
            refine zp_const (pc := 112) hx hb (zd_X12_odds (112, .bipush 16, 2, 0, []) (List.mem_of_getElem? (i := 65) rfl)) rfl rfl ?_
            refine zp_call (pc := 114) (how := 0) (idx := 178) (mi := 184) (S := []) hx hb hEξ hwξ heffξ hrmξ (zX_pub hWξ A V 16) rfl (j := 1) rfl rfl (by decide +kernel) (zd_X12_odds (114, .invokevirtual 178, 3, 0, []) (List.mem_of_getElem? (i := 66) rfl)) [(A 0 : Int), 16] rfl ⟨zp_o2 (zM_P hMξ (List.mem_of_getElem? (i := 0) rfl)), zp_o0 (by omega) (by omega) (by omega) (by omega), trivial⟩ (Nat.le_of_ble_eq_true rfl) ⟨⟨M, hMξ, hVξ, hSbξ⟩, rfl, rfl⟩ (fun al halξ rnp371ξ Pp371 Gp371 hextp371ξ hfrp371ξ hokp371ξ hcsp371ξ hpsip371ξ => ?_)
            obtain rfl := List.mem_singleton.mp halξ
            obtain ⟨hPep371ξ, Mp371, hMp371ξ, hVp371ξ, hSbp371ξ⟩ := hpsip371ξ
            subst hPep371ξ
            clear hextp371ξ hfrp371ξ hcsp371ξ hokp371ξ
            have hVp371ξ : ∀ o k, zNs o k → Mp371 o k = (zc_cp V 6 (34 * 16) 3 5 34) o k := hVp371ξ
            refine zp_load (pc := 117) hx hb (zd_X12_odds (117, .lload_n 3, 1, 0, []) (List.mem_of_getElem? (i := 67) rfl)) rfl (j := 1) rfl ?_
            refine zp_lret (pc := 118) (n := (zy_od (zRw V1) Lwξ p1ξ k9ξ)) hx hb hEξ hQξ hU5ξ rfl (by decide) (zd_X12_odds (118, .lreturn, 1, 0, []) (List.mem_of_getElem? (i := 68) rfl)) (j := 0) rfl (zp_o1 (zp_r1 (by omega) (by omega))) ?_
            rw [hpsξ]
            refine ⟨rfl, ?_⟩
            refine ⟨_, ⟨Mp371, hMp371ξ, hVp371ξ, hSbp371ξ⟩, zPp_b (by rw [← hV1ξ]; exact hPξ), ?_⟩
            show (zy_od (zRw V1) Lwξ p1ξ k9ξ) = (if (0 ≤ p1ξ ∧ p1ξ ≤ 12) ∧ 0 ≤ p2ξ ∧ p2ξ ≤ 60 then zy_od (zRw V0) Lwξ p1ξ p2ξ.toNat else -1)
            rw [if_pos ⟨hp12ξ, hp60ξ⟩, show p2ξ.toNat = k9ξ by omega, hRzξ]
          · exfalso
            omega
        | succ r9ξ ih =>
          intro k9ξ V M G hrξ hMξ hVξ hSbξ hLVξ hPξ
          have hlfbξ := zy_lfb (R := (zRw V1)) (L := Lwξ) hp12ξ.1 hp12ξ.2 ⟨by rw [hRzξ]; exact hlf0ξ, by rw [hRzξ]; exact hlf1ξ⟩ k9ξ
          have h8vξ := hPξ.2.1
          have h5vξ : V 3 (2000 + 5) = V0 3 (2000 + 5) + (k9ξ : Int) := by rw [hPξ.2.2, hl5ξ]
          have hRvξ := zPp_R hPξ
          have hodbξ := zy_odb (R := (zRw V1)) (L := Lwξ) (t := p1ξ) k9ξ
          have hodb1ξ := zy_odb (R := (zRw V1)) (L := Lwξ) (t := p1ξ) (k9ξ + 1)
          refine zp_load (pc := 46) hx hb (zd_X12_odds (46, .iload 5, 2, 0, []) (List.mem_of_getElem? (i := 24) rfl)) rfl (j := 0) rfl ?_
          refine zp_load (pc := 48) hx hb (zd_X12_odds (48, .iload_n 2, 1, 0, []) (List.mem_of_getElem? (i := 25) rfl)) rfl (j := 4) rfl ?_
          refine zp_icmp (pc := 49) (tgt := 111) hx hb (zd_X12_odds (49, .if_icmp .ge 62, 3, 0, []) (List.mem_of_getElem? (i := 26) rfl)) rfl (fun (hc372ξ : p2ξ ≤ (k9ξ : Int)) => ?_) (fun (hc372ξ : ¬ (p2ξ ≤ (k9ξ : Int))) => ?_)
          · exfalso
            omega
          · refine zp_load (pc := 52) hx hb (zd_X12_odds (52, .lload_n 3, 1, 0, []) (List.mem_of_getElem? (i := 27) rfl)) rfl (j := 1) rfl ?_
            refine zp_load (pc := 53) hx hb (zd_X12_odds (53, .lload_n 3, 1, 0, []) (List.mem_of_getElem? (i := 28) rfl)) rfl (j := 1) rfl ?_
            refine zp_load (pc := 54) hx hb (zd_X12_odds (54, .aload_n 0, 1, 0, []) (List.mem_of_getElem? (i := 29) rfl)) rfl (j := 2) rfl ?_
            refine zp_load (pc := 55) hx hb (zd_X12_odds (55, .iload_n 1, 1, 0, []) (List.mem_of_getElem? (i := 30) rfl)) rfl (j := 3) rfl ?_
            have hMqa373ξ : zM A zYr zFr M u.1 G := hMξ
            have hVqa373ξ : ∀ o k, zNs o k → M o k = V o k := hVξ
            have hSqa373ξ : zSb M := hSbξ
            have hLqa373ξ : zLV V Lwξ := hLVξ
            have htaa373ξ : 0 ≤ p1ξ ∧ p1ξ ≤ 31 := by omega
            refine zp_call (pc := 56) (how := 0) (idx := 436) (mi := 246) (S := [(1, (zy_od (zRw V1) Lwξ p1ξ k9ξ)), (1, (zy_od (zRw V1) Lwξ p1ξ k9ξ))]) hx hb hEξ hwξ heffξ hrmξ (zX_sno hWξ (A 3) (A 35) (A 37) (fun j => V 3 (2000 + j)) (fun j => M 35 (2000 + j)) Lwξ) rfl (j := 46) rfl rfl (by decide +kernel) (zd_X12_odds (56, .invokevirtual 436, 3, 0, []) (List.mem_of_getElem? (i := 31) rfl)) [(A 0 : Int), p1ξ] rfl ⟨zp_o2 (zM_P hMξ (List.mem_of_getElem? (i := 0) rfl)), zp_o0 (by omega) (by omega) (by omega) (by omega), trivial⟩ (Nat.le_of_ble_eq_true rfl) ⟨⟨⟨⟨(zM_G hMqa373ξ (List.mem_of_getElem? (i := 0) rfl) 20).trans ((hVqa373ξ 0 20 (Or.inr (by decide))).trans hLqa373ξ.2.2.2.2), (zM_G hMqa373ξ (List.mem_of_getElem? (i := 0) rfl) 3).trans (zM_F hMqa373ξ (List.mem_of_getElem? (i := 1) rfl)), (zM_G hMqa373ξ (List.mem_of_getElem? (i := 0) rfl) 35).trans (zM_F hMqa373ξ (List.mem_of_getElem? (i := 17) rfl)), (zM_G hMqa373ξ (List.mem_of_getElem? (i := 0) rfl) 37).trans (zM_F hMqa373ξ (List.mem_of_getElem? (i := 19) rfl)), fun j => (zM_G hMqa373ξ (List.mem_of_getElem? (i := 2) rfl) (2000 + j)).trans (hVqa373ξ 3 _ (Or.inl (by decide))), fun j => zM_G hMqa373ξ (List.mem_of_getElem? (i := 18) rfl) (2000 + j)⟩, zM_P hMqa373ξ (List.mem_of_getElem? (i := 2) rfl), zM_P hMqa373ξ (List.mem_of_getElem? (i := 18) rfl), zM_P hMqa373ξ (List.mem_of_getElem? (i := 20) rfl), hLqa373ξ.1, hSqa373ξ⟩, hLqa373ξ.2.1⟩, (show 0 ≤ p1ξ by omega), (show p1ξ ≤ _ by omega)⟩ (fun al halξ rna373ξ Pa373 Ga373 hexta373ξ hfra373ξ hoka373ξ hcsa373ξ hpsia373ξ => ?_)
            obtain rfl := List.mem_singleton.mp halξ
            have hra373ξ := zp_int (hoka373ξ _ rfl).1
            obtain ⟨hPea373ξ, hta373ξ⟩ := hpsia373ξ
            have hMa373ξ := zM_eff (eff := [(13, 34, 0), (75, 1001, 0), (13, 38, 0), (13, 39, 0), (13, 40, 0), (77, 1001, 0)]) hMqa373ξ hfra373ξ hexta373ξ (zM_fb (by decide +kernel))
            subst hPea373ξ
            obtain ⟨Ma373, hMa373ξ, hMfa373ξ⟩ := hMa373ξ
            have hVa373ξ : ∀ o k, zNs o k → Ma373 o k = V o k := fun o k hkξ => (zMf_s hMfa373ξ hkξ).trans (hVqa373ξ o k hkξ)
            clear hMfa373ξ hfra373ξ hexta373ξ hoka373ξ hcsa373ξ hVqa373ξ hMqa373ξ hSqa373ξ
            obtain ⟨hta373ξ, hSza373ξ⟩ := hta373ξ
            have hSba373ξ : zSb Ma373 := fun j hjξ => by rw [← zM_G hMa373ξ (List.mem_of_getElem? (i := 18) rfl) (2000 + j)]; exact hSza373ξ j hjξ
            have hta373ξ : rna373ξ = (zd_sn V Lwξ p1ξ) := Eq.trans hta373ξ (zy_sn_9 hLqa373ξ.2.2.1)
            have hta373ξ := (Eq.symm hta373ξ)
            subst hta373ξ
            have hba373ξ := zd_snb (V := V) (L := Lwξ) (t := p1ξ)
            have hsRξ : (zd_sn V Lwξ p1ξ) = (zy_sR (zy_R (zRw V1) (zy_lf (zRw V1) Lwξ p1ξ k9ξ) k9ξ) Lwξ p1ξ) := by rw [← hRvξ]; rfl
            rw [hsRξ]
            have hsbξ := zy_sRb (R := zy_R (zRw V1) (zy_lf (zRw V1) Lwξ p1ξ k9ξ) k9ξ) (L := Lwξ) (t := p1ξ)
            have hm1ξ := zy_m100 hodbξ hsbξ
            refine zp_i2l (pc := 59) hx hb (zd_X12_odds (59, .i2l, 1, 0, []) (List.mem_of_getElem? (i := 32) rfl)) ?_
            refine zp_lmulx (n := ((zy_od (zRw V1) Lwξ p1ξ k9ξ) * (zy_sR (zy_R (zRw V1) (zy_lf (zRw V1) Lwξ p1ξ k9ξ) k9ξ) Lwξ p1ξ))) (pc := 60) hx hb (zd_X12_odds (60, .lmul, 1, 0, []) (List.mem_of_getElem? (i := 33) rfl)) rfl (zp_r1 (by omega) (by omega)) ?_
            refine zp_ldc2 (pc := 61) hx hb hEξ (zd_X12_odds (61, .ldc2_w 483, 3, 0, []) (List.mem_of_getElem? (i := 34) rfl)) (j := 112) rfl ?_
            refine zp_ldivx (n := (((zy_od (zRw V1) Lwξ p1ξ k9ξ) * (zy_sR (zy_R (zRw V1) (zy_lf (zRw V1) Lwξ p1ξ k9ξ) k9ξ) Lwξ p1ξ)) / 100)) (pc := 64) hx hb (zd_X12_odds (64, .ldiv, 1, 0, []) (List.mem_of_getElem? (i := 35) rfl)) (by decide) (Int.tdiv_eq_ediv_of_nonneg hm1ξ.1) (zp_r1 (by omega) (by omega)) ?_
            refine zp_lsubx (n := (zy_od (zRw V1) Lwξ p1ξ (k9ξ + 1))) (pc := 65) hx hb (zd_X12_odds (65, .lsub, 1, 0, []) (List.mem_of_getElem? (i := 36) rfl)) rfl (zp_r1 (by omega) (by omega)) ?_
            refine zp_store (L' := [(3, 1, (zy_od (zRw V1) Lwξ p1ξ (k9ξ + 1))), (5, 0, (k9ξ : Int)), (0, 2, (A 0 : Int)), (1, 0, p1ξ), (2, 0, p2ξ)]) (pc := 66) hx hb hnLξ (zd_X12_odds (66, .lstore_n 3, 1, 0, []) (List.mem_of_getElem? (i := 37) rfl)) rfl rfl rfl ?_
            refine zp_load (pc := 67) hx hb (zd_X12_odds (67, .aload_n 0, 1, 0, []) (List.mem_of_getElem? (i := 38) rfl)) rfl (j := 2) rfl ?_
            refine zp_getf (n := (A 3 : Int)) (pc := 68) hx hb hEξ hwξ (zd_X12_odds (68, .getfield 13, 3, 0, []) (List.mem_of_getElem? (i := 39) rfl)) (j := 21) rfl rfl rfl (zM_P hMa373ξ (List.mem_of_getElem? (i := 0) rfl)) ((zM_G hMa373ξ (List.mem_of_getElem? (i := 0) rfl) 3).trans (zM_F hMa373ξ (List.mem_of_getElem? (i := 1) rfl))) ?_
            refine zp_const (pc := 71) hx hb (zd_X12_odds (71, .bipush 8, 2, 0, []) (List.mem_of_getElem? (i := 40) rfl)) rfl rfl ?_
            refine zp_load (pc := 73) hx hb (zd_X12_odds (73, .aload_n 0, 1, 0, []) (List.mem_of_getElem? (i := 41) rfl)) rfl (j := 2) rfl ?_
            refine zp_getf (n := (A 3 : Int)) (pc := 74) hx hb hEξ hwξ (zd_X12_odds (74, .getfield 13, 3, 0, []) (List.mem_of_getElem? (i := 42) rfl)) (j := 21) rfl rfl rfl (zM_P hMa373ξ (List.mem_of_getElem? (i := 0) rfl)) ((zM_G hMa373ξ (List.mem_of_getElem? (i := 0) rfl) 3).trans (zM_F hMa373ξ (List.mem_of_getElem? (i := 1) rfl))) ?_
            refine zp_const (pc := 77) hx hb (zd_X12_odds (77, .bipush 8, 2, 0, []) (List.mem_of_getElem? (i := 43) rfl)) rfl rfl ?_
            refine zp_ialdT (j := 8) (v := (zy_lf (zRw V1) Lwξ p1ξ k9ξ)) (pc := 79) hx hb hwξ (zd_X12_odds (79, .iaload, 1, 0, []) (List.mem_of_getElem? (i := 44) rfl)) zl_T59 rfl (zl_kd 8) (zM_P hMa373ξ (List.mem_of_getElem? (i := 2) rfl)) (by omega) (show 8 < 5580 by omega) (((zM_G hMa373ξ (List.mem_of_getElem? (i := 2) rfl) (2000 + 8)).trans (hVa373ξ 3 (2000 + 8) (Or.inl (by decide)))).trans h8vξ) (fun _ => ?_)
            refine zp_load (pc := 80) hx hb (zd_X12_odds (80, .aload_n 0, 1, 0, []) (List.mem_of_getElem? (i := 45) rfl)) rfl (j := 2) rfl ?_
            refine zp_load (pc := 81) hx hb (zd_X12_odds (81, .iload_n 1, 1, 0, []) (List.mem_of_getElem? (i := 46) rfl)) rfl (j := 3) rfl ?_
            have hMqa375ξ : zM A zYr zFr Ma373 u.1 Ga373 := hMa373ξ
            have hVqa375ξ : ∀ o k, zNs o k → Ma373 o k = V o k := hVa373ξ
            have hSqa375ξ : zSb Ma373 := hSba373ξ
            have hLqa375ξ : zLV V Lwξ := hLqa373ξ
            have htaa375ξ : 0 ≤ p1ξ ∧ p1ξ ≤ 31 := by omega
            refine zp_call (pc := 82) (how := 0) (idx := 433) (mi := 238) (S := [(0, (zy_lf (zRw V1) Lwξ p1ξ k9ξ)), (0, 8), (2, (A 3 : Int))]) hx hb hEξ hwξ heffξ hrmξ (zX_weo hWξ (A 3) (A 35) (A 37) (fun j => V 3 (2000 + j)) (fun j => Ma373 35 (2000 + j)) Lwξ) rfl (j := 38) rfl rfl (by decide +kernel) (zd_X12_odds (82, .invokevirtual 433, 3, 0, []) (List.mem_of_getElem? (i := 47) rfl)) [(A 0 : Int), p1ξ] rfl ⟨zp_o2 (zM_P hMa373ξ (List.mem_of_getElem? (i := 0) rfl)), zp_o0 (by omega) (by omega) (by omega) (by omega), trivial⟩ (Nat.le_of_ble_eq_true rfl) ⟨⟨⟨⟨(zM_G hMqa375ξ (List.mem_of_getElem? (i := 0) rfl) 20).trans ((hVqa375ξ 0 20 (Or.inr (by decide))).trans hLqa375ξ.2.2.2.2), (zM_G hMqa375ξ (List.mem_of_getElem? (i := 0) rfl) 3).trans (zM_F hMqa375ξ (List.mem_of_getElem? (i := 1) rfl)), (zM_G hMqa375ξ (List.mem_of_getElem? (i := 0) rfl) 35).trans (zM_F hMqa375ξ (List.mem_of_getElem? (i := 17) rfl)), (zM_G hMqa375ξ (List.mem_of_getElem? (i := 0) rfl) 37).trans (zM_F hMqa375ξ (List.mem_of_getElem? (i := 19) rfl)), fun j => (zM_G hMqa375ξ (List.mem_of_getElem? (i := 2) rfl) (2000 + j)).trans (hVqa375ξ 3 _ (Or.inl (by decide))), fun j => zM_G hMqa375ξ (List.mem_of_getElem? (i := 18) rfl) (2000 + j)⟩, zM_P hMqa375ξ (List.mem_of_getElem? (i := 2) rfl), zM_P hMqa375ξ (List.mem_of_getElem? (i := 18) rfl), zM_P hMqa375ξ (List.mem_of_getElem? (i := 20) rfl), hLqa375ξ.1, hSqa375ξ⟩, hLqa375ξ.2.1⟩, (show 0 ≤ p1ξ by omega), (show p1ξ ≤ _ by omega)⟩ (fun al halξ rna375ξ Pa375 Ga375 hexta375ξ hfra375ξ hoka375ξ hcsa375ξ hpsia375ξ => ?_)
            obtain rfl := List.mem_singleton.mp halξ
            have hra375ξ := zp_int (hoka375ξ _ rfl).1
            obtain ⟨hPea375ξ, hta375ξ⟩ := hpsia375ξ
            have hMa375ξ := zM_eff (eff := [(13, 34, 0), (75, 1001, 0), (13, 38, 0), (13, 39, 0), (13, 40, 0), (77, 1001, 0)]) hMqa375ξ hfra375ξ hexta375ξ (zM_fb (by decide +kernel))
            subst hPea375ξ
            obtain ⟨Ma375, hMa375ξ, hMfa375ξ⟩ := hMa375ξ
            have hVa375ξ : ∀ o k, zNs o k → Ma375 o k = V o k := fun o k hkξ => (zMf_s hMfa375ξ hkξ).trans (hVqa375ξ o k hkξ)
            clear hMfa375ξ hfra375ξ hexta375ξ hoka375ξ hcsa375ξ hVqa375ξ hMqa375ξ hSqa375ξ
            obtain ⟨hta375ξ, hSza375ξ⟩ := hta375ξ
            have hSba375ξ : zSb Ma375 := fun j hjξ => by rw [← zM_G hMa375ξ (List.mem_of_getElem? (i := 18) rfl) (2000 + j)]; exact hSza375ξ j hjξ
            have hta375ξ : rna375ξ = (zd_we V Lwξ p1ξ) := Eq.trans hta375ξ (zy_we_9 hLqa375ξ.2.2.1)
            have hta375ξ := (Eq.symm hta375ξ)
            subst hta375ξ
            have hba375ξ := zd_web (V := V) (L := Lwξ) htaa375ξ.1 htaa375ξ.2
            have hwRξ : (zd_we V Lwξ p1ξ) = zy_wR (zy_R (zRw V1) (zy_lf (zRw V1) Lwξ p1ξ k9ξ) k9ξ) Lwξ p1ξ := by rw [← hRvξ]; rfl
            have hlf9ξ : max 0 (min 9999 (zy_lf (zRw V1) Lwξ p1ξ k9ξ - (zd_we V Lwξ p1ξ))) = (zy_lf (zRw V1) Lwξ p1ξ (k9ξ + 1)) := by
              have h9ξ : (zy_lf (zRw V1) Lwξ p1ξ (k9ξ + 1)) = max 0 (zy_lf (zRw V1) Lwξ p1ξ k9ξ - zy_wR (zy_R (zRw V1) (zy_lf (zRw V1) Lwξ p1ξ k9ξ) k9ξ) Lwξ p1ξ) := rfl
              rw [h9ξ, ← hwRξ]
              omega
            have hlfb1ξ := zy_lfb (R := (zRw V1)) (L := Lwξ) hp12ξ.1 hp12ξ.2 ⟨by rw [hRzξ]; exact hlf0ξ, by rw [hRzξ]; exact hlf1ξ⟩ (k9ξ + 1)
            refine zp_sub (n := ((zy_lf (zRw V1) Lwξ p1ξ k9ξ) - (zd_we V Lwξ p1ξ))) (pc := 85) hx hb (zd_X12_odds (85, .isub, 1, 0, []) (List.mem_of_getElem? (i := 48) rfl)) (by omega) (zp_r0 (by omega) (by omega)) ?_
            refine zp_i2l (pc := 86) hx hb (zd_X12_odds (86, .i2l, 1, 0, []) (List.mem_of_getElem? (i := 49) rfl)) ?_
            refine zp_const (pc := 87) hx hb (zd_X12_odds (87, .iconst 0, 1, 0, []) (List.mem_of_getElem? (i := 50) rfl)) rfl rfl ?_
            refine zp_const (pc := 88) hx hb (zd_X12_odds (88, .sipush 9999, 3, 0, []) (List.mem_of_getElem? (i := 51) rfl)) rfl rfl ?_
            refine zp_call (pc := 91) (how := 1) (idx := 427) (mi := 245) (S := [(0, 8), (2, (A 3 : Int))]) hx hb hEξ hwξ heffξ hrmξ (zX_wi hWξ) rfl (j := 45) rfl rfl (by decide +kernel) (zd_X12_odds (91, .invokestatic 427, 3, 0, []) (List.mem_of_getElem? (i := 52) rfl)) [((zy_lf (zRw V1) Lwξ p1ξ k9ξ) - (zd_we V Lwξ p1ξ)), 0, 9999] rfl ⟨zp_o1 (zp_r1 (by omega) (by omega)), zp_o0 (by omega) (by omega) (by omega) (by omega), zp_o0 (by omega) (by omega) (by omega) (by omega), trivial⟩ (Nat.le_of_ble_eq_true rfl) (show 0 ≤ 9999 by omega) (fun al halξ rnv376ξ Pv376 Gv376 hextv376ξ hfrv376ξ hokv376ξ hcsv376ξ hpsiv376ξ => ?_)
            obtain rfl := List.mem_singleton.mp halξ
            have hrv376ξ := zp_int (hokv376ξ _ rfl).1
            obtain ⟨hPev376ξ, hGev376ξ, htv376ξ⟩ := hpsiv376ξ
            rw [hPev376ξ, hGev376ξ]
            clear hextv376ξ hfrv376ξ hcsv376ξ hPev376ξ hGev376ξ
            have htv376ξ : rnv376ξ = (max 0 (min 9999 ((zy_lf (zRw V1) Lwξ p1ξ k9ξ) - (zd_we V Lwξ p1ξ)))) := htv376ξ
            have htv376ξ := (Eq.symm htv376ξ)
            subst htv376ξ
            have hxv376ξ : 0 ≤ (max 0 (min 9999 ((zy_lf (zRw V1) Lwξ p1ξ k9ξ) - (zd_we V Lwξ p1ξ)))) ∧ (max 0 (min 9999 ((zy_lf (zRw V1) Lwξ p1ξ k9ξ) - (zd_we V Lwξ p1ξ)))) ≤ 9999 := by omega
            rw [hlf9ξ]
            refine zp_iastR (j := 8) (pc := 94) hx hb hwξ heffξ (zd_X12_odds (94, .iastore, 1, 0, []) (List.mem_of_getElem? (i := 53) rfl)) (zM_P hMa375ξ (List.mem_of_getElem? (i := 2) rfl)) (by omega) (show 8 < 180 by omega) (zr_st (lo := 0) (hi := 9999) ⟨rfl, rfl, rfl⟩ (by omega) (by omega) (by omega) (by omega)) ⟨1002, rfl, zp_1002 (by omega)⟩ ?_
            refine zp_load (pc := 95) hx hb (zd_X12_odds (95, .aload_n 0, 1, 0, []) (List.mem_of_getElem? (i := 54) rfl)) rfl (j := 2) rfl ?_
            refine zp_getf (n := (A 3 : Int)) (pc := 96) hx hb hEξ hwξ (zd_X12_odds (96, .getfield 13, 3, 0, []) (List.mem_of_getElem? (i := 55) rfl)) (j := 21) rfl rfl rfl (zM_P hMa375ξ (List.mem_of_getElem? (i := 0) rfl)) ((zp_set_ne (Or.inl (zM_ne hMa375ξ (List.mem_of_getElem? (i := 0) rfl) (List.mem_of_getElem? (i := 2) rfl) (by decide)))).trans (((zM_G hMa375ξ (List.mem_of_getElem? (i := 0) rfl) 3).trans (zM_F hMa375ξ (List.mem_of_getElem? (i := 1) rfl))))) ?_
            refine zp_const (pc := 99) hx hb (zd_X12_odds (99, .iconst 5, 1, 0, []) (List.mem_of_getElem? (i := 56) rfl)) rfl rfl ?_
            refine zp_dup2 (pc := 100) hx hb (zd_X12_odds (100, .dup2, 1, 0, []) (List.mem_of_getElem? (i := 57) rfl)) (show (0 : Nat) ≠ 1 by decide) (show (2 : Nat) ≠ 1 by decide) ?_
            refine zp_ialdT (j := 5) (v := (V0 3 (2000 + 5) + (k9ξ : Int))) (pc := 101) hx hb hwξ (zd_X12_odds (101, .iaload, 1, 0, []) (List.mem_of_getElem? (i := 58) rfl)) zl_T59 rfl (zl_kd 5) (zM_P hMa375ξ (List.mem_of_getElem? (i := 2) rfl)) (by omega) (show 5 < 5580 by omega) ((zp_set_ne (Or.inr (by omega))).trans ((((zM_G hMa375ξ (List.mem_of_getElem? (i := 2) rfl) (2000 + 5)).trans (hVa375ξ 3 (2000 + 5) (Or.inl (by decide)))).trans h5vξ))) (fun _ => ?_)
            refine zp_const (pc := 102) hx hb (zd_X12_odds (102, .iconst 1, 1, 0, []) (List.mem_of_getElem? (i := 59) rfl)) rfl rfl ?_
            refine zp_add (n := ((V0 3 (2000 + 5) + (k9ξ : Int)) + 1)) (pc := 103) hx hb (zd_X12_odds (103, .iadd, 1, 0, []) (List.mem_of_getElem? (i := 60) rfl)) (by omega) (zp_r0 (by omega) (by omega)) ?_
            refine zp_iastR (j := 5) (pc := 104) hx hb hwξ heffξ (zd_X12_odds (104, .iastore, 1, 0, []) (List.mem_of_getElem? (i := 61) rfl)) (zM_P hMa375ξ (List.mem_of_getElem? (i := 2) rfl)) (by omega) (show 5 < 180 by omega) (zr_st (lo := (-2147483648)) (hi := 2147483647) ⟨rfl, rfl, rfl⟩ (by omega) (by omega) (by omega) (by omega)) ⟨1002, rfl, zp_1002 (by omega)⟩ ?_
            refine zp_iinc (L' := [(5, 0, ((k9ξ : Int) + 1)), (3, 1, (zy_od (zRw V1) Lwξ p1ξ (k9ξ + 1))), (0, 2, (A 0 : Int)), (1, 0, p1ξ), (2, 0, p2ξ)]) (n := ((k9ξ : Int) + 1)) (pc := 105) hx hb hnLξ (zd_X12_odds (105, .iinc 5 1, 3, 0, []) (List.mem_of_getElem? (i := 62) rfl)) (j := 1) rfl (by omega) (zp_r0 (by omega) (by omega)) rfl rfl ?_
            refine zp_goto (tgt := 46) (pc := 108) hx hb (zd_X12_odds (108, .goto (-62), 3, 0, []) (List.mem_of_getElem? (i := 63) rfl)) rfl ?_
            refine zp_drop (L' := [(5, 0, ((k9ξ : Int) + 1)), (3, 1, (zy_od (zRw V1) Lwξ p1ξ (k9ξ + 1))), (0, 2, (A 0 : Int)), (1, 0, p1ξ), (2, 0, p2ξ)]) (by simp) ?_
            refine ih (k9ξ + 1) (zp_set (zp_set V 3 (2000 + 8) (zy_lf (zRw V1) Lwξ p1ξ (k9ξ + 1))) 3 (2000 + 5) ((V0 3 (2000 + 5) + (k9ξ : Int)) + 1)) (zp_set (zp_set Ma375 3 (2000 + 8) (zy_lf (zRw V1) Lwξ p1ξ (k9ξ + 1))) 3 (2000 + 5) ((V0 3 (2000 + 5) + (k9ξ : Int)) + 1)) (zp_set (zp_set Ga375 (A 3) (2000 + 8) (zy_lf (zRw V1) Lwξ p1ξ (k9ξ + 1))) (A 3) (2000 + 5) ((V0 3 (2000 + 5) + (k9ξ : Int)) + 1)) (by omega) (zM_setE (zM_setE hMa375ξ (List.mem_of_getElem? (i := 2) rfl)) (List.mem_of_getElem? (i := 2) rfl)) (zV_set (zV_set hVa375ξ)) (zSb_set (by decide) (zSb_set (by decide) hSba375ξ)) (zLV_3 (by omega) (by omega) (by omega) (zLV_3 (by omega) (by omega) (by omega) hLqa375ξ)) ?_
            have h9ξ := zPp_s (x' := (zy_lf (zRw V1) Lwξ p1ξ (k9ξ + 1))) (d' := V0 3 (2000 + 5) + (k9ξ : Int) + 1) hPξ
            rw [show V1 3 (2000 + 5) + ((k9ξ + 1 : Nat) : Int) = V0 3 (2000 + 5) + (k9ξ : Int) + 1 by omega]
            exact h9ξ
      refine zp_drop (L' := [(5, 0, 0), (3, 1, 1000000000000), (0, 2, (A 0 : Int)), (1, 0, p1ξ), (2, 0, p2ξ)]) (by simp) ?_
      refine loop p2ξ.toNat 0 V1 Mk369 Gk369 (by omega) hMk369ξ (by rw [hV1ξ]; exact hVk369ξ) hSbk369ξ (by rw [hV1ξ]; exact hLV1ξ) ?_
      show zPp V1 V1 (V1 3 (2000 + 8)) (V1 3 (2000 + 5) + ((0 : Nat) : Int))
      rw [show V1 3 (2000 + 5) + ((0 : Nat) : Int) = V1 3 (2000 + 5) by omega]
      exact zPp_i
    · have hbf368ξ : ¬ (0 ≤ p2ξ ∧ p2ξ ≤ 60) := fun h9ξ => absurd ((Iff.mpr htn365ξ) h9ξ) (by omega)
      refine zp_ldc2 (pc := 29) hx hb hEξ (zd_X12_odds (29, .ldc2_w 267, 3, 0, []) (List.mem_of_getElem? (i := 15) rfl)) (j := 92) rfl ?_
      refine zp_lret (pc := 32) (n := (-1)) hx hb hEξ hQξ hU5ξ rfl (by decide) (zd_X12_odds (32, .lreturn, 1, 0, []) (List.mem_of_getElem? (i := 16) rfl)) (j := 0) rfl (zp_o1 (by first | assumption | exact zp_r1 (by omega) (by omega))) ?_
      rw [hpsξ]
      refine ⟨rfl, ?_⟩
      refine ⟨_, ⟨(zp_set M 0 0 0), (zM_set hMξ (List.mem_of_getElem? (i := 0) rfl) (by decide)), (zV_set hVξ), (zSb_set (by decide) hSbξ)⟩, fun o k _ c2 => zp_set_ne c2, ?_⟩
      show (-1) = (if (0 ≤ p1ξ ∧ p1ξ ≤ 12) ∧ 0 ≤ p2ξ ∧ p2ξ ≤ 60 then zy_od (zRw V) Lwξ p1ξ p2ξ.toNat else -1)
      rw [if_neg (show ¬ ((0 ≤ p1ξ ∧ p1ξ ≤ 12) ∧ 0 ≤ p2ξ ∧ p2ξ ≤ 60) by omega)]
