/-! part haξ: the reference over logical cells: of -/
/-- howξ many works of one's are not done -/
noncomputable def zc_wl (ow dn mi : Nat → Int) (p : Int) : Nat → Int
  | 0 => 0
  | w + 1 => zc_wl ow dn mi p w + (if ow w = p ∧ dn w < mi w then 1 else 0)
theorem zc_wlb {ow dn mi : Nat → Int} {p : Int} : ∀ {w : Nat}, 0 ≤ zc_wl ow dn mi p w ∧ zc_wl ow dn mi p w ≤ (w : Int)
  | 0 => ⟨Int.le_refl _, Int.le_refl _⟩
  | w + 1 => by
    have := zc_wlb (ow := ow) (dn := dn) (mi := mi) (p := p) (w := w)
    rw [zc_wl]
    split <;> omega
noncomputable def zf_ofr (V : Nat → Nat → Int) (npξ n1ξ : Nat) (p1ξ : Int) (p2ξ : Int) : Int × (Nat → Nat → Int) := if 0 ≤ p1ξ ∧ p1ξ < (npξ : Int) then if 0 ≤ p2ξ ∧ p2ξ ≤ 3 then if 3 ≤ p2ξ then ((zc_wl (fun w => V 3 (2000 + (5 * w + 39))) (fun w => V 3 (2000 + (w + 29))) (fun w => V 3 (2000 + (5 * w + 40))) p1ξ n1ξ), (zp_set V 0 0 0)) else if p2ξ = 0 then ((V 3 (2000 + (3 * p1ξ.toNat + 11))), (zp_set V 0 0 0)) else if p2ξ = 1 then ((V 3 (2000 + (3 * p1ξ.toNat + 12))), (zp_set V 0 0 0)) else ((V 3 (2000 + (3 * p1ξ.toNat + 13))), (zp_set V 0 0 0)) else ((-1), (zp_set V 0 0 0)) else ((-1), (zp_set V 0 0 0))
noncomputable def zK_ofr : zk_K := (zt_mn 194, prog_14_method_25_code, 5, (Option.some Jvm.ClassFile.FieldType.int), 1, 12, [(2, 13, 0, 0), (0, 0, (-2147483648), 2147483647), (0, 0, (-2147483648), 2147483647)], [(some (0, 0, (-2147483648), 2147483647), [])], zUE, (3, 180, 0, 0))
noncomputable def zφ_ofr (A : Nat → Nat) (V : Nat → Nat → Int) (npξ n1ξ : Nat) : (Nat → Option Nat) → (Nat → Nat → Int) → List Int → Prop := fun P G ps => zMVr A V P G ∧ ps.getD 0 0 = (A 0 : Int) ∧ (∀ j, j < 5580 → -2147483648 ≤ V 3 (2000 + j) ∧ V 3 (2000 + j) ≤ 2147483647) ∧ V 3 (2000 + 0) = (npξ : Int) ∧ npξ ≤ 6 ∧ V 3 (2000 + 1) = (n1ξ : Int) ∧ n1ξ ≤ 10 ∧ ∀ w, w < n1ξ → V 3 (2000 + (w + 29)) ≤ V 3 (2000 + (5 * w + 40))
noncomputable def zψ_ofr (A : Nat → Nat) (V : Nat → Nat → Int) (npξ n1ξ : Nat) : (Nat → Option Nat) → (Nat → Nat → Int) → List Int → (Nat → Option Nat) → (Nat → Nat → Int) → Int → Prop := fun P G ps P' G' rn => P' = P ∧ zMVr A (zf_ofr V npξ n1ξ (ps.getD 1 0) (ps.getD 2 0)).2 P' G' ∧ rn = (zf_ofr V npξ n1ξ (ps.getD 1 0) (ps.getD 2 0)).1
theorem zX_ofr {l : Launch} {w : zk_W} (hWξ : zh_W w) (A : Nat → Nat) (V : Nat → Nat → Int) (npξ n1ξ : Nat) : zk_metX l w zt_dv zt_TB zK_ofr (zp_A (zφ_ofr A V npξ n1ξ)) (zp_B (zψ_ofr A V npξ n1ξ)) ∧ zk_cok w zt_TB zK_ofr := by
  refine zp_methX (cn := "WoundTownModel") zp_lkall hWξ (pl := 1607) rfl (by decide +kernel) (fun p e R s m args below meth c Q u hx hb hEξ hQξ hU5ξ heffξ hnLξ hokξ hφ => ?_)
  have hwξ := hWξ.1
  obtain ⟨p0ξ, p1ξ, p2ξ, hpsξ, tk0, tk1, tk2⟩ := zp_ps3 hokξ
  have hrmξ : zk_Kr (zk_ev (zt_types, zp_lk, zt_dv, [], [], zp_lc, zK_ofr)) = zk_Kr zK_ofr := rfl
  rw [hpsξ] at hφ ⊢
  have hφ : zMVr A V u.1 (zp_n u.2.1) ∧ p0ξ = (A 0 : Int) ∧ (∀ j, j < 5580 → -2147483648 ≤ V 3 (2000 + j) ∧ V 3 (2000 + j) ≤ 2147483647) ∧ V 3 (2000 + 0) = (npξ : Int) ∧ npξ ≤ 6 ∧ V 3 (2000 + 1) = (n1ξ : Int) ∧ n1ξ ≤ 10 ∧ ∀ w, w < n1ξ → V 3 (2000 + (w + 29)) ≤ V 3 (2000 + (5 * w + 40)) := hφ
  obtain ⟨⟨M, hMξ, hVξ, hSbξ⟩, rfl, hRξ, hnpξ, hnp6ξ, hn1ξ, hn10ξ, hdmξ⟩ := hφ
  have hi1ξ := zp_int tk1
  have hi2ξ := zp_int tk2
  show zp_J p l e R s m args below meth c Q w u [] 0 [(0, 2, (A 0 : Int)), (1, 0, p1ξ), (2, 0, p2ξ)] [] u.1 (zp_n u.2.1)
  refine zp_load (pc := 0) hx hb (zd_X12_of (0, .aload_n 0, 1, 0, []) (List.mem_of_getElem? (i := 0) rfl)) rfl (j := 0) rfl ?_
  refine zp_const (pc := 1) hx hb (zd_X12_of (1, .iconst 0, 1, 0, []) (List.mem_of_getElem? (i := 1) rfl)) rfl rfl ?_
  refine zp_putf (pc := 2) hx hb hEξ hwξ heffξ (zd_X12_of (2, .putfield 161, 3, 0, []) (List.mem_of_getElem? (i := 2) rfl)) (j := 18) rfl rfl rfl (zM_P hMξ (List.mem_of_getElem? (i := 0) rfl)) (zp_o0 (by decide) (by decide) (by decide) (by decide)) ?_
  refine zp_load (pc := 5) hx hb (zd_X12_of (5, .aload_n 0, 1, 0, []) (List.mem_of_getElem? (i := 3) rfl)) rfl (j := 0) rfl ?_
  refine zp_load (pc := 6) hx hb (zd_X12_of (6, .iload_n 1, 1, 0, []) (List.mem_of_getElem? (i := 4) rfl)) rfl (j := 1) rfl ?_
  refine zp_call (pc := 7) (how := 0) (idx := 201) (mi := 193) (S := []) hx hb hEξ hwξ heffξ hrmξ (zX_isp hWξ A (zp_set M 0 0 0)) rfl (j := 5) rfl rfl (by decide +kernel) (zd_X12_of (7, .invokevirtual 201, 3, 0, []) (List.mem_of_getElem? (i := 5) rfl)) [(A 0 : Int), p1ξ] rfl ⟨zp_o2 (zM_P hMξ (List.mem_of_getElem? (i := 0) rfl)), zp_o0 (by omega) (by omega) (by omega) (by omega), trivial⟩ (Nat.le_of_ble_eq_true rfl) ⟨(zM_set hMξ (List.mem_of_getElem? (i := 0) rfl) (by decide)), rfl, (show -2147483647 ≤ (zp_set M 0 0 0) 3 (2000 + 0) ∧ (zp_set M 0 0 0) 3 (2000 + 0) ≤ 2147483647 by rw [((zp_set_ne (Or.inl (by decide))).trans (((hVξ 3 (2000 + 0) (Or.inl (by decide))).trans hnpξ)))]; omega)⟩ (fun al halξ rni221ξ Pi221 Gi221 hexti221ξ hfri221ξ hoki221ξ hcsi221ξ hpsii221ξ => ?_)
  obtain rfl := List.mem_singleton.mp halξ
  have hri221ξ := zp_int (hoki221ξ _ rfl).1
  obtain ⟨hPei221ξ, hGei221ξ, hti221ξ⟩ := hpsii221ξ
  rw [hPei221ξ, hGei221ξ]
  clear hexti221ξ hfri221ξ hcsi221ξ hPei221ξ hGei221ξ
  have hti221ξ : rni221ξ = 1 ↔ 0 ≤ p1ξ ∧ p1ξ < (npξ : Int) := by
    have h9ξ : rni221ξ = 1 ↔ 0 ≤ p1ξ ∧ p1ξ < (zp_set M 0 0 0) 3 (2000 + 0) := hti221ξ
    rw [((zp_set_ne (Or.inl (by decide))).trans (((hVξ 3 (2000 + 0) (Or.inl (by decide))).trans hnpξ)))] at h9ξ
    exact h9ξ
  refine zp_if (pc := 10) (tgt := 25) hx hb (zd_X12_of (10, .ifCond .eq 15, 3, 0, []) (List.mem_of_getElem? (i := 6) rfl)) rfl (fun (hc222ξ : rni221ξ = 0) => ?_) (fun (hc222ξ : ¬ (rni221ξ = 0)) => ?_)
  · have hbf223ξ : ¬ (0 ≤ p1ξ ∧ p1ξ < (npξ : Int)) := fun h9ξ => absurd ((Iff.mpr hti221ξ) h9ξ) (by omega)
    refine zp_const (pc := 25) hx hb (zd_X12_of (25, .iconst (-1), 1, 0, []) (List.mem_of_getElem? (i := 13) rfl)) rfl rfl ?_
    refine zp_iret (pc := 26) (n := (-1)) hx hb hEξ hQξ hU5ξ rfl (by decide) (zd_X12_of (26, .ireturn, 1, 0, []) (List.mem_of_getElem? (i := 14) rfl)) (j := 0) rfl (zp_o0 (by omega) (by omega) (by omega) (by omega)) ?_
    rw [hpsξ]
    refine ⟨rfl, ?_⟩
    have hffξ : zf_ofr V npξ n1ξ p1ξ p2ξ = ((-1), (zp_set V 0 0 0)) := by
      unfold zf_ofr
      rw [if_neg (fun h9ξ => absurd ((Iff.mpr hti221ξ) h9ξ) (by omega))]
    show zMVr A (zf_ofr V npξ n1ξ p1ξ p2ξ).2 u.1 (zp_set (zp_n u.2.1) (A 0) 0 0) ∧ (-1) = (zf_ofr V npξ n1ξ p1ξ p2ξ).1
    rw [hffξ]
    exact ⟨⟨(zp_set M 0 0 0), (zM_set hMξ (List.mem_of_getElem? (i := 0) rfl) (by decide)), (zV_set hVξ), (zSb_set (by decide) hSbξ)⟩, rfl⟩
  · have hbt224ξ := (Iff.mp hti221ξ) (by omega)
    refine zp_load (pc := 13) hx hb (zd_X12_of (13, .iload_n 2, 1, 0, []) (List.mem_of_getElem? (i := 7) rfl)) rfl (j := 2) rfl ?_
    refine zp_i2l (pc := 14) hx hb (zd_X12_of (14, .i2l, 1, 0, []) (List.mem_of_getElem? (i := 8) rfl)) ?_
    refine zp_const (pc := 15) hx hb (zd_X12_of (15, .lconst 0, 1, 0, []) (List.mem_of_getElem? (i := 9) rfl)) rfl rfl ?_
    refine zp_ldc2 (pc := 16) hx hb hEξ (zd_X12_of (16, .ldc2_w 205, 3, 0, []) (List.mem_of_getElem? (i := 10) rfl)) (j := 85) rfl ?_
    refine zp_call (pc := 19) (how := 1) (idx := 181) (mi := 186) (S := []) hx hb hEξ hwξ heffξ hrmξ (zX_in2 hWξ) rfl (j := 2) rfl rfl (by decide +kernel) (zd_X12_of (19, .invokestatic 181, 3, 0, []) (List.mem_of_getElem? (i := 11) rfl)) [p2ξ, 0, 3] rfl ⟨zp_o1 (by first | assumption | exact zp_r1 (by omega) (by omega)), zp_o1 (by first | assumption | exact zp_r1 (by omega) (by omega)), zp_o1 (by first | assumption | exact zp_r1 (by omega) (by omega)), trivial⟩ (Nat.le_of_ble_eq_true rfl) trivial (fun al halξ rnn225ξ Pn225 Gn225 hextn225ξ hfrn225ξ hokn225ξ hcsn225ξ hpsin225ξ => ?_)
    obtain rfl := List.mem_singleton.mp halξ
    have hrn225ξ := zp_int (hokn225ξ _ rfl).1
    obtain ⟨hPen225ξ, hGen225ξ, htn225ξ⟩ := hpsin225ξ
    rw [hPen225ξ, hGen225ξ]
    clear hextn225ξ hfrn225ξ hcsn225ξ hPen225ξ hGen225ξ
    have htn225ξ : rnn225ξ = 1 ↔ 0 ≤ p2ξ ∧ p2ξ ≤ 3 := htn225ξ
    refine zp_if (pc := 22) (tgt := 27) hx hb (zd_X12_of (22, .ifCond .ne 5, 3, 0, []) (List.mem_of_getElem? (i := 12) rfl)) rfl (fun (hc226ξ : ¬ rnn225ξ = 0) => ?_) (fun (hc226ξ : ¬ (¬ rnn225ξ = 0)) => ?_)
    · have hbt227ξ := (Iff.mp htn225ξ) (by omega)
      refine zp_load (pc := 27) hx hb (zd_X12_of (27, .iload_n 2, 1, 0, []) (List.mem_of_getElem? (i := 15) rfl)) rfl (j := 2) rfl ?_
      refine zp_const (pc := 28) hx hb (zd_X12_of (28, .iconst 3, 1, 0, []) (List.mem_of_getElem? (i := 16) rfl)) rfl rfl ?_
      refine zp_icmp (pc := 29) (tgt := 39) hx hb (zd_X12_of (29, .if_icmp .ge 10, 3, 0, []) (List.mem_of_getElem? (i := 17) rfl)) rfl (fun (hc229ξ : 3 ≤ p2ξ) => ?_) (fun (hc229ξ : ¬ (3 ≤ p2ξ)) => ?_)
      · refine zp_const (pc := 39) hx hb (zd_X12_of (39, .iconst 0, 1, 0, []) (List.mem_of_getElem? (i := 23) rfl)) rfl rfl ?_
        refine zp_store (L' := [(3, 0, 0), (0, 2, (A 0 : Int)), (1, 0, p1ξ), (2, 0, p2ξ)]) (pc := 40) hx hb hnLξ (zd_X12_of (40, .istore_n 3, 1, 0, []) (List.mem_of_getElem? (i := 24) rfl)) rfl rfl rfl ?_
        refine zp_const (pc := 41) hx hb (zd_X12_of (41, .iconst 0, 1, 0, []) (List.mem_of_getElem? (i := 25) rfl)) rfl rfl ?_
        refine zp_store (L' := [(4, 0, 0), (3, 0, 0), (0, 2, (A 0 : Int)), (1, 0, p1ξ), (2, 0, p2ξ)]) (pc := 42) hx hb hnLξ (zd_X12_of (42, .istore 4, 2, 0, []) (List.mem_of_getElem? (i := 26) rfl)) rfl rfl rfl ?_
        have loopo : ∀ (k9ξ w9ξ : Nat), k9ξ + w9ξ = n1ξ → zp_J p l e R s m args below meth c Q w u [] 44 [(4, 0, (w9ξ : Int)), (3, 0, (zc_wl (fun w => V 3 (2000 + (5 * w + 39))) (fun w => V 3 (2000 + (w + 29))) (fun w => V 3 (2000 + (5 * w + 40))) p1ξ w9ξ)), (0, 2, (A 0 : Int)), (1, 0, p1ξ), (2, 0, p2ξ)] [] u.1 (zp_set (zp_n u.2.1) (A 0) 0 0) := by
          intro k9ξ
          induction k9ξ with
          | zero =>
            intro w9ξ hkξ
            have e9ξ : w9ξ = n1ξ := by omega
            rw [e9ξ]
            have hwbξ := zc_wlb (ow := (fun w => V 3 (2000 + (5 * w + 39)))) (dn := (fun w => V 3 (2000 + (w + 29)))) (mi := (fun w => V 3 (2000 + (5 * w + 40)))) (p := p1ξ) (w := n1ξ)
            refine zp_load (pc := 44) hx hb (zd_X12_of (44, .iload 4, 2, 0, []) (List.mem_of_getElem? (i := 27) rfl)) rfl (j := 0) rfl ?_
            refine zp_load (pc := 46) hx hb (zd_X12_of (46, .aload_n 0, 1, 0, []) (List.mem_of_getElem? (i := 28) rfl)) rfl (j := 2) rfl ?_
            refine zp_getf (n := (A 3 : Int)) (pc := 47) hx hb hEξ hwξ (zd_X12_of (47, .getfield 13, 3, 0, []) (List.mem_of_getElem? (i := 29) rfl)) (j := 21) rfl rfl rfl (zM_P hMξ (List.mem_of_getElem? (i := 0) rfl)) ((zp_set_ne (Or.inr (by decide))).trans (((zM_G hMξ (List.mem_of_getElem? (i := 0) rfl) 3).trans (zM_F hMξ (List.mem_of_getElem? (i := 1) rfl))))) ?_
            refine zp_const (pc := 50) hx hb (zd_X12_of (50, .iconst 1, 1, 0, []) (List.mem_of_getElem? (i := 30) rfl)) rfl rfl ?_
            refine zp_ialdT (j := 1) (v := (n1ξ : Int)) (pc := 51) hx hb hwξ (zd_X12_of (51, .iaload, 1, 0, []) (List.mem_of_getElem? (i := 31) rfl)) zl_T59 rfl (zl_kd 1) (zM_P hMξ (List.mem_of_getElem? (i := 2) rfl)) (by omega) (show 1 < 5580 by omega) ((zp_set_ne (Or.inl (zM_ne hMξ (List.mem_of_getElem? (i := 2) rfl) (List.mem_of_getElem? (i := 0) rfl) (by decide)))).trans ((((zM_G hMξ (List.mem_of_getElem? (i := 2) rfl) (2000 + 1)).trans (hVξ 3 (2000 + 1) (Or.inl (by decide)))).trans hn1ξ))) (fun _ => ?_)
            refine zp_icmp (pc := 52) (tgt := 89) hx hb (zd_X12_of (52, .if_icmp .ge 37, 3, 0, []) (List.mem_of_getElem? (i := 32) rfl)) rfl (fun (hc231ξ : (n1ξ : Int) ≤ (n1ξ : Int)) => ?_) (fun (hc231ξ : ¬ ((n1ξ : Int) ≤ (n1ξ : Int))) => ?_)
            · refine zp_load (pc := 89) hx hb (zd_X12_of (89, .iload_n 3, 1, 0, []) (List.mem_of_getElem? (i := 51) rfl)) rfl (j := 1) rfl ?_
              refine zp_iret (pc := 90) (n := (zc_wl (fun w => V 3 (2000 + (5 * w + 39))) (fun w => V 3 (2000 + (w + 29))) (fun w => V 3 (2000 + (5 * w + 40))) p1ξ n1ξ)) hx hb hEξ hQξ hU5ξ rfl (by decide) (zd_X12_of (90, .ireturn, 1, 0, []) (List.mem_of_getElem? (i := 52) rfl)) (j := 0) rfl (zp_o0 (by omega) (by omega) (by omega) (by omega)) ?_
              rw [hpsξ]
              refine ⟨rfl, ?_⟩
              have hffξ : zf_ofr V npξ n1ξ p1ξ p2ξ = ((zc_wl (fun w => V 3 (2000 + (5 * w + 39))) (fun w => V 3 (2000 + (w + 29))) (fun w => V 3 (2000 + (5 * w + 40))) p1ξ n1ξ), (zp_set V 0 0 0)) := by
                unfold zf_ofr
                rw [if_pos ((Iff.mp hti221ξ) (by omega)), if_pos ((Iff.mp htn225ξ) (by omega)), if_pos hc229ξ]
              show zMVr A (zf_ofr V npξ n1ξ p1ξ p2ξ).2 u.1 (zp_set (zp_n u.2.1) (A 0) 0 0) ∧ (zc_wl (fun w => V 3 (2000 + (5 * w + 39))) (fun w => V 3 (2000 + (w + 29))) (fun w => V 3 (2000 + (5 * w + 40))) p1ξ n1ξ) = (zf_ofr V npξ n1ξ p1ξ p2ξ).1
              rw [hffξ]
              exact ⟨⟨(zp_set M 0 0 0), (zM_set hMξ (List.mem_of_getElem? (i := 0) rfl) (by decide)), (zV_set hVξ), (zSb_set (by decide) hSbξ)⟩, rfl⟩
            · exfalso
              omega
          | succ k9ξ iho =>
            intro w9ξ hkξ
            have hwbξ := zc_wlb (ow := (fun w => V 3 (2000 + (5 * w + 39)))) (dn := (fun w => V 3 (2000 + (w + 29)))) (mi := (fun w => V 3 (2000 + (5 * w + 40)))) (p := p1ξ) (w := w9ξ)
            have hdm9ξ := hdmξ w9ξ (by omega)
            have hdm9ξ : V 3 (2000 + (w9ξ + 29)) ≤ V 3 (2000 + (5 * w9ξ + 40)) := hdm9ξ
            refine zp_load (pc := 44) hx hb (zd_X12_of (44, .iload 4, 2, 0, []) (List.mem_of_getElem? (i := 27) rfl)) rfl (j := 0) rfl ?_
            refine zp_load (pc := 46) hx hb (zd_X12_of (46, .aload_n 0, 1, 0, []) (List.mem_of_getElem? (i := 28) rfl)) rfl (j := 2) rfl ?_
            refine zp_getf (n := (A 3 : Int)) (pc := 47) hx hb hEξ hwξ (zd_X12_of (47, .getfield 13, 3, 0, []) (List.mem_of_getElem? (i := 29) rfl)) (j := 21) rfl rfl rfl (zM_P hMξ (List.mem_of_getElem? (i := 0) rfl)) ((zp_set_ne (Or.inr (by decide))).trans (((zM_G hMξ (List.mem_of_getElem? (i := 0) rfl) 3).trans (zM_F hMξ (List.mem_of_getElem? (i := 1) rfl))))) ?_
            refine zp_const (pc := 50) hx hb (zd_X12_of (50, .iconst 1, 1, 0, []) (List.mem_of_getElem? (i := 30) rfl)) rfl rfl ?_
            refine zp_ialdT (j := 1) (v := (n1ξ : Int)) (pc := 51) hx hb hwξ (zd_X12_of (51, .iaload, 1, 0, []) (List.mem_of_getElem? (i := 31) rfl)) zl_T59 rfl (zl_kd 1) (zM_P hMξ (List.mem_of_getElem? (i := 2) rfl)) (by omega) (show 1 < 5580 by omega) ((zp_set_ne (Or.inl (zM_ne hMξ (List.mem_of_getElem? (i := 2) rfl) (List.mem_of_getElem? (i := 0) rfl) (by decide)))).trans ((((zM_G hMξ (List.mem_of_getElem? (i := 2) rfl) (2000 + 1)).trans (hVξ 3 (2000 + 1) (Or.inl (by decide)))).trans hn1ξ))) (fun _ => ?_)
            refine zp_icmp (pc := 52) (tgt := 89) hx hb (zd_X12_of (52, .if_icmp .ge 37, 3, 0, []) (List.mem_of_getElem? (i := 32) rfl)) rfl (fun (hc233ξ : (n1ξ : Int) ≤ (w9ξ : Int)) => ?_) (fun (hc233ξ : ¬ ((n1ξ : Int) ≤ (w9ξ : Int))) => ?_)
            · exfalso
              omega
            · refine zp_load (pc := 55) hx hb (zd_X12_of (55, .iload_n 3, 1, 0, []) (List.mem_of_getElem? (i := 33) rfl)) rfl (j := 1) rfl ?_
              refine zp_load (pc := 56) hx hb (zd_X12_of (56, .aload_n 0, 1, 0, []) (List.mem_of_getElem? (i := 34) rfl)) rfl (j := 2) rfl ?_
              refine zp_load (pc := 57) hx hb (zd_X12_of (57, .iload 4, 2, 0, []) (List.mem_of_getElem? (i := 35) rfl)) rfl (j := 0) rfl ?_
              refine zp_const (pc := 59) hx hb (zd_X12_of (59, .iconst 0, 1, 0, []) (List.mem_of_getElem? (i := 36) rfl)) rfl rfl ?_
              have hr235ξ := hRξ (5 * w9ξ + 39) (by omega)
              refine zp_call (pc := 60) (how := 0) (idx := 188) (mi := 196) (S := [(0, (zc_wl (fun w => V 3 (2000 + (5 * w + 39))) (fun w => V 3 (2000 + (w + 29))) (fun w => V 3 (2000 + (5 * w + 40))) p1ξ w9ξ))]) hx hb hEξ hwξ heffξ hrmξ (zX_ofw hWξ A (zp_set M 0 0 0) w9ξ 0) rfl (j := 7) rfl rfl (by decide +kernel) (zd_X12_of (60, .invokevirtual 188, 3, 0, []) (List.mem_of_getElem? (i := 37) rfl)) [(A 0 : Int), (w9ξ : Int), 0] rfl ⟨zp_o2 (zM_P hMξ (List.mem_of_getElem? (i := 0) rfl)), zp_o0 (by omega) (by omega) (by omega) (by omega), zp_o0 (by decide) (by decide) (by decide) (by decide), trivial⟩ (Nat.le_of_ble_eq_true rfl) ⟨(zM_set hMξ (List.mem_of_getElem? (i := 0) rfl) (by decide)), rfl, (show (w9ξ : Int) = ((w9ξ : Nat) : Int) by omega), rfl, (show -2147483648 ≤ (zp_set M 0 0 0) 3 (2000 + (5 * w9ξ + 39)) ∧ (zp_set M 0 0 0) 3 (2000 + (5 * w9ξ + 39)) ≤ 2147483647 by rw [((zp_set_ne (Or.inl (by decide))).trans ((hVξ 3 (2000 + (5 * w9ξ + 39)) (Or.inl (by decide)))))]; omega)⟩ (fun al halξ rnf234ξ Pf234 Gf234 hextf234ξ hfrf234ξ hokf234ξ hcsf234ξ hpsif234ξ => ?_)
              obtain rfl := List.mem_singleton.mp halξ
              have hrf234ξ := zp_int (hokf234ξ _ rfl).1
              obtain ⟨hPef234ξ, hGef234ξ, htf234ξ⟩ := hpsif234ξ
              rw [hPef234ξ, hGef234ξ]
              clear hextf234ξ hfrf234ξ hcsf234ξ hPef234ξ hGef234ξ
              have htf234ξ : rnf234ξ = (V 3 (2000 + (5 * w9ξ + 39))) := (Eq.trans htf234ξ) (((zp_set_ne (Or.inl (by decide))).trans ((hVξ 3 (2000 + (5 * w9ξ + 39)) (Or.inl (by decide))))))
              have htf234ξ := (Eq.symm htf234ξ)
              subst htf234ξ
              refine zp_load (pc := 63) hx hb (zd_X12_of (63, .iload_n 1, 1, 0, []) (List.mem_of_getElem? (i := 38) rfl)) rfl (j := 3) rfl ?_
              refine zp_icmp (pc := 64) (tgt := 80) hx hb (zd_X12_of (64, .if_icmp .ne 16, 3, 0, []) (List.mem_of_getElem? (i := 39) rfl)) rfl (fun (hc236ξ : ¬ (V 3 (2000 + (5 * w9ξ + 39))) = p1ξ) => ?_) (fun (hc236ξ : ¬ (¬ (V 3 (2000 + (5 * w9ξ + 39))) = p1ξ)) => ?_)
              · refine zp_const (pc := 80) hx hb (zd_X12_of (80, .iconst 0, 1, 0, []) (List.mem_of_getElem? (i := 46) rfl)) rfl rfl ?_
                refine zp_add (n := ((zc_wl (fun w => V 3 (2000 + (5 * w + 39))) (fun w => V 3 (2000 + (w + 29))) (fun w => V 3 (2000 + (5 * w + 40))) p1ξ w9ξ) + 0)) (pc := 81) hx hb (zd_X12_of (81, .iadd, 1, 0, []) (List.mem_of_getElem? (i := 47) rfl)) (by omega) (zp_r0 (by omega) (by omega)) ?_
                refine zp_store (L' := [(3, 0, ((zc_wl (fun w => V 3 (2000 + (5 * w + 39))) (fun w => V 3 (2000 + (w + 29))) (fun w => V 3 (2000 + (5 * w + 40))) p1ξ w9ξ) + 0)), (4, 0, (w9ξ : Int)), (0, 2, (A 0 : Int)), (1, 0, p1ξ), (2, 0, p2ξ)]) (pc := 82) hx hb hnLξ (zd_X12_of (82, .istore_n 3, 1, 0, []) (List.mem_of_getElem? (i := 48) rfl)) rfl rfl rfl ?_
                refine zp_iinc (L' := [(4, 0, ((w9ξ : Int) + 1)), (3, 0, ((zc_wl (fun w => V 3 (2000 + (5 * w + 39))) (fun w => V 3 (2000 + (w + 29))) (fun w => V 3 (2000 + (5 * w + 40))) p1ξ w9ξ) + 0)), (0, 2, (A 0 : Int)), (1, 0, p1ξ), (2, 0, p2ξ)]) (n := ((w9ξ : Int) + 1)) (pc := 83) hx hb hnLξ (zd_X12_of (83, .iinc 4 1, 3, 0, []) (List.mem_of_getElem? (i := 49) rfl)) (j := 1) rfl (by omega) (zp_r0 (by omega) (by omega)) rfl rfl ?_
                refine zp_goto (tgt := 44) (pc := 86) hx hb (zd_X12_of (86, .goto (-42), 3, 0, []) (List.mem_of_getElem? (i := 50) rfl)) rfl ?_
                have ha9ξ : ((zc_wl (fun w => V 3 (2000 + (5 * w + 39))) (fun w => V 3 (2000 + (w + 29))) (fun w => V 3 (2000 + (5 * w + 40))) p1ξ w9ξ) + 0) = (zc_wl (fun w => V 3 (2000 + (5 * w + 39))) (fun w => V 3 (2000 + (w + 29))) (fun w => V 3 (2000 + (5 * w + 40))) p1ξ (w9ξ + 1)) := by
                  rw [zc_wl]
                  by_cases c9ξ : V 3 (2000 + (5 * w9ξ + 39)) = p1ξ ∧ V 3 (2000 + (w9ξ + 29)) < V 3 (2000 + (5 * w9ξ + 40))
                  · skip
                    rw [if_pos c9ξ]
                    all_goals omega
                  · skip
                    rw [if_neg c9ξ]
                    all_goals omega
                rw [ha9ξ]
                refine zp_drop (L' := [(4, 0, ((w9ξ : Int) + 1)), (3, 0, (zc_wl (fun w => V 3 (2000 + (5 * w + 39))) (fun w => V 3 (2000 + (w + 29))) (fun w => V 3 (2000 + (5 * w + 40))) p1ξ (w9ξ + 1))), (0, 2, (A 0 : Int)), (1, 0, p1ξ), (2, 0, p2ξ)]) (by simp) ?_
                exact iho (w9ξ + 1) (by omega)
              · refine zp_load (pc := 67) hx hb (zd_X12_of (67, .aload_n 0, 1, 0, []) (List.mem_of_getElem? (i := 40) rfl)) rfl (j := 2) rfl ?_
                refine zp_load (pc := 68) hx hb (zd_X12_of (68, .iload 4, 2, 0, []) (List.mem_of_getElem? (i := 41) rfl)) rfl (j := 0) rfl ?_
                refine zp_call (pc := 70) (how := 0) (idx := 210) (mi := 197) (S := [(0, (zc_wl (fun w => V 3 (2000 + (5 * w + 39))) (fun w => V 3 (2000 + (w + 29))) (fun w => V 3 (2000 + (5 * w + 40))) p1ξ w9ξ))]) hx hb hEξ hwξ heffξ hrmξ (zX_iov hWξ A (zp_set M 0 0 0) w9ξ) rfl (j := 8) rfl rfl (by decide +kernel) (zd_X12_of (70, .invokevirtual 210, 3, 0, []) (List.mem_of_getElem? (i := 42) rfl)) [(A 0 : Int), (w9ξ : Int)] rfl ⟨zp_o2 (zM_P hMξ (List.mem_of_getElem? (i := 0) rfl)), zp_o0 (by omega) (by omega) (by omega) (by omega), trivial⟩ (Nat.le_of_ble_eq_true rfl) ⟨(zM_set hMξ (List.mem_of_getElem? (i := 0) rfl) (by decide)), rfl, (show ((w9ξ : Int) : Int) = ((w9ξ : Nat) : Int) by omega), by omega, (by rw [((zp_set_ne (Or.inl (by decide))).trans ((hVξ 3 (2000 + (w9ξ + 29)) (Or.inl (by decide)))))]; exact hRξ (w9ξ + 29) (by omega)), (by rw [((zp_set_ne (Or.inl (by decide))).trans ((hVξ 3 (2000 + (5 * w9ξ + 40)) (Or.inl (by decide)))))]; exact hRξ (5 * w9ξ + 40) (by omega))⟩ (fun al halξ rno237ξ Po237 Go237 hexto237ξ hfro237ξ hoko237ξ hcso237ξ hpsio237ξ => ?_)
                obtain rfl := List.mem_singleton.mp halξ
                have hro237ξ := zp_int (hoko237ξ _ rfl).1
                obtain ⟨hPeo237ξ, hGeo237ξ, hto237ξ⟩ := hpsio237ξ
                rw [hPeo237ξ, hGeo237ξ]
                clear hexto237ξ hfro237ξ hcso237ξ hPeo237ξ hGeo237ξ
                have hto237ξ : rno237ξ = 1 ↔ (V 3 (2000 + (w9ξ + 29))) = (V 3 (2000 + (5 * w9ξ + 40))) := by
                  have h9ξ : rno237ξ = 1 ↔ (zp_set M 0 0 0) 3 (2000 + (w9ξ + 29)) = (zp_set M 0 0 0) 3 (2000 + (5 * w9ξ + 40)) := hto237ξ
                  rw [((zp_set_ne (Or.inl (by decide))).trans ((hVξ 3 (2000 + (w9ξ + 29)) (Or.inl (by decide))))), ((zp_set_ne (Or.inl (by decide))).trans ((hVξ 3 (2000 + (5 * w9ξ + 40)) (Or.inl (by decide)))))] at h9ξ
                  exact h9ξ
                refine zp_if (pc := 73) (tgt := 80) hx hb (zd_X12_of (73, .ifCond .ne 7, 3, 0, []) (List.mem_of_getElem? (i := 43) rfl)) rfl (fun (hc238ξ : ¬ rno237ξ = 0) => ?_) (fun (hc238ξ : ¬ (¬ rno237ξ = 0)) => ?_)
                · refine zp_const (pc := 80) hx hb (zd_X12_of (80, .iconst 0, 1, 0, []) (List.mem_of_getElem? (i := 46) rfl)) rfl rfl ?_
                  refine zp_add (n := ((zc_wl (fun w => V 3 (2000 + (5 * w + 39))) (fun w => V 3 (2000 + (w + 29))) (fun w => V 3 (2000 + (5 * w + 40))) p1ξ w9ξ) + 0)) (pc := 81) hx hb (zd_X12_of (81, .iadd, 1, 0, []) (List.mem_of_getElem? (i := 47) rfl)) (by omega) (zp_r0 (by omega) (by omega)) ?_
                  refine zp_store (L' := [(3, 0, ((zc_wl (fun w => V 3 (2000 + (5 * w + 39))) (fun w => V 3 (2000 + (w + 29))) (fun w => V 3 (2000 + (5 * w + 40))) p1ξ w9ξ) + 0)), (4, 0, (w9ξ : Int)), (0, 2, (A 0 : Int)), (1, 0, p1ξ), (2, 0, p2ξ)]) (pc := 82) hx hb hnLξ (zd_X12_of (82, .istore_n 3, 1, 0, []) (List.mem_of_getElem? (i := 48) rfl)) rfl rfl rfl ?_
                  refine zp_iinc (L' := [(4, 0, ((w9ξ : Int) + 1)), (3, 0, ((zc_wl (fun w => V 3 (2000 + (5 * w + 39))) (fun w => V 3 (2000 + (w + 29))) (fun w => V 3 (2000 + (5 * w + 40))) p1ξ w9ξ) + 0)), (0, 2, (A 0 : Int)), (1, 0, p1ξ), (2, 0, p2ξ)]) (n := ((w9ξ : Int) + 1)) (pc := 83) hx hb hnLξ (zd_X12_of (83, .iinc 4 1, 3, 0, []) (List.mem_of_getElem? (i := 49) rfl)) (j := 1) rfl (by omega) (zp_r0 (by omega) (by omega)) rfl rfl ?_
                  refine zp_goto (tgt := 44) (pc := 86) hx hb (zd_X12_of (86, .goto (-42), 3, 0, []) (List.mem_of_getElem? (i := 50) rfl)) rfl ?_
                  have ha9ξ : ((zc_wl (fun w => V 3 (2000 + (5 * w + 39))) (fun w => V 3 (2000 + (w + 29))) (fun w => V 3 (2000 + (5 * w + 40))) p1ξ w9ξ) + 0) = (zc_wl (fun w => V 3 (2000 + (5 * w + 39))) (fun w => V 3 (2000 + (w + 29))) (fun w => V 3 (2000 + (5 * w + 40))) p1ξ (w9ξ + 1)) := by
                    rw [zc_wl]
                    by_cases c9ξ : V 3 (2000 + (5 * w9ξ + 39)) = p1ξ ∧ V 3 (2000 + (w9ξ + 29)) < V 3 (2000 + (5 * w9ξ + 40))
                    · skip
                      have c8 : ¬ rno237ξ = 1 := fun z => by have := (Iff.mp hto237ξ) z; omega
                      rw [if_pos c9ξ]
                      all_goals omega
                    · skip
                      have c8 : V 3 (2000 + (w9ξ + 29)) = V 3 (2000 + (5 * w9ξ + 40)) → rno237ξ = 1 := fun z => (Iff.mpr hto237ξ) z
                      by_cases c7 : V 3 (2000 + (w9ξ + 29)) = V 3 (2000 + (5 * w9ξ + 40))
                      · have c6 := c8 c7
                        rw [if_neg c9ξ]
                        all_goals omega
                      · rw [if_neg c9ξ]
                        all_goals omega
                  rw [ha9ξ]
                  refine zp_drop (L' := [(4, 0, ((w9ξ : Int) + 1)), (3, 0, (zc_wl (fun w => V 3 (2000 + (5 * w + 39))) (fun w => V 3 (2000 + (w + 29))) (fun w => V 3 (2000 + (5 * w + 40))) p1ξ (w9ξ + 1))), (0, 2, (A 0 : Int)), (1, 0, p1ξ), (2, 0, p2ξ)]) (by simp) ?_
                  exact iho (w9ξ + 1) (by omega)
                · refine zp_const (pc := 76) hx hb (zd_X12_of (76, .iconst 1, 1, 0, []) (List.mem_of_getElem? (i := 44) rfl)) rfl rfl ?_
                  refine zp_goto (tgt := 81) (pc := 77) hx hb (zd_X12_of (77, .goto 4, 3, 0, []) (List.mem_of_getElem? (i := 45) rfl)) rfl ?_
                  refine zp_add (n := ((zc_wl (fun w => V 3 (2000 + (5 * w + 39))) (fun w => V 3 (2000 + (w + 29))) (fun w => V 3 (2000 + (5 * w + 40))) p1ξ w9ξ) + 1)) (pc := 81) hx hb (zd_X12_of (81, .iadd, 1, 0, []) (List.mem_of_getElem? (i := 47) rfl)) (by omega) (zp_r0 (by omega) (by omega)) ?_
                  refine zp_store (L' := [(3, 0, ((zc_wl (fun w => V 3 (2000 + (5 * w + 39))) (fun w => V 3 (2000 + (w + 29))) (fun w => V 3 (2000 + (5 * w + 40))) p1ξ w9ξ) + 1)), (4, 0, (w9ξ : Int)), (0, 2, (A 0 : Int)), (1, 0, p1ξ), (2, 0, p2ξ)]) (pc := 82) hx hb hnLξ (zd_X12_of (82, .istore_n 3, 1, 0, []) (List.mem_of_getElem? (i := 48) rfl)) rfl rfl rfl ?_
                  refine zp_iinc (L' := [(4, 0, ((w9ξ : Int) + 1)), (3, 0, ((zc_wl (fun w => V 3 (2000 + (5 * w + 39))) (fun w => V 3 (2000 + (w + 29))) (fun w => V 3 (2000 + (5 * w + 40))) p1ξ w9ξ) + 1)), (0, 2, (A 0 : Int)), (1, 0, p1ξ), (2, 0, p2ξ)]) (n := ((w9ξ : Int) + 1)) (pc := 83) hx hb hnLξ (zd_X12_of (83, .iinc 4 1, 3, 0, []) (List.mem_of_getElem? (i := 49) rfl)) (j := 1) rfl (by omega) (zp_r0 (by omega) (by omega)) rfl rfl ?_
                  refine zp_goto (tgt := 44) (pc := 86) hx hb (zd_X12_of (86, .goto (-42), 3, 0, []) (List.mem_of_getElem? (i := 50) rfl)) rfl ?_
                  have ha9ξ : ((zc_wl (fun w => V 3 (2000 + (5 * w + 39))) (fun w => V 3 (2000 + (w + 29))) (fun w => V 3 (2000 + (5 * w + 40))) p1ξ w9ξ) + 1) = (zc_wl (fun w => V 3 (2000 + (5 * w + 39))) (fun w => V 3 (2000 + (w + 29))) (fun w => V 3 (2000 + (5 * w + 40))) p1ξ (w9ξ + 1)) := by
                    rw [zc_wl]
                    by_cases c9ξ : V 3 (2000 + (5 * w9ξ + 39)) = p1ξ ∧ V 3 (2000 + (w9ξ + 29)) < V 3 (2000 + (5 * w9ξ + 40))
                    · skip
                      have c8 : ¬ rno237ξ = 1 := fun z => by have := (Iff.mp hto237ξ) z; omega
                      rw [if_pos c9ξ]
                      all_goals omega
                    · skip
                      have c8 : V 3 (2000 + (w9ξ + 29)) = V 3 (2000 + (5 * w9ξ + 40)) → rno237ξ = 1 := fun z => (Iff.mpr hto237ξ) z
                      by_cases c7 : V 3 (2000 + (w9ξ + 29)) = V 3 (2000 + (5 * w9ξ + 40))
                      · have c6 := c8 c7
                        rw [if_neg c9ξ]
                        all_goals omega
                      · rw [if_neg c9ξ]
                        all_goals omega
                  rw [ha9ξ]
                  refine zp_drop (L' := [(4, 0, ((w9ξ : Int) + 1)), (3, 0, (zc_wl (fun w => V 3 (2000 + (5 * w + 39))) (fun w => V 3 (2000 + (w + 29))) (fun w => V 3 (2000 + (5 * w + 40))) p1ξ (w9ξ + 1))), (0, 2, (A 0 : Int)), (1, 0, p1ξ), (2, 0, p2ξ)]) (by simp) ?_
                  exact iho (w9ξ + 1) (by omega)
        refine zp_drop (L' := [(4, 0, 0), (3, 0, 0), (0, 2, (A 0 : Int)), (1, 0, p1ξ), (2, 0, p2ξ)]) (by simp) ?_
        exact loopo n1ξ 0 (by omega)
      · by_cases hc239ξ : p2ξ = 0
        · rw [hc239ξ]
          refine zp_load (pc := 32) hx hb (zd_X12_of (32, .aload_n 0, 1, 0, []) (List.mem_of_getElem? (i := 18) rfl)) rfl (j := 0) rfl ?_
          refine zp_load (pc := 33) hx hb (zd_X12_of (33, .iload_n 1, 1, 0, []) (List.mem_of_getElem? (i := 19) rfl)) rfl (j := 1) rfl ?_
          refine zp_load (pc := 34) hx hb (zd_X12_of (34, .iload_n 2, 1, 0, []) (List.mem_of_getElem? (i := 20) rfl)) rfl (j := 2) rfl ?_
          have hr241ξ := hRξ (3 * p1ξ.toNat + 11) (by omega)
          refine zp_call (pc := 35) (how := 0) (idx := 207) (mi := 195) (S := []) hx hb hEξ hwξ heffξ hrmξ (zX_ofp hWξ A (zp_set M 0 0 0) p1ξ.toNat 0) rfl (j := 6) rfl rfl (by decide +kernel) (zd_X12_of (35, .invokevirtual 207, 3, 0, []) (List.mem_of_getElem? (i := 21) rfl)) [(A 0 : Int), p1ξ, 0] rfl ⟨zp_o2 (zM_P hMξ (List.mem_of_getElem? (i := 0) rfl)), zp_o0 (by omega) (by omega) (by omega) (by omega), zp_o0 (by decide) (by decide) (by decide) (by decide), trivial⟩ (Nat.le_of_ble_eq_true rfl) ⟨(zM_set hMξ (List.mem_of_getElem? (i := 0) rfl) (by decide)), rfl, (show p1ξ = ((p1ξ.toNat : Nat) : Int) by omega), rfl, (show -2147483648 ≤ (zp_set M 0 0 0) 3 (2000 + (3 * p1ξ.toNat + 11)) ∧ (zp_set M 0 0 0) 3 (2000 + (3 * p1ξ.toNat + 11)) ≤ 2147483647 by rw [((zp_set_ne (Or.inl (by decide))).trans ((hVξ 3 (2000 + (3 * p1ξ.toNat + 11)) (Or.inl (by decide)))))]; omega)⟩ (fun al halξ rnf240ξ Pf240 Gf240 hextf240ξ hfrf240ξ hokf240ξ hcsf240ξ hpsif240ξ => ?_)
          obtain rfl := List.mem_singleton.mp halξ
          have hrf240ξ := zp_int (hokf240ξ _ rfl).1
          obtain ⟨hPef240ξ, hGef240ξ, htf240ξ⟩ := hpsif240ξ
          rw [hPef240ξ, hGef240ξ]
          clear hextf240ξ hfrf240ξ hcsf240ξ hPef240ξ hGef240ξ
          have htf240ξ : rnf240ξ = (V 3 (2000 + (3 * p1ξ.toNat + 11))) := (Eq.trans htf240ξ) (((zp_set_ne (Or.inl (by decide))).trans ((hVξ 3 (2000 + (3 * p1ξ.toNat + 11)) (Or.inl (by decide))))))
          have htf240ξ := (Eq.symm htf240ξ)
          subst htf240ξ
          refine zp_iret (pc := 38) (n := (V 3 (2000 + (3 * p1ξ.toNat + 11)))) hx hb hEξ hQξ hU5ξ rfl (by decide) (zd_X12_of (38, .ireturn, 1, 0, []) (List.mem_of_getElem? (i := 22) rfl)) (j := 0) rfl (zp_o0 (by omega) (by omega) (by omega) (by omega)) ?_
          rw [hpsξ]
          refine ⟨rfl, ?_⟩
          have hffξ : zf_ofr V npξ n1ξ p1ξ p2ξ = ((V 3 (2000 + (3 * p1ξ.toNat + 11))), (zp_set V 0 0 0)) := by
            unfold zf_ofr
            rw [if_pos ((Iff.mp hti221ξ) (by omega)), if_pos ((Iff.mp htn225ξ) (by omega)), if_neg hc229ξ, if_pos hc239ξ]
          show zMVr A (zf_ofr V npξ n1ξ p1ξ p2ξ).2 u.1 (zp_set (zp_n u.2.1) (A 0) 0 0) ∧ (V 3 (2000 + (3 * p1ξ.toNat + 11))) = (zf_ofr V npξ n1ξ p1ξ p2ξ).1
          rw [hffξ]
          exact ⟨⟨(zp_set M 0 0 0), (zM_set hMξ (List.mem_of_getElem? (i := 0) rfl) (by decide)), (zV_set hVξ), (zSb_set (by decide) hSbξ)⟩, rfl⟩
        by_cases hc242ξ : p2ξ = 1
        · rw [hc242ξ]
          refine zp_load (pc := 32) hx hb (zd_X12_of (32, .aload_n 0, 1, 0, []) (List.mem_of_getElem? (i := 18) rfl)) rfl (j := 0) rfl ?_
          refine zp_load (pc := 33) hx hb (zd_X12_of (33, .iload_n 1, 1, 0, []) (List.mem_of_getElem? (i := 19) rfl)) rfl (j := 1) rfl ?_
          refine zp_load (pc := 34) hx hb (zd_X12_of (34, .iload_n 2, 1, 0, []) (List.mem_of_getElem? (i := 20) rfl)) rfl (j := 2) rfl ?_
          have hr244ξ := hRξ (3 * p1ξ.toNat + 12) (by omega)
          refine zp_call (pc := 35) (how := 0) (idx := 207) (mi := 195) (S := []) hx hb hEξ hwξ heffξ hrmξ (zX_ofp hWξ A (zp_set M 0 0 0) p1ξ.toNat 1) rfl (j := 6) rfl rfl (by decide +kernel) (zd_X12_of (35, .invokevirtual 207, 3, 0, []) (List.mem_of_getElem? (i := 21) rfl)) [(A 0 : Int), p1ξ, 1] rfl ⟨zp_o2 (zM_P hMξ (List.mem_of_getElem? (i := 0) rfl)), zp_o0 (by omega) (by omega) (by omega) (by omega), zp_o0 (by decide) (by decide) (by decide) (by decide), trivial⟩ (Nat.le_of_ble_eq_true rfl) ⟨(zM_set hMξ (List.mem_of_getElem? (i := 0) rfl) (by decide)), rfl, (show p1ξ = ((p1ξ.toNat : Nat) : Int) by omega), rfl, (show -2147483648 ≤ (zp_set M 0 0 0) 3 (2000 + (3 * p1ξ.toNat + 12)) ∧ (zp_set M 0 0 0) 3 (2000 + (3 * p1ξ.toNat + 12)) ≤ 2147483647 by rw [((zp_set_ne (Or.inl (by decide))).trans ((hVξ 3 (2000 + (3 * p1ξ.toNat + 12)) (Or.inl (by decide)))))]; omega)⟩ (fun al halξ rnf243ξ Pf243 Gf243 hextf243ξ hfrf243ξ hokf243ξ hcsf243ξ hpsif243ξ => ?_)
          obtain rfl := List.mem_singleton.mp halξ
          have hrf243ξ := zp_int (hokf243ξ _ rfl).1
          obtain ⟨hPef243ξ, hGef243ξ, htf243ξ⟩ := hpsif243ξ
          rw [hPef243ξ, hGef243ξ]
          clear hextf243ξ hfrf243ξ hcsf243ξ hPef243ξ hGef243ξ
          have htf243ξ : rnf243ξ = (V 3 (2000 + (3 * p1ξ.toNat + 12))) := (Eq.trans htf243ξ) (((zp_set_ne (Or.inl (by decide))).trans ((hVξ 3 (2000 + (3 * p1ξ.toNat + 12)) (Or.inl (by decide))))))
          have htf243ξ := (Eq.symm htf243ξ)
          subst htf243ξ
          refine zp_iret (pc := 38) (n := (V 3 (2000 + (3 * p1ξ.toNat + 12)))) hx hb hEξ hQξ hU5ξ rfl (by decide) (zd_X12_of (38, .ireturn, 1, 0, []) (List.mem_of_getElem? (i := 22) rfl)) (j := 0) rfl (zp_o0 (by omega) (by omega) (by omega) (by omega)) ?_
          rw [hpsξ]
          refine ⟨rfl, ?_⟩
          have hffξ : zf_ofr V npξ n1ξ p1ξ p2ξ = ((V 3 (2000 + (3 * p1ξ.toNat + 12))), (zp_set V 0 0 0)) := by
            unfold zf_ofr
            rw [if_pos ((Iff.mp hti221ξ) (by omega)), if_pos ((Iff.mp htn225ξ) (by omega)), if_neg hc229ξ, if_neg hc239ξ, if_pos hc242ξ]
          show zMVr A (zf_ofr V npξ n1ξ p1ξ p2ξ).2 u.1 (zp_set (zp_n u.2.1) (A 0) 0 0) ∧ (V 3 (2000 + (3 * p1ξ.toNat + 12))) = (zf_ofr V npξ n1ξ p1ξ p2ξ).1
          rw [hffξ]
          exact ⟨⟨(zp_set M 0 0 0), (zM_set hMξ (List.mem_of_getElem? (i := 0) rfl) (by decide)), (zV_set hVξ), (zSb_set (by decide) hSbξ)⟩, rfl⟩
        have hc245ξ : p2ξ = 2 := by omega
        rw [hc245ξ]
        refine zp_load (pc := 32) hx hb (zd_X12_of (32, .aload_n 0, 1, 0, []) (List.mem_of_getElem? (i := 18) rfl)) rfl (j := 0) rfl ?_
        refine zp_load (pc := 33) hx hb (zd_X12_of (33, .iload_n 1, 1, 0, []) (List.mem_of_getElem? (i := 19) rfl)) rfl (j := 1) rfl ?_
        refine zp_load (pc := 34) hx hb (zd_X12_of (34, .iload_n 2, 1, 0, []) (List.mem_of_getElem? (i := 20) rfl)) rfl (j := 2) rfl ?_
        have hr247ξ := hRξ (3 * p1ξ.toNat + 13) (by omega)
        refine zp_call (pc := 35) (how := 0) (idx := 207) (mi := 195) (S := []) hx hb hEξ hwξ heffξ hrmξ (zX_ofp hWξ A (zp_set M 0 0 0) p1ξ.toNat 2) rfl (j := 6) rfl rfl (by decide +kernel) (zd_X12_of (35, .invokevirtual 207, 3, 0, []) (List.mem_of_getElem? (i := 21) rfl)) [(A 0 : Int), p1ξ, 2] rfl ⟨zp_o2 (zM_P hMξ (List.mem_of_getElem? (i := 0) rfl)), zp_o0 (by omega) (by omega) (by omega) (by omega), zp_o0 (by decide) (by decide) (by decide) (by decide), trivial⟩ (Nat.le_of_ble_eq_true rfl) ⟨(zM_set hMξ (List.mem_of_getElem? (i := 0) rfl) (by decide)), rfl, (show p1ξ = ((p1ξ.toNat : Nat) : Int) by omega), rfl, (show -2147483648 ≤ (zp_set M 0 0 0) 3 (2000 + (3 * p1ξ.toNat + 13)) ∧ (zp_set M 0 0 0) 3 (2000 + (3 * p1ξ.toNat + 13)) ≤ 2147483647 by rw [((zp_set_ne (Or.inl (by decide))).trans ((hVξ 3 (2000 + (3 * p1ξ.toNat + 13)) (Or.inl (by decide)))))]; omega)⟩ (fun al halξ rnf246ξ Pf246 Gf246 hextf246ξ hfrf246ξ hokf246ξ hcsf246ξ hpsif246ξ => ?_)
        obtain rfl := List.mem_singleton.mp halξ
        have hrf246ξ := zp_int (hokf246ξ _ rfl).1
        obtain ⟨hPef246ξ, hGef246ξ, htf246ξ⟩ := hpsif246ξ
        rw [hPef246ξ, hGef246ξ]
        clear hextf246ξ hfrf246ξ hcsf246ξ hPef246ξ hGef246ξ
        have htf246ξ : rnf246ξ = (V 3 (2000 + (3 * p1ξ.toNat + 13))) := (Eq.trans htf246ξ) (((zp_set_ne (Or.inl (by decide))).trans ((hVξ 3 (2000 + (3 * p1ξ.toNat + 13)) (Or.inl (by decide))))))
        have htf246ξ := (Eq.symm htf246ξ)
        subst htf246ξ
        refine zp_iret (pc := 38) (n := (V 3 (2000 + (3 * p1ξ.toNat + 13)))) hx hb hEξ hQξ hU5ξ rfl (by decide) (zd_X12_of (38, .ireturn, 1, 0, []) (List.mem_of_getElem? (i := 22) rfl)) (j := 0) rfl (zp_o0 (by omega) (by omega) (by omega) (by omega)) ?_
        rw [hpsξ]
        refine ⟨rfl, ?_⟩
        have hffξ : zf_ofr V npξ n1ξ p1ξ p2ξ = ((V 3 (2000 + (3 * p1ξ.toNat + 13))), (zp_set V 0 0 0)) := by
          unfold zf_ofr
          rw [if_pos ((Iff.mp hti221ξ) (by omega)), if_pos ((Iff.mp htn225ξ) (by omega)), if_neg hc229ξ, if_neg hc239ξ, if_neg hc242ξ]
        show zMVr A (zf_ofr V npξ n1ξ p1ξ p2ξ).2 u.1 (zp_set (zp_n u.2.1) (A 0) 0 0) ∧ (V 3 (2000 + (3 * p1ξ.toNat + 13))) = (zf_ofr V npξ n1ξ p1ξ p2ξ).1
        rw [hffξ]
        exact ⟨⟨(zp_set M 0 0 0), (zM_set hMξ (List.mem_of_getElem? (i := 0) rfl) (by decide)), (zV_set hVξ), (zSb_set (by decide) hSbξ)⟩, rfl⟩
    · have hbf228ξ : ¬ (0 ≤ p2ξ ∧ p2ξ ≤ 3) := fun h9ξ => absurd ((Iff.mpr htn225ξ) h9ξ) (by omega)
      refine zp_const (pc := 25) hx hb (zd_X12_of (25, .iconst (-1), 1, 0, []) (List.mem_of_getElem? (i := 13) rfl)) rfl rfl ?_
      refine zp_iret (pc := 26) (n := (-1)) hx hb hEξ hQξ hU5ξ rfl (by decide) (zd_X12_of (26, .ireturn, 1, 0, []) (List.mem_of_getElem? (i := 14) rfl)) (j := 0) rfl (zp_o0 (by omega) (by omega) (by omega) (by omega)) ?_
      rw [hpsξ]
      refine ⟨rfl, ?_⟩
      have hffξ : zf_ofr V npξ n1ξ p1ξ p2ξ = ((-1), (zp_set V 0 0 0)) := by
        unfold zf_ofr
        rw [if_pos ((Iff.mp hti221ξ) (by omega)), if_neg (fun h9ξ => absurd ((Iff.mpr htn225ξ) h9ξ) (by omega))]
      show zMVr A (zf_ofr V npξ n1ξ p1ξ p2ξ).2 u.1 (zp_set (zp_n u.2.1) (A 0) 0 0) ∧ (-1) = (zf_ofr V npξ n1ξ p1ξ p2ξ).1
      rw [hffξ]
      exact ⟨⟨(zp_set M 0 0 0), (zM_set hMξ (List.mem_of_getElem? (i := 0) rfl) (by decide)), (zV_set hVξ), (zSb_set (by decide) hSbξ)⟩, rfl⟩