/-! part h7ξ: the reference over logical cells: a day is run; the doings as calls -/
noncomputable def zRw (V : Nat → Nat → Int) : Nat → Int := fun j => V 3 (2000 + j)
/-- the day by the turns that stand -/
noncomputable def zd_X (V : Nat → Nat → Int) (n npξ : Nat) (L : List yK) (t : Int) : (Nat → Int) × (Nat → Int) := zd_hr (zRw V) n npξ (zd_sp (zRw V) L t) (zd_ru (zRw V) L t) t 24
/-- what is done of works is put down -/
noncomputable def zc_dn (V : Nat → Nat → Int) (X : (Nat → Int) × (Nat → Int)) : Nat → Nat → Nat → Int
  | 0 => V
  | w + 1 => zp_set (zc_dn V X w) 3 (2000 + (w + 29)) (X.1 w)
/-- howξ many ended -/
noncomputable def zc_ct (X : (Nat → Int) × (Nat → Int)) : Nat → Int
  | 0 => 0
  | w + 1 => zc_ct X w + (if X.2 w = -1 then 0 else 1)
/-- people's evening -/
noncomputable def zc_pl (V : Nat → Nat → Int) : Nat → Nat → Nat → Int
  | 0 => V
  | p + 1 => zp_set (zp_set (zc_pl V p) 3 (2000 + (3 * p + 11)) (V 3 (2000 + (3 * p + 11)) - (if 0 < V 3 (2000 + (3 * p + 11)) then 1 else 0))) 3 (2000 + (3 * p + 13)) (V 3 (2000 + (3 * p + 13)) - (if 0 < V 3 (2000 + (3 * p + 13)) then 1 else 0))
noncomputable def zf_rud (V : Nat → Nat → Int) (n npξ : Nat) (L : List yK) : Int × (Nat → Nat → Int) :=
  (zc_ct (zd_X V n npξ L (V 3 (2000 + 10))) n, zp_set (zp_set (zc_pl (zc_dn V (zd_X V n npξ L (V 3 (2000 + 10))) n) npξ) 3 (2000 + 10) (-1)) 3 (2000 + 5) (V 3 (2000 + 5) + 1))
theorem zc_ctb {X : (Nat → Int) × (Nat → Int)} : ∀ {w : Nat}, 0 ≤ zc_ct X w ∧ zc_ct X w ≤ (w : Int)
  | 0 => ⟨Int.le_refl _, Int.le_refl _⟩
  | w + 1 => by
    have := zc_ctb (X := X) (w := w)
    unfold zc_ct
    split <;> omega
theorem zc_dn_o {V : Nat → Nat → Int} {X : (Nat → Int) × (Nat → Int)} {o k : Nat} (h : o ≠ 3) : ∀ {w : Nat}, zc_dn V X w o k = V o k
  | 0 => rfl
  | w + 1 => by
    rw [zc_dn, zp_set_ne (Or.inl h)]
    exact zc_dn_o h
theorem zc_dn_n {V : Nat → Nat → Int} {X : (Nat → Int) × (Nat → Int)} {k : Nat} : ∀ {w : Nat}, (k < 2029 ∨ 2029 + w ≤ k) → zc_dn V X w 3 k = V 3 k
  | 0, _ => rfl
  | w + 1, h => by
    rw [zc_dn, zp_set_ne (Or.inr (by omega))]
    exact zc_dn_n (by omega)
theorem zc_pl_o {V : Nat → Nat → Int} {o k : Nat} (h : o ≠ 3) : ∀ {p : Nat}, zc_pl V p o k = V o k
  | 0 => rfl
  | p + 1 => by
    rw [zc_pl, zp_set_ne (Or.inl h), zp_set_ne (Or.inl h)]
    exact zc_pl_o h
theorem zc_pl_n {V : Nat → Nat → Int} {k : Nat} : ∀ {p : Nat}, (k < 2011 ∨ 2011 + 3 * p ≤ k) → zc_pl V p 3 k = V 3 k
  | 0, _ => rfl
  | p + 1, h => by
    rw [zc_pl, zp_set_ne (Or.inr (by omega)), zp_set_ne (Or.inr (by omega))]
    exact zc_pl_n (by omega)
noncomputable def zK_rud : zk_K := (zt_mn 284, prog_14_method_103_code, 4, (Option.some Jvm.ClassFile.FieldType.int), 1, 12, [(2, 13, 0, 0)], [(some (0, 0, (-2147483648), 2147483647), [])], zUE, (6, 340, 0, 0))
noncomputable def zφ_rud (A : Nat → Nat) (V : Nat → Nat → Int) (n1ξ npξ : Nat) (Lwξ : List yK) : (Nat → Option Nat) → (Nat → Nat → Int) → List Int → Prop := fun P G ps => zMVr A V P G ∧ ps.getD 0 0 = (A 0 : Int) ∧ zLV V Lwξ ∧ zd_ok (zRw V) n1ξ npξ ∧ V 0 47 = -1 ∧ (0 ≤ V 3 (2000 + 10) ∧ V 3 (2000 + 10) ≤ 12) ∧ (0 ≤ V 3 (2000 + 5) ∧ V 3 (2000 + 5) ≤ 100000) ∧ (∀ p, p < npξ → 0 ≤ V 3 (2000 + (3 * p + 11)) ∧ V 3 (2000 + (3 * p + 11)) ≤ 9)
noncomputable def zψ_rud (A : Nat → Nat) (V : Nat → Nat → Int) (n1ξ npξ : Nat) (Lwξ : List yK) : (Nat → Option Nat) → (Nat → Nat → Int) → List Int → (Nat → Option Nat) → (Nat → Nat → Int) → Int → Prop := fun P G ps P' G' rn => P' = P ∧ zMVr A (zf_rud V n1ξ npξ Lwξ).2 P' G' ∧ rn = (zf_rud V n1ξ npξ Lwξ).1
set_option maxHeartbeats 4000000 in
theorem zX_rud {l : Launch} {w : zk_W} (hWξ : zh_W w) (A : Nat → Nat) (V : Nat → Nat → Int) (n1ξ npξ : Nat) (Lwξ : List yK) : zk_metX l w zt_dv zt_TB zK_rud (zp_A (zφ_rud A V n1ξ npξ Lwξ)) (zp_B (zψ_rud A V n1ξ npξ Lwξ)) ∧ zk_cok w zt_TB zK_rud := by
  refine zp_methX (cn := "WoundTownModel") zp_lkall hWξ (pl := 1990) rfl (by decide +kernel) (fun p e R s m args below meth c Q u hx hb hEξ hQξ hU5ξ heffξ hnLξ hokξ hφ => ?_)
  have hwξ := hWξ.1
  obtain ⟨p0ξ, hpsξ, tk0⟩ := zp_ps1 hokξ
  have hrmξ : zk_Kr (zk_ev (zt_types, zp_lk, zt_dv, [], [], zp_lc, zK_rud)) = zk_Kr zK_rud := rfl
  rw [hpsξ] at hφ ⊢
  have hφ : zMVr A V u.1 (zp_n u.2.1) ∧ p0ξ = (A 0 : Int) ∧ zLV V Lwξ ∧ zd_ok (zRw V) n1ξ npξ ∧ V 0 47 = -1 ∧ (0 ≤ V 3 (2000 + 10) ∧ V 3 (2000 + 10) ≤ 12) ∧ (0 ≤ V 3 (2000 + 5) ∧ V 3 (2000 + 5) ≤ 100000) ∧ (∀ p, p < npξ → 0 ≤ V 3 (2000 + (3 * p + 11)) ∧ V 3 (2000 + (3 * p + 11)) ≤ 9) := hφ
  obtain ⟨⟨M, hMξ, hVξ, hSbξ⟩, rfl, hLVξ, hDξ, h47ξ, ⟨ht0ξ, ht12ξ⟩, ⟨hd0ξ, hd9ξ⟩, hOilξ⟩ := hφ
  show zp_J p l e R s m args below meth c Q w u [] 0 [(0, 2, (A 0 : Int))] [] u.1 (zp_n u.2.1)
  have hDkξ := hDξ
  obtain ⟨hn10ξ, hnp6ξ, hn1ξ, hnpξ, hDwξ, hDpξ⟩ := hDξ
  obtain ⟨X, hXξ⟩ : ∃ X, X = zd_X V n1ξ npξ Lwξ (V 3 (2000 + 10)) := ⟨_, rfl⟩
  have hXbξ : ∀ w, w < n1ξ → 0 ≤ X.1 w ∧ X.1 w ≤ 600 := fun w hwξ => by rw [hXξ]; exact zd_hrb hDkξ hwξ
  have loop2 : ∀ (r9ξ p9ξ : Nat) (M : Nat → Nat → Int) (G : Nat → Nat → Int), r9ξ + p9ξ = npξ → zM A zYr zFr M u.1 G → (∀ o k, zNs o k → M o k = (zc_pl (zc_dn V X n1ξ) p9ξ) o k) → zSb M → zp_J p l e R s m args below meth c Q w u [] 66 [(2, 0, (p9ξ : Int)), (1, 0, (zc_ct X n1ξ)), (0, 2, (A 0 : Int))] [] u.1 G := by
    intro r9ξ
    induction r9ξ with
    | zero =>
      intro p9ξ M G hrξ hMξ hVξ hSbξ
      obtain rfl : p9ξ = npξ := by omega
      have hcbξ := zc_ctb (X := X) (w := n1ξ)
      refine zp_load (pc := 66) hx hb (zd_X12_runDay (66, .iload_n 2, 1, 0, []) (List.mem_of_getElem? (i := 42) rfl)) rfl (j := 0) rfl ?_
      refine zp_load (pc := 67) hx hb (zd_X12_runDay (67, .aload_n 0, 1, 0, []) (List.mem_of_getElem? (i := 43) rfl)) rfl (j := 2) rfl ?_
      refine zp_getf (n := (A 3 : Int)) (pc := 68) hx hb hEξ hwξ (zd_X12_runDay (68, .getfield 13, 3, 0, []) (List.mem_of_getElem? (i := 44) rfl)) (j := 21) rfl rfl rfl (zM_P hMξ (List.mem_of_getElem? (i := 0) rfl)) ((zM_G hMξ (List.mem_of_getElem? (i := 0) rfl) 3).trans (zM_F hMξ (List.mem_of_getElem? (i := 1) rfl))) ?_
      refine zp_const (pc := 71) hx hb (zd_X12_runDay (71, .iconst 0, 1, 0, []) (List.mem_of_getElem? (i := 45) rfl)) rfl rfl ?_
      refine zp_ialdT (j := 0) (v := (p9ξ : Int)) (pc := 72) hx hb hwξ (zd_X12_runDay (72, .iaload, 1, 0, []) (List.mem_of_getElem? (i := 46) rfl)) zl_T59 rfl (zl_kd 0) (zM_P hMξ (List.mem_of_getElem? (i := 2) rfl)) (by omega) (show 0 < 5580 by omega) (((zM_G hMξ (List.mem_of_getElem? (i := 2) rfl) (2000 + 0)).trans (hVξ 3 (2000 + 0) (Or.inl (by decide)))).trans ((zc_pl_n (by omega)).trans ((zc_dn_n (by omega)).trans hnpξ))) (fun _ => ?_)
      refine zp_icmp (pc := 73) (tgt := 143) hx hb (zd_X12_runDay (73, .if_icmp .ge 70, 3, 0, []) (List.mem_of_getElem? (i := 47) rfl)) rfl (fun (hc333ξ : (p9ξ : Int) ≤ (p9ξ : Int)) => ?_) (fun (hc333ξ : ¬ ((p9ξ : Int) ≤ (p9ξ : Int))) => ?_)
      · refine zp_load (pc := 143) hx hb (zd_X12_runDay (143, .aload_n 0, 1, 0, []) (List.mem_of_getElem? (i := 94) rfl)) rfl (j := 2) rfl ?_
        refine zp_getf (n := (A 3 : Int)) (pc := 144) hx hb hEξ hwξ (zd_X12_runDay (144, .getfield 13, 3, 0, []) (List.mem_of_getElem? (i := 95) rfl)) (j := 21) rfl rfl rfl (zM_P hMξ (List.mem_of_getElem? (i := 0) rfl)) ((zM_G hMξ (List.mem_of_getElem? (i := 0) rfl) 3).trans (zM_F hMξ (List.mem_of_getElem? (i := 1) rfl))) ?_
        refine zp_const (pc := 147) hx hb (zd_X12_runDay (147, .bipush 10, 2, 0, []) (List.mem_of_getElem? (i := 96) rfl)) rfl rfl ?_
        refine zp_const (pc := 149) hx hb (zd_X12_runDay (149, .iconst (-1), 1, 0, []) (List.mem_of_getElem? (i := 97) rfl)) rfl rfl ?_
        refine zp_iastR (j := 10) (pc := 150) hx hb hwξ heffξ (zd_X12_runDay (150, .iastore, 1, 0, []) (List.mem_of_getElem? (i := 98) rfl)) (zM_P hMξ (List.mem_of_getElem? (i := 2) rfl)) (by omega) (show 10 < 180 by omega) (zr_st (lo := (-2147483648)) (hi := 2147483647) ⟨rfl, rfl, rfl⟩ (by omega) (by omega) (by omega) (by omega)) ⟨1002, rfl, zp_1002 (by omega)⟩ ?_
        refine zp_load (pc := 151) hx hb (zd_X12_runDay (151, .aload_n 0, 1, 0, []) (List.mem_of_getElem? (i := 99) rfl)) rfl (j := 2) rfl ?_
        refine zp_getf (n := (A 3 : Int)) (pc := 152) hx hb hEξ hwξ (zd_X12_runDay (152, .getfield 13, 3, 0, []) (List.mem_of_getElem? (i := 100) rfl)) (j := 21) rfl rfl rfl (zM_P hMξ (List.mem_of_getElem? (i := 0) rfl)) ((zp_set_ne (Or.inl (zM_ne hMξ (List.mem_of_getElem? (i := 0) rfl) (List.mem_of_getElem? (i := 2) rfl) (by decide)))).trans (((zM_G hMξ (List.mem_of_getElem? (i := 0) rfl) 3).trans (zM_F hMξ (List.mem_of_getElem? (i := 1) rfl))))) ?_
        refine zp_const (pc := 155) hx hb (zd_X12_runDay (155, .iconst 5, 1, 0, []) (List.mem_of_getElem? (i := 101) rfl)) rfl rfl ?_
        refine zp_dup2 (pc := 156) hx hb (zd_X12_runDay (156, .dup2, 1, 0, []) (List.mem_of_getElem? (i := 102) rfl)) (show (0 : Nat) ≠ 1 by decide) (show (2 : Nat) ≠ 1 by decide) ?_
        refine zp_ialdT (j := 5) (v := (V 3 (2000 + 5))) (pc := 157) hx hb hwξ (zd_X12_runDay (157, .iaload, 1, 0, []) (List.mem_of_getElem? (i := 103) rfl)) zl_T59 rfl (zl_kd 5) (zM_P hMξ (List.mem_of_getElem? (i := 2) rfl)) (by omega) (show 5 < 5580 by omega) ((zp_set_ne (Or.inr (by omega))).trans ((((zM_G hMξ (List.mem_of_getElem? (i := 2) rfl) (2000 + 5)).trans (hVξ 3 (2000 + 5) (Or.inl (by decide)))).trans ((zc_pl_n (by omega)).trans ((zc_dn_n (by omega)).trans rfl))))) (fun _ => ?_)
        refine zp_const (pc := 158) hx hb (zd_X12_runDay (158, .iconst 1, 1, 0, []) (List.mem_of_getElem? (i := 104) rfl)) rfl rfl ?_
        refine zp_add (n := ((V 3 (2000 + 5)) + 1)) (pc := 159) hx hb (zd_X12_runDay (159, .iadd, 1, 0, []) (List.mem_of_getElem? (i := 105) rfl)) (by omega) (zp_r0 (by omega) (by omega)) ?_
        refine zp_iastR (j := 5) (pc := 160) hx hb hwξ heffξ (zd_X12_runDay (160, .iastore, 1, 0, []) (List.mem_of_getElem? (i := 106) rfl)) (zM_P hMξ (List.mem_of_getElem? (i := 2) rfl)) (by omega) (show 5 < 180 by omega) (zr_st (lo := (-2147483648)) (hi := 2147483647) ⟨rfl, rfl, rfl⟩ (by omega) (by omega) (by omega) (by omega)) ⟨1002, rfl, zp_1002 (by omega)⟩ ?_
        refine zp_load (pc := 161) hx hb (zd_X12_runDay (161, .iload_n 1, 1, 0, []) (List.mem_of_getElem? (i := 107) rfl)) rfl (j := 1) rfl ?_
        have hffξ : zf_rud V n1ξ p9ξ Lwξ = (zc_ct X n1ξ, (zp_set (zp_set (zc_pl (zc_dn V X n1ξ) p9ξ) 3 (2000 + 10) (-1)) 3 (2000 + 5) ((V 3 (2000 + 5)) + 1))) := by
          unfold zf_rud
          rw [← hXξ]
        refine zp_iret (pc := 162) (n := (zc_ct X n1ξ)) hx hb hEξ hQξ hU5ξ rfl (by decide) (zd_X12_runDay (162, .ireturn, 1, 0, []) (List.mem_of_getElem? (i := 108) rfl)) (j := 0) rfl (zp_o0 (by omega) (by omega) (by omega) (by omega)) ?_
        rw [hpsξ]
        refine ⟨rfl, ?_⟩
        show zMVr A (zf_rud V n1ξ p9ξ Lwξ).2 u.1 (zp_set (zp_set G (A 3) (2000 + 10) (-1)) (A 3) (2000 + 5) ((V 3 (2000 + 5)) + 1)) ∧ (zc_ct X n1ξ) = (zf_rud V n1ξ p9ξ Lwξ).1
        rw [hffξ]
        exact ⟨⟨(zp_set (zp_set M 3 (2000 + 10) (-1)) 3 (2000 + 5) ((V 3 (2000 + 5)) + 1)), (zM_setE (zM_setE hMξ (List.mem_of_getElem? (i := 2) rfl)) (List.mem_of_getElem? (i := 2) rfl)), (zV_set (zV_set hVξ)), (zSb_set (by decide) (zSb_set (by decide) hSbξ))⟩, rfl⟩
      · exfalso
        omega
    | succ r9ξ ih =>
      intro p9ξ M G hrξ hMξ hVξ hSbξ
      have ho9ξ := hOilξ p9ξ (by omega)
      have hl9ξ := hDpξ p9ξ (by omega)
      have hl9ξ : 0 ≤ V 3 (2000 + (3 * p9ξ + 13)) ∧ V 3 (2000 + (3 * p9ξ + 13)) ≤ 9 := hl9ξ
      refine zp_load (pc := 66) hx hb (zd_X12_runDay (66, .iload_n 2, 1, 0, []) (List.mem_of_getElem? (i := 42) rfl)) rfl (j := 0) rfl ?_
      refine zp_load (pc := 67) hx hb (zd_X12_runDay (67, .aload_n 0, 1, 0, []) (List.mem_of_getElem? (i := 43) rfl)) rfl (j := 2) rfl ?_
      refine zp_getf (n := (A 3 : Int)) (pc := 68) hx hb hEξ hwξ (zd_X12_runDay (68, .getfield 13, 3, 0, []) (List.mem_of_getElem? (i := 44) rfl)) (j := 21) rfl rfl rfl (zM_P hMξ (List.mem_of_getElem? (i := 0) rfl)) ((zM_G hMξ (List.mem_of_getElem? (i := 0) rfl) 3).trans (zM_F hMξ (List.mem_of_getElem? (i := 1) rfl))) ?_
      refine zp_const (pc := 71) hx hb (zd_X12_runDay (71, .iconst 0, 1, 0, []) (List.mem_of_getElem? (i := 45) rfl)) rfl rfl ?_
      refine zp_ialdT (j := 0) (v := (npξ : Int)) (pc := 72) hx hb hwξ (zd_X12_runDay (72, .iaload, 1, 0, []) (List.mem_of_getElem? (i := 46) rfl)) zl_T59 rfl (zl_kd 0) (zM_P hMξ (List.mem_of_getElem? (i := 2) rfl)) (by omega) (show 0 < 5580 by omega) (((zM_G hMξ (List.mem_of_getElem? (i := 2) rfl) (2000 + 0)).trans (hVξ 3 (2000 + 0) (Or.inl (by decide)))).trans ((zc_pl_n (by omega)).trans ((zc_dn_n (by omega)).trans hnpξ))) (fun _ => ?_)
      refine zp_icmp (pc := 73) (tgt := 143) hx hb (zd_X12_runDay (73, .if_icmp .ge 70, 3, 0, []) (List.mem_of_getElem? (i := 47) rfl)) rfl (fun (hc336ξ : (npξ : Int) ≤ (p9ξ : Int)) => ?_) (fun (hc336ξ : ¬ ((npξ : Int) ≤ (p9ξ : Int))) => ?_)
      · exfalso
        omega
      · refine zp_const (pc := 76) hx hb (zd_X12_runDay (76, .bipush 11, 2, 0, []) (List.mem_of_getElem? (i := 48) rfl)) rfl rfl ?_
        refine zp_const (pc := 78) hx hb (zd_X12_runDay (78, .iconst 3, 1, 0, []) (List.mem_of_getElem? (i := 49) rfl)) rfl rfl ?_
        refine zp_load (pc := 79) hx hb (zd_X12_runDay (79, .iload_n 2, 1, 0, []) (List.mem_of_getElem? (i := 50) rfl)) rfl (j := 0) rfl ?_
        refine zp_mul (n := (3 * (p9ξ : Int))) (pc := 80) hx hb (zd_X12_runDay (80, .imul, 1, 0, []) (List.mem_of_getElem? (i := 51) rfl)) (by omega) (zp_r0 (by omega) (by omega)) ?_
        refine zp_add (n := (3 * (p9ξ : Int) + 11)) (pc := 81) hx hb (zd_X12_runDay (81, .iadd, 1, 0, []) (List.mem_of_getElem? (i := 52) rfl)) (by omega) (zp_r0 (by omega) (by omega)) ?_
        refine zp_store (L' := [(3, 0, (3 * (p9ξ : Int) + 11)), (2, 0, (p9ξ : Int)), (1, 0, (zc_ct X n1ξ)), (0, 2, (A 0 : Int))]) (pc := 82) hx hb hnLξ (zd_X12_runDay (82, .istore_n 3, 1, 0, []) (List.mem_of_getElem? (i := 53) rfl)) rfl rfl rfl ?_
        refine zp_load (pc := 83) hx hb (zd_X12_runDay (83, .aload_n 0, 1, 0, []) (List.mem_of_getElem? (i := 54) rfl)) rfl (j := 3) rfl ?_
        refine zp_getf (n := (A 3 : Int)) (pc := 84) hx hb hEξ hwξ (zd_X12_runDay (84, .getfield 13, 3, 0, []) (List.mem_of_getElem? (i := 55) rfl)) (j := 21) rfl rfl rfl (zM_P hMξ (List.mem_of_getElem? (i := 0) rfl)) ((zM_G hMξ (List.mem_of_getElem? (i := 0) rfl) 3).trans (zM_F hMξ (List.mem_of_getElem? (i := 1) rfl))) ?_
        refine zp_load (pc := 87) hx hb (zd_X12_runDay (87, .iload_n 3, 1, 0, []) (List.mem_of_getElem? (i := 56) rfl)) rfl (j := 0) rfl ?_
        refine zp_const (pc := 88) hx hb (zd_X12_runDay (88, .iconst 0, 1, 0, []) (List.mem_of_getElem? (i := 57) rfl)) rfl rfl ?_
        refine zp_add (n := (3 * (p9ξ : Int) + 11)) (pc := 89) hx hb (zd_X12_runDay (89, .iadd, 1, 0, []) (List.mem_of_getElem? (i := 58) rfl)) (by omega) (zp_r0 (by omega) (by omega)) ?_
        refine zp_dup2 (pc := 90) hx hb (zd_X12_runDay (90, .dup2, 1, 0, []) (List.mem_of_getElem? (i := 59) rfl)) (show (0 : Nat) ≠ 1 by decide) (show (2 : Nat) ≠ 1 by decide) ?_
        refine zp_ialdT (j := (3 * p9ξ + 11)) (v := (V 3 (2000 + (3 * p9ξ + 11)))) (pc := 91) hx hb hwξ (zd_X12_runDay (91, .iaload, 1, 0, []) (List.mem_of_getElem? (i := 60) rfl)) zl_T59 rfl (zl_kd ((3 * p9ξ + 11))) (zM_P hMξ (List.mem_of_getElem? (i := 2) rfl)) (by omega) (show (3 * p9ξ + 11) < 5580 by omega) (((zM_G hMξ (List.mem_of_getElem? (i := 2) rfl) (2000 + (3 * p9ξ + 11))).trans (hVξ 3 (2000 + (3 * p9ξ + 11)) (Or.inl (by decide)))).trans ((zc_pl_n (by omega)).trans ((zc_dn_n (by omega)).trans rfl))) (fun _ => ?_)
        refine zp_load (pc := 92) hx hb (zd_X12_runDay (92, .aload_n 0, 1, 0, []) (List.mem_of_getElem? (i := 61) rfl)) rfl (j := 3) rfl ?_
        refine zp_getf (n := (A 3 : Int)) (pc := 93) hx hb hEξ hwξ (zd_X12_runDay (93, .getfield 13, 3, 0, []) (List.mem_of_getElem? (i := 62) rfl)) (j := 21) rfl rfl rfl (zM_P hMξ (List.mem_of_getElem? (i := 0) rfl)) ((zM_G hMξ (List.mem_of_getElem? (i := 0) rfl) 3).trans (zM_F hMξ (List.mem_of_getElem? (i := 1) rfl))) ?_
        refine zp_load (pc := 96) hx hb (zd_X12_runDay (96, .iload_n 3, 1, 0, []) (List.mem_of_getElem? (i := 63) rfl)) rfl (j := 0) rfl ?_
        refine zp_const (pc := 97) hx hb (zd_X12_runDay (97, .iconst 0, 1, 0, []) (List.mem_of_getElem? (i := 64) rfl)) rfl rfl ?_
        refine zp_add (n := (3 * (p9ξ : Int) + 11)) (pc := 98) hx hb (zd_X12_runDay (98, .iadd, 1, 0, []) (List.mem_of_getElem? (i := 65) rfl)) (by omega) (zp_r0 (by omega) (by omega)) ?_
        refine zp_ialdT (j := (3 * p9ξ + 11)) (v := (V 3 (2000 + (3 * p9ξ + 11)))) (pc := 99) hx hb hwξ (zd_X12_runDay (99, .iaload, 1, 0, []) (List.mem_of_getElem? (i := 66) rfl)) zl_T59 rfl (zl_kd ((3 * p9ξ + 11))) (zM_P hMξ (List.mem_of_getElem? (i := 2) rfl)) (by omega) (show (3 * p9ξ + 11) < 5580 by omega) (((zM_G hMξ (List.mem_of_getElem? (i := 2) rfl) (2000 + (3 * p9ξ + 11))).trans (hVξ 3 (2000 + (3 * p9ξ + 11)) (Or.inl (by decide)))).trans ((zc_pl_n (by omega)).trans ((zc_dn_n (by omega)).trans rfl))) (fun _ => ?_)
        refine zp_if (pc := 100) (tgt := 107) hx hb (zd_X12_runDay (100, .ifCond .le 7, 3, 0, []) (List.mem_of_getElem? (i := 67) rfl)) rfl (fun (hc339ξ : (V 3 (2000 + (3 * p9ξ + 11))) ≤ 0) => ?_) (fun (hc339ξ : ¬ ((V 3 (2000 + (3 * p9ξ + 11))) ≤ 0)) => ?_)
        · refine zp_const (pc := 107) hx hb (zd_X12_runDay (107, .iconst 0, 1, 0, []) (List.mem_of_getElem? (i := 70) rfl)) rfl rfl ?_
          refine zp_sub (n := ((V 3 (2000 + (3 * p9ξ + 11))) - 0)) (pc := 108) hx hb (zd_X12_runDay (108, .isub, 1, 0, []) (List.mem_of_getElem? (i := 71) rfl)) (by omega) (zp_r0 (by omega) (by omega)) ?_
          refine zp_iastR (j := (3 * p9ξ + 11)) (pc := 109) hx hb hwξ heffξ (zd_X12_runDay (109, .iastore, 1, 0, []) (List.mem_of_getElem? (i := 72) rfl)) (zM_P hMξ (List.mem_of_getElem? (i := 2) rfl)) (by omega) (show (3 * p9ξ + 11) < 180 by omega) (zr_st (lo := (-2147483648)) (hi := 2147483647) (zr_o p9ξ (by omega)) (by omega) (by omega) (by omega) (by omega)) ⟨1002, rfl, zp_1002 (by omega)⟩ ?_
          refine zp_load (pc := 110) hx hb (zd_X12_runDay (110, .aload_n 0, 1, 0, []) (List.mem_of_getElem? (i := 73) rfl)) rfl (j := 3) rfl ?_
          refine zp_getf (n := (A 3 : Int)) (pc := 111) hx hb hEξ hwξ (zd_X12_runDay (111, .getfield 13, 3, 0, []) (List.mem_of_getElem? (i := 74) rfl)) (j := 21) rfl rfl rfl (zM_P hMξ (List.mem_of_getElem? (i := 0) rfl)) ((zp_set_ne (Or.inl (zM_ne hMξ (List.mem_of_getElem? (i := 0) rfl) (List.mem_of_getElem? (i := 2) rfl) (by decide)))).trans (((zM_G hMξ (List.mem_of_getElem? (i := 0) rfl) 3).trans (zM_F hMξ (List.mem_of_getElem? (i := 1) rfl))))) ?_
          refine zp_load (pc := 114) hx hb (zd_X12_runDay (114, .iload_n 3, 1, 0, []) (List.mem_of_getElem? (i := 75) rfl)) rfl (j := 0) rfl ?_
          refine zp_const (pc := 115) hx hb (zd_X12_runDay (115, .iconst 2, 1, 0, []) (List.mem_of_getElem? (i := 76) rfl)) rfl rfl ?_
          refine zp_add (n := (3 * (p9ξ : Int) + 13)) (pc := 116) hx hb (zd_X12_runDay (116, .iadd, 1, 0, []) (List.mem_of_getElem? (i := 77) rfl)) (by omega) (zp_r0 (by omega) (by omega)) ?_
          refine zp_dup2 (pc := 117) hx hb (zd_X12_runDay (117, .dup2, 1, 0, []) (List.mem_of_getElem? (i := 78) rfl)) (show (0 : Nat) ≠ 1 by decide) (show (2 : Nat) ≠ 1 by decide) ?_
          refine zp_ialdT (j := (3 * p9ξ + 13)) (v := (V 3 (2000 + (3 * p9ξ + 13)))) (pc := 118) hx hb hwξ (zd_X12_runDay (118, .iaload, 1, 0, []) (List.mem_of_getElem? (i := 79) rfl)) zl_T59 rfl (zl_kd ((3 * p9ξ + 13))) (zM_P hMξ (List.mem_of_getElem? (i := 2) rfl)) (by omega) (show (3 * p9ξ + 13) < 5580 by omega) ((zp_set_ne (Or.inr (by omega))).trans ((((zM_G hMξ (List.mem_of_getElem? (i := 2) rfl) (2000 + (3 * p9ξ + 13))).trans (hVξ 3 (2000 + (3 * p9ξ + 13)) (Or.inl (by decide)))).trans ((zc_pl_n (by omega)).trans ((zc_dn_n (by omega)).trans rfl))))) (fun _ => ?_)
          refine zp_load (pc := 119) hx hb (zd_X12_runDay (119, .aload_n 0, 1, 0, []) (List.mem_of_getElem? (i := 80) rfl)) rfl (j := 3) rfl ?_
          refine zp_getf (n := (A 3 : Int)) (pc := 120) hx hb hEξ hwξ (zd_X12_runDay (120, .getfield 13, 3, 0, []) (List.mem_of_getElem? (i := 81) rfl)) (j := 21) rfl rfl rfl (zM_P hMξ (List.mem_of_getElem? (i := 0) rfl)) ((zp_set_ne (Or.inl (zM_ne hMξ (List.mem_of_getElem? (i := 0) rfl) (List.mem_of_getElem? (i := 2) rfl) (by decide)))).trans (((zM_G hMξ (List.mem_of_getElem? (i := 0) rfl) 3).trans (zM_F hMξ (List.mem_of_getElem? (i := 1) rfl))))) ?_
          refine zp_load (pc := 123) hx hb (zd_X12_runDay (123, .iload_n 3, 1, 0, []) (List.mem_of_getElem? (i := 82) rfl)) rfl (j := 0) rfl ?_
          refine zp_const (pc := 124) hx hb (zd_X12_runDay (124, .iconst 2, 1, 0, []) (List.mem_of_getElem? (i := 83) rfl)) rfl rfl ?_
          refine zp_add (n := (3 * (p9ξ : Int) + 13)) (pc := 125) hx hb (zd_X12_runDay (125, .iadd, 1, 0, []) (List.mem_of_getElem? (i := 84) rfl)) (by omega) (zp_r0 (by omega) (by omega)) ?_
          refine zp_ialdT (j := (3 * p9ξ + 13)) (v := (V 3 (2000 + (3 * p9ξ + 13)))) (pc := 126) hx hb hwξ (zd_X12_runDay (126, .iaload, 1, 0, []) (List.mem_of_getElem? (i := 85) rfl)) zl_T59 rfl (zl_kd ((3 * p9ξ + 13))) (zM_P hMξ (List.mem_of_getElem? (i := 2) rfl)) (by omega) (show (3 * p9ξ + 13) < 5580 by omega) ((zp_set_ne (Or.inr (by omega))).trans ((((zM_G hMξ (List.mem_of_getElem? (i := 2) rfl) (2000 + (3 * p9ξ + 13))).trans (hVξ 3 (2000 + (3 * p9ξ + 13)) (Or.inl (by decide)))).trans ((zc_pl_n (by omega)).trans ((zc_dn_n (by omega)).trans rfl))))) (fun _ => ?_)
          refine zp_if (pc := 127) (tgt := 134) hx hb (zd_X12_runDay (127, .ifCond .le 7, 3, 0, []) (List.mem_of_getElem? (i := 86) rfl)) rfl (fun (hc342ξ : (V 3 (2000 + (3 * p9ξ + 13))) ≤ 0) => ?_) (fun (hc342ξ : ¬ ((V 3 (2000 + (3 * p9ξ + 13))) ≤ 0)) => ?_)
          · refine zp_const (pc := 134) hx hb (zd_X12_runDay (134, .iconst 0, 1, 0, []) (List.mem_of_getElem? (i := 89) rfl)) rfl rfl ?_
            refine zp_sub (n := ((V 3 (2000 + (3 * p9ξ + 13))) - 0)) (pc := 135) hx hb (zd_X12_runDay (135, .isub, 1, 0, []) (List.mem_of_getElem? (i := 90) rfl)) (by omega) (zp_r0 (by omega) (by omega)) ?_
            refine zp_iastR (j := (3 * p9ξ + 13)) (pc := 136) hx hb hwξ heffξ (zd_X12_runDay (136, .iastore, 1, 0, []) (List.mem_of_getElem? (i := 91) rfl)) (zM_P hMξ (List.mem_of_getElem? (i := 2) rfl)) (by omega) (show (3 * p9ξ + 13) < 180 by omega) (zr_st (lo := 0) (hi := 9) (zr_l p9ξ (by omega)) (by omega) (by omega) (by omega) (by omega)) ⟨1002, rfl, zp_1002 (by omega)⟩ ?_
            refine zp_iinc (L' := [(2, 0, ((p9ξ : Int) + 1)), (3, 0, (3 * (p9ξ : Int) + 11)), (1, 0, (zc_ct X n1ξ)), (0, 2, (A 0 : Int))]) (n := ((p9ξ : Int) + 1)) (pc := 137) hx hb hnLξ (zd_X12_runDay (137, .iinc 2 1, 3, 0, []) (List.mem_of_getElem? (i := 92) rfl)) (j := 1) rfl (by omega) (zp_r0 (by omega) (by omega)) rfl rfl ?_
            refine zp_goto (tgt := 66) (pc := 140) hx hb (zd_X12_runDay (140, .goto (-74), 3, 0, []) (List.mem_of_getElem? (i := 93) rfl)) rfl ?_
            refine zp_drop (L' := [(2, 0, ((p9ξ : Int) + 1)), (1, 0, (zc_ct X n1ξ)), (0, 2, (A 0 : Int))]) (by simp) ?_
            have he9ξ : (zp_set (zp_set (zc_pl (zc_dn V X n1ξ) p9ξ) 3 (2000 + (3 * p9ξ + 11)) ((V 3 (2000 + (3 * p9ξ + 11))) - 0)) 3 (2000 + (3 * p9ξ + 13)) ((V 3 (2000 + (3 * p9ξ + 13))) - 0)) = (zc_pl (zc_dn V X n1ξ) (p9ξ + 1)) := by
              rw [zc_pl, zc_dn_n (by omega), zc_dn_n (by omega)]
              rw [if_neg (show ¬ 0 < (V 3 (2000 + (3 * p9ξ + 11))) by omega), if_neg (show ¬ 0 < (V 3 (2000 + (3 * p9ξ + 13))) by omega)]
            exact ih (p9ξ + 1) (zp_set (zp_set M 3 (2000 + (3 * p9ξ + 11)) ((V 3 (2000 + (3 * p9ξ + 11))) - 0)) 3 (2000 + (3 * p9ξ + 13)) ((V 3 (2000 + (3 * p9ξ + 13))) - 0)) _ (by omega) (zM_setE (zM_setE hMξ (List.mem_of_getElem? (i := 2) rfl)) (List.mem_of_getElem? (i := 2) rfl)) (by rw [← he9ξ]; exact (zV_set (zV_set hVξ))) (zSb_set (by decide) (zSb_set (by decide) hSbξ))
          · refine zp_const (pc := 130) hx hb (zd_X12_runDay (130, .iconst 1, 1, 0, []) (List.mem_of_getElem? (i := 87) rfl)) rfl rfl ?_
            refine zp_goto (tgt := 135) (pc := 131) hx hb (zd_X12_runDay (131, .goto 4, 3, 0, []) (List.mem_of_getElem? (i := 88) rfl)) rfl ?_
            refine zp_sub (n := ((V 3 (2000 + (3 * p9ξ + 13))) - 1)) (pc := 135) hx hb (zd_X12_runDay (135, .isub, 1, 0, []) (List.mem_of_getElem? (i := 90) rfl)) (by omega) (zp_r0 (by omega) (by omega)) ?_
            refine zp_iastR (j := (3 * p9ξ + 13)) (pc := 136) hx hb hwξ heffξ (zd_X12_runDay (136, .iastore, 1, 0, []) (List.mem_of_getElem? (i := 91) rfl)) (zM_P hMξ (List.mem_of_getElem? (i := 2) rfl)) (by omega) (show (3 * p9ξ + 13) < 180 by omega) (zr_st (lo := 0) (hi := 9) (zr_l p9ξ (by omega)) (by omega) (by omega) (by omega) (by omega)) ⟨1002, rfl, zp_1002 (by omega)⟩ ?_
            refine zp_iinc (L' := [(2, 0, ((p9ξ : Int) + 1)), (3, 0, (3 * (p9ξ : Int) + 11)), (1, 0, (zc_ct X n1ξ)), (0, 2, (A 0 : Int))]) (n := ((p9ξ : Int) + 1)) (pc := 137) hx hb hnLξ (zd_X12_runDay (137, .iinc 2 1, 3, 0, []) (List.mem_of_getElem? (i := 92) rfl)) (j := 1) rfl (by omega) (zp_r0 (by omega) (by omega)) rfl rfl ?_
            refine zp_goto (tgt := 66) (pc := 140) hx hb (zd_X12_runDay (140, .goto (-74), 3, 0, []) (List.mem_of_getElem? (i := 93) rfl)) rfl ?_
            refine zp_drop (L' := [(2, 0, ((p9ξ : Int) + 1)), (1, 0, (zc_ct X n1ξ)), (0, 2, (A 0 : Int))]) (by simp) ?_
            have he9ξ : (zp_set (zp_set (zc_pl (zc_dn V X n1ξ) p9ξ) 3 (2000 + (3 * p9ξ + 11)) ((V 3 (2000 + (3 * p9ξ + 11))) - 0)) 3 (2000 + (3 * p9ξ + 13)) ((V 3 (2000 + (3 * p9ξ + 13))) - 1)) = (zc_pl (zc_dn V X n1ξ) (p9ξ + 1)) := by
              rw [zc_pl, zc_dn_n (by omega), zc_dn_n (by omega)]
              rw [if_neg (show ¬ 0 < (V 3 (2000 + (3 * p9ξ + 11))) by omega), if_pos (show 0 < (V 3 (2000 + (3 * p9ξ + 13))) by omega)]
            exact ih (p9ξ + 1) (zp_set (zp_set M 3 (2000 + (3 * p9ξ + 11)) ((V 3 (2000 + (3 * p9ξ + 11))) - 0)) 3 (2000 + (3 * p9ξ + 13)) ((V 3 (2000 + (3 * p9ξ + 13))) - 1)) _ (by omega) (zM_setE (zM_setE hMξ (List.mem_of_getElem? (i := 2) rfl)) (List.mem_of_getElem? (i := 2) rfl)) (by rw [← he9ξ]; exact (zV_set (zV_set hVξ))) (zSb_set (by decide) (zSb_set (by decide) hSbξ))
        · refine zp_const (pc := 103) hx hb (zd_X12_runDay (103, .iconst 1, 1, 0, []) (List.mem_of_getElem? (i := 68) rfl)) rfl rfl ?_
          refine zp_goto (tgt := 108) (pc := 104) hx hb (zd_X12_runDay (104, .goto 4, 3, 0, []) (List.mem_of_getElem? (i := 69) rfl)) rfl ?_
          refine zp_sub (n := ((V 3 (2000 + (3 * p9ξ + 11))) - 1)) (pc := 108) hx hb (zd_X12_runDay (108, .isub, 1, 0, []) (List.mem_of_getElem? (i := 71) rfl)) (by omega) (zp_r0 (by omega) (by omega)) ?_
          refine zp_iastR (j := (3 * p9ξ + 11)) (pc := 109) hx hb hwξ heffξ (zd_X12_runDay (109, .iastore, 1, 0, []) (List.mem_of_getElem? (i := 72) rfl)) (zM_P hMξ (List.mem_of_getElem? (i := 2) rfl)) (by omega) (show (3 * p9ξ + 11) < 180 by omega) (zr_st (lo := (-2147483648)) (hi := 2147483647) (zr_o p9ξ (by omega)) (by omega) (by omega) (by omega) (by omega)) ⟨1002, rfl, zp_1002 (by omega)⟩ ?_
          refine zp_load (pc := 110) hx hb (zd_X12_runDay (110, .aload_n 0, 1, 0, []) (List.mem_of_getElem? (i := 73) rfl)) rfl (j := 3) rfl ?_
          refine zp_getf (n := (A 3 : Int)) (pc := 111) hx hb hEξ hwξ (zd_X12_runDay (111, .getfield 13, 3, 0, []) (List.mem_of_getElem? (i := 74) rfl)) (j := 21) rfl rfl rfl (zM_P hMξ (List.mem_of_getElem? (i := 0) rfl)) ((zp_set_ne (Or.inl (zM_ne hMξ (List.mem_of_getElem? (i := 0) rfl) (List.mem_of_getElem? (i := 2) rfl) (by decide)))).trans (((zM_G hMξ (List.mem_of_getElem? (i := 0) rfl) 3).trans (zM_F hMξ (List.mem_of_getElem? (i := 1) rfl))))) ?_
          refine zp_load (pc := 114) hx hb (zd_X12_runDay (114, .iload_n 3, 1, 0, []) (List.mem_of_getElem? (i := 75) rfl)) rfl (j := 0) rfl ?_
          refine zp_const (pc := 115) hx hb (zd_X12_runDay (115, .iconst 2, 1, 0, []) (List.mem_of_getElem? (i := 76) rfl)) rfl rfl ?_
          refine zp_add (n := (3 * (p9ξ : Int) + 13)) (pc := 116) hx hb (zd_X12_runDay (116, .iadd, 1, 0, []) (List.mem_of_getElem? (i := 77) rfl)) (by omega) (zp_r0 (by omega) (by omega)) ?_
          refine zp_dup2 (pc := 117) hx hb (zd_X12_runDay (117, .dup2, 1, 0, []) (List.mem_of_getElem? (i := 78) rfl)) (show (0 : Nat) ≠ 1 by decide) (show (2 : Nat) ≠ 1 by decide) ?_
          refine zp_ialdT (j := (3 * p9ξ + 13)) (v := (V 3 (2000 + (3 * p9ξ + 13)))) (pc := 118) hx hb hwξ (zd_X12_runDay (118, .iaload, 1, 0, []) (List.mem_of_getElem? (i := 79) rfl)) zl_T59 rfl (zl_kd ((3 * p9ξ + 13))) (zM_P hMξ (List.mem_of_getElem? (i := 2) rfl)) (by omega) (show (3 * p9ξ + 13) < 5580 by omega) ((zp_set_ne (Or.inr (by omega))).trans ((((zM_G hMξ (List.mem_of_getElem? (i := 2) rfl) (2000 + (3 * p9ξ + 13))).trans (hVξ 3 (2000 + (3 * p9ξ + 13)) (Or.inl (by decide)))).trans ((zc_pl_n (by omega)).trans ((zc_dn_n (by omega)).trans rfl))))) (fun _ => ?_)
          refine zp_load (pc := 119) hx hb (zd_X12_runDay (119, .aload_n 0, 1, 0, []) (List.mem_of_getElem? (i := 80) rfl)) rfl (j := 3) rfl ?_
          refine zp_getf (n := (A 3 : Int)) (pc := 120) hx hb hEξ hwξ (zd_X12_runDay (120, .getfield 13, 3, 0, []) (List.mem_of_getElem? (i := 81) rfl)) (j := 21) rfl rfl rfl (zM_P hMξ (List.mem_of_getElem? (i := 0) rfl)) ((zp_set_ne (Or.inl (zM_ne hMξ (List.mem_of_getElem? (i := 0) rfl) (List.mem_of_getElem? (i := 2) rfl) (by decide)))).trans (((zM_G hMξ (List.mem_of_getElem? (i := 0) rfl) 3).trans (zM_F hMξ (List.mem_of_getElem? (i := 1) rfl))))) ?_
          refine zp_load (pc := 123) hx hb (zd_X12_runDay (123, .iload_n 3, 1, 0, []) (List.mem_of_getElem? (i := 82) rfl)) rfl (j := 0) rfl ?_
          refine zp_const (pc := 124) hx hb (zd_X12_runDay (124, .iconst 2, 1, 0, []) (List.mem_of_getElem? (i := 83) rfl)) rfl rfl ?_
          refine zp_add (n := (3 * (p9ξ : Int) + 13)) (pc := 125) hx hb (zd_X12_runDay (125, .iadd, 1, 0, []) (List.mem_of_getElem? (i := 84) rfl)) (by omega) (zp_r0 (by omega) (by omega)) ?_
          refine zp_ialdT (j := (3 * p9ξ + 13)) (v := (V 3 (2000 + (3 * p9ξ + 13)))) (pc := 126) hx hb hwξ (zd_X12_runDay (126, .iaload, 1, 0, []) (List.mem_of_getElem? (i := 85) rfl)) zl_T59 rfl (zl_kd ((3 * p9ξ + 13))) (zM_P hMξ (List.mem_of_getElem? (i := 2) rfl)) (by omega) (show (3 * p9ξ + 13) < 5580 by omega) ((zp_set_ne (Or.inr (by omega))).trans ((((zM_G hMξ (List.mem_of_getElem? (i := 2) rfl) (2000 + (3 * p9ξ + 13))).trans (hVξ 3 (2000 + (3 * p9ξ + 13)) (Or.inl (by decide)))).trans ((zc_pl_n (by omega)).trans ((zc_dn_n (by omega)).trans rfl))))) (fun _ => ?_)
          refine zp_if (pc := 127) (tgt := 134) hx hb (zd_X12_runDay (127, .ifCond .le 7, 3, 0, []) (List.mem_of_getElem? (i := 86) rfl)) rfl (fun (hc345ξ : (V 3 (2000 + (3 * p9ξ + 13))) ≤ 0) => ?_) (fun (hc345ξ : ¬ ((V 3 (2000 + (3 * p9ξ + 13))) ≤ 0)) => ?_)
          · refine zp_const (pc := 134) hx hb (zd_X12_runDay (134, .iconst 0, 1, 0, []) (List.mem_of_getElem? (i := 89) rfl)) rfl rfl ?_
            refine zp_sub (n := ((V 3 (2000 + (3 * p9ξ + 13))) - 0)) (pc := 135) hx hb (zd_X12_runDay (135, .isub, 1, 0, []) (List.mem_of_getElem? (i := 90) rfl)) (by omega) (zp_r0 (by omega) (by omega)) ?_
            refine zp_iastR (j := (3 * p9ξ + 13)) (pc := 136) hx hb hwξ heffξ (zd_X12_runDay (136, .iastore, 1, 0, []) (List.mem_of_getElem? (i := 91) rfl)) (zM_P hMξ (List.mem_of_getElem? (i := 2) rfl)) (by omega) (show (3 * p9ξ + 13) < 180 by omega) (zr_st (lo := 0) (hi := 9) (zr_l p9ξ (by omega)) (by omega) (by omega) (by omega) (by omega)) ⟨1002, rfl, zp_1002 (by omega)⟩ ?_
            refine zp_iinc (L' := [(2, 0, ((p9ξ : Int) + 1)), (3, 0, (3 * (p9ξ : Int) + 11)), (1, 0, (zc_ct X n1ξ)), (0, 2, (A 0 : Int))]) (n := ((p9ξ : Int) + 1)) (pc := 137) hx hb hnLξ (zd_X12_runDay (137, .iinc 2 1, 3, 0, []) (List.mem_of_getElem? (i := 92) rfl)) (j := 1) rfl (by omega) (zp_r0 (by omega) (by omega)) rfl rfl ?_
            refine zp_goto (tgt := 66) (pc := 140) hx hb (zd_X12_runDay (140, .goto (-74), 3, 0, []) (List.mem_of_getElem? (i := 93) rfl)) rfl ?_
            refine zp_drop (L' := [(2, 0, ((p9ξ : Int) + 1)), (1, 0, (zc_ct X n1ξ)), (0, 2, (A 0 : Int))]) (by simp) ?_
            have he9ξ : (zp_set (zp_set (zc_pl (zc_dn V X n1ξ) p9ξ) 3 (2000 + (3 * p9ξ + 11)) ((V 3 (2000 + (3 * p9ξ + 11))) - 1)) 3 (2000 + (3 * p9ξ + 13)) ((V 3 (2000 + (3 * p9ξ + 13))) - 0)) = (zc_pl (zc_dn V X n1ξ) (p9ξ + 1)) := by
              rw [zc_pl, zc_dn_n (by omega), zc_dn_n (by omega)]
              rw [if_pos (show 0 < (V 3 (2000 + (3 * p9ξ + 11))) by omega), if_neg (show ¬ 0 < (V 3 (2000 + (3 * p9ξ + 13))) by omega)]
            exact ih (p9ξ + 1) (zp_set (zp_set M 3 (2000 + (3 * p9ξ + 11)) ((V 3 (2000 + (3 * p9ξ + 11))) - 1)) 3 (2000 + (3 * p9ξ + 13)) ((V 3 (2000 + (3 * p9ξ + 13))) - 0)) _ (by omega) (zM_setE (zM_setE hMξ (List.mem_of_getElem? (i := 2) rfl)) (List.mem_of_getElem? (i := 2) rfl)) (by rw [← he9ξ]; exact (zV_set (zV_set hVξ))) (zSb_set (by decide) (zSb_set (by decide) hSbξ))
          · refine zp_const (pc := 130) hx hb (zd_X12_runDay (130, .iconst 1, 1, 0, []) (List.mem_of_getElem? (i := 87) rfl)) rfl rfl ?_
            refine zp_goto (tgt := 135) (pc := 131) hx hb (zd_X12_runDay (131, .goto 4, 3, 0, []) (List.mem_of_getElem? (i := 88) rfl)) rfl ?_
            refine zp_sub (n := ((V 3 (2000 + (3 * p9ξ + 13))) - 1)) (pc := 135) hx hb (zd_X12_runDay (135, .isub, 1, 0, []) (List.mem_of_getElem? (i := 90) rfl)) (by omega) (zp_r0 (by omega) (by omega)) ?_
            refine zp_iastR (j := (3 * p9ξ + 13)) (pc := 136) hx hb hwξ heffξ (zd_X12_runDay (136, .iastore, 1, 0, []) (List.mem_of_getElem? (i := 91) rfl)) (zM_P hMξ (List.mem_of_getElem? (i := 2) rfl)) (by omega) (show (3 * p9ξ + 13) < 180 by omega) (zr_st (lo := 0) (hi := 9) (zr_l p9ξ (by omega)) (by omega) (by omega) (by omega) (by omega)) ⟨1002, rfl, zp_1002 (by omega)⟩ ?_
            refine zp_iinc (L' := [(2, 0, ((p9ξ : Int) + 1)), (3, 0, (3 * (p9ξ : Int) + 11)), (1, 0, (zc_ct X n1ξ)), (0, 2, (A 0 : Int))]) (n := ((p9ξ : Int) + 1)) (pc := 137) hx hb hnLξ (zd_X12_runDay (137, .iinc 2 1, 3, 0, []) (List.mem_of_getElem? (i := 92) rfl)) (j := 1) rfl (by omega) (zp_r0 (by omega) (by omega)) rfl rfl ?_
            refine zp_goto (tgt := 66) (pc := 140) hx hb (zd_X12_runDay (140, .goto (-74), 3, 0, []) (List.mem_of_getElem? (i := 93) rfl)) rfl ?_
            refine zp_drop (L' := [(2, 0, ((p9ξ : Int) + 1)), (1, 0, (zc_ct X n1ξ)), (0, 2, (A 0 : Int))]) (by simp) ?_
            have he9ξ : (zp_set (zp_set (zc_pl (zc_dn V X n1ξ) p9ξ) 3 (2000 + (3 * p9ξ + 11)) ((V 3 (2000 + (3 * p9ξ + 11))) - 1)) 3 (2000 + (3 * p9ξ + 13)) ((V 3 (2000 + (3 * p9ξ + 13))) - 1)) = (zc_pl (zc_dn V X n1ξ) (p9ξ + 1)) := by
              rw [zc_pl, zc_dn_n (by omega), zc_dn_n (by omega)]
              rw [if_pos (show 0 < (V 3 (2000 + (3 * p9ξ + 11))) by omega), if_pos (show 0 < (V 3 (2000 + (3 * p9ξ + 13))) by omega)]
            exact ih (p9ξ + 1) (zp_set (zp_set M 3 (2000 + (3 * p9ξ + 11)) ((V 3 (2000 + (3 * p9ξ + 11))) - 1)) 3 (2000 + (3 * p9ξ + 13)) ((V 3 (2000 + (3 * p9ξ + 13))) - 1)) _ (by omega) (zM_setE (zM_setE hMξ (List.mem_of_getElem? (i := 2) rfl)) (List.mem_of_getElem? (i := 2) rfl)) (by rw [← he9ξ]; exact (zV_set (zV_set hVξ))) (zSb_set (by decide) (zSb_set (by decide) hSbξ))
  have loop1 : ∀ (r9ξ w9ξ : Nat) (M : Nat → Nat → Int) (G : Nat → Nat → Int), r9ξ + w9ξ = n1ξ → zM A zYr zFr M u.1 G → (∀ o k, zNs o k → M o k = (zc_dn V X w9ξ) o k) → zSb M → zDyx n1ξ X M → zp_J p l e R s m args below meth c Q w u [] 15 [(2, 0, (w9ξ : Int)), (1, 0, (zc_ct X w9ξ)), (0, 2, (A 0 : Int))] [] u.1 G := by
    intro r9ξ
    induction r9ξ with
    | zero =>
      intro w9ξ M G hrξ hMξ hVξ hSbξ hx9ξ
      obtain rfl : w9ξ = n1ξ := by omega
      refine zp_load (pc := 15) hx hb (zd_X12_runDay (15, .iload_n 2, 1, 0, []) (List.mem_of_getElem? (i := 10) rfl)) rfl (j := 0) rfl ?_
      refine zp_load (pc := 16) hx hb (zd_X12_runDay (16, .aload_n 0, 1, 0, []) (List.mem_of_getElem? (i := 11) rfl)) rfl (j := 2) rfl ?_
      refine zp_getf (n := (A 3 : Int)) (pc := 17) hx hb hEξ hwξ (zd_X12_runDay (17, .getfield 13, 3, 0, []) (List.mem_of_getElem? (i := 12) rfl)) (j := 21) rfl rfl rfl (zM_P hMξ (List.mem_of_getElem? (i := 0) rfl)) ((zM_G hMξ (List.mem_of_getElem? (i := 0) rfl) 3).trans (zM_F hMξ (List.mem_of_getElem? (i := 1) rfl))) ?_
      refine zp_const (pc := 20) hx hb (zd_X12_runDay (20, .iconst 1, 1, 0, []) (List.mem_of_getElem? (i := 13) rfl)) rfl rfl ?_
      refine zp_ialdT (j := 1) (v := (w9ξ : Int)) (pc := 21) hx hb hwξ (zd_X12_runDay (21, .iaload, 1, 0, []) (List.mem_of_getElem? (i := 14) rfl)) zl_T59 rfl (zl_kd 1) (zM_P hMξ (List.mem_of_getElem? (i := 2) rfl)) (by omega) (show 1 < 5580 by omega) (((zM_G hMξ (List.mem_of_getElem? (i := 2) rfl) (2000 + 1)).trans (hVξ 3 (2000 + 1) (Or.inl (by decide)))).trans ((zc_dn_n (by omega)).trans hn1ξ)) (fun _ => ?_)
      refine zp_icmp (pc := 22) (tgt := 64) hx hb (zd_X12_runDay (22, .if_icmp .ge 42, 3, 0, []) (List.mem_of_getElem? (i := 15) rfl)) rfl (fun (hc347ξ : (w9ξ : Int) ≤ (w9ξ : Int)) => ?_) (fun (hc347ξ : ¬ ((w9ξ : Int) ≤ (w9ξ : Int))) => ?_)
      · refine zp_const (pc := 64) hx hb (zd_X12_runDay (64, .iconst 0, 1, 0, []) (List.mem_of_getElem? (i := 40) rfl)) rfl rfl ?_
        refine zp_store (L' := [(2, 0, 0), (1, 0, (zc_ct X w9ξ)), (0, 2, (A 0 : Int))]) (pc := 65) hx hb hnLξ (zd_X12_runDay (65, .istore_n 2, 1, 0, []) (List.mem_of_getElem? (i := 41) rfl)) rfl rfl rfl ?_
        refine zp_drop (L' := [(2, 0, 0), (1, 0, (zc_ct X w9ξ)), (0, 2, (A 0 : Int))]) (by simp) ?_
        exact loop2 npξ 0 M G (by omega) hMξ hVξ hSbξ
      · exfalso
        omega
    | succ r9ξ ih =>
      intro w9ξ M G hrξ hMξ hVξ hSbξ hx9ξ
      have hcbξ := zc_ctb (X := X) (w := w9ξ)
      have hxb9ξ := hXbξ w9ξ (by omega)
      refine zp_load (pc := 15) hx hb (zd_X12_runDay (15, .iload_n 2, 1, 0, []) (List.mem_of_getElem? (i := 10) rfl)) rfl (j := 0) rfl ?_
      refine zp_load (pc := 16) hx hb (zd_X12_runDay (16, .aload_n 0, 1, 0, []) (List.mem_of_getElem? (i := 11) rfl)) rfl (j := 2) rfl ?_
      refine zp_getf (n := (A 3 : Int)) (pc := 17) hx hb hEξ hwξ (zd_X12_runDay (17, .getfield 13, 3, 0, []) (List.mem_of_getElem? (i := 12) rfl)) (j := 21) rfl rfl rfl (zM_P hMξ (List.mem_of_getElem? (i := 0) rfl)) ((zM_G hMξ (List.mem_of_getElem? (i := 0) rfl) 3).trans (zM_F hMξ (List.mem_of_getElem? (i := 1) rfl))) ?_
      refine zp_const (pc := 20) hx hb (zd_X12_runDay (20, .iconst 1, 1, 0, []) (List.mem_of_getElem? (i := 13) rfl)) rfl rfl ?_
      refine zp_ialdT (j := 1) (v := (n1ξ : Int)) (pc := 21) hx hb hwξ (zd_X12_runDay (21, .iaload, 1, 0, []) (List.mem_of_getElem? (i := 14) rfl)) zl_T59 rfl (zl_kd 1) (zM_P hMξ (List.mem_of_getElem? (i := 2) rfl)) (by omega) (show 1 < 5580 by omega) (((zM_G hMξ (List.mem_of_getElem? (i := 2) rfl) (2000 + 1)).trans (hVξ 3 (2000 + 1) (Or.inl (by decide)))).trans ((zc_dn_n (by omega)).trans hn1ξ)) (fun _ => ?_)
      refine zp_icmp (pc := 22) (tgt := 64) hx hb (zd_X12_runDay (22, .if_icmp .ge 42, 3, 0, []) (List.mem_of_getElem? (i := 15) rfl)) rfl (fun (hc349ξ : (n1ξ : Int) ≤ (w9ξ : Int)) => ?_) (fun (hc349ξ : ¬ ((n1ξ : Int) ≤ (w9ξ : Int))) => ?_)
      · exfalso
        omega
      · refine zp_load (pc := 25) hx hb (zd_X12_runDay (25, .iload_n 1, 1, 0, []) (List.mem_of_getElem? (i := 16) rfl)) rfl (j := 1) rfl ?_
        refine zp_load (pc := 26) hx hb (zd_X12_runDay (26, .aload_n 0, 1, 0, []) (List.mem_of_getElem? (i := 17) rfl)) rfl (j := 2) rfl ?_
        refine zp_getf (n := (A 45 : Int)) (pc := 27) hx hb hEξ hwξ (zd_X12_runDay (27, .getfield 122, 3, 0, []) (List.mem_of_getElem? (i := 18) rfl)) (j := 63) rfl rfl rfl (zM_P hMξ (List.mem_of_getElem? (i := 0) rfl)) ((zM_G hMξ (List.mem_of_getElem? (i := 0) rfl) 45).trans (zM_F hMξ (List.mem_of_getElem? (i := 24) rfl))) ?_
        refine zp_load (pc := 30) hx hb (zd_X12_runDay (30, .iload_n 2, 1, 0, []) (List.mem_of_getElem? (i := 19) rfl)) rfl (j := 0) rfl ?_
        refine zp_iald (j := w9ξ) (v := (X.2 w9ξ)) (pc := 31) hx hb hwξ (zd_X12_runDay (31, .iaload, 1, 0, []) (List.mem_of_getElem? (i := 20) rfl)) (show zp_ia 1 82 = some (10, 0, 0, (-2147483648), 2147483647) from rfl) (zM_P hMξ (List.mem_of_getElem? (i := 25) rfl)) (by omega) (by omega) ((zM_G hMξ (List.mem_of_getElem? (i := 25) rfl) (2000 + w9ξ)).trans (hx9ξ w9ξ (by omega)).2) (fun hk350ξ => ?_)
        have hk350bξ := zp_int hk350ξ
        clear hk350ξ
        refine zp_const (pc := 32) hx hb (zd_X12_runDay (32, .iconst (-1), 1, 0, []) (List.mem_of_getElem? (i := 21) rfl)) rfl rfl ?_
        refine zp_icmp (pc := 33) (tgt := 40) hx hb (zd_X12_runDay (33, .if_icmp .eq 7, 3, 0, []) (List.mem_of_getElem? (i := 22) rfl)) rfl (fun (hc351ξ : (X.2 w9ξ) = (-1)) => ?_) (fun (hc351ξ : ¬ ((X.2 w9ξ) = (-1))) => ?_)
        · refine zp_const (pc := 40) hx hb (zd_X12_runDay (40, .iconst 0, 1, 0, []) (List.mem_of_getElem? (i := 25) rfl)) rfl rfl ?_
          refine zp_add (n := ((zc_ct X w9ξ) + 0)) (pc := 41) hx hb (zd_X12_runDay (41, .iadd, 1, 0, []) (List.mem_of_getElem? (i := 26) rfl)) (by omega) (zp_r0 (by omega) (by omega)) ?_
          refine zp_store (L' := [(1, 0, ((zc_ct X w9ξ) + 0)), (2, 0, (w9ξ : Int)), (0, 2, (A 0 : Int))]) (pc := 42) hx hb hnLξ (zd_X12_runDay (42, .istore_n 1, 1, 0, []) (List.mem_of_getElem? (i := 27) rfl)) rfl rfl rfl ?_
          refine zp_load (pc := 43) hx hb (zd_X12_runDay (43, .aload_n 0, 1, 0, []) (List.mem_of_getElem? (i := 28) rfl)) rfl (j := 2) rfl ?_
          refine zp_getf (n := (A 3 : Int)) (pc := 44) hx hb hEξ hwξ (zd_X12_runDay (44, .getfield 13, 3, 0, []) (List.mem_of_getElem? (i := 29) rfl)) (j := 21) rfl rfl rfl (zM_P hMξ (List.mem_of_getElem? (i := 0) rfl)) ((zM_G hMξ (List.mem_of_getElem? (i := 0) rfl) 3).trans (zM_F hMξ (List.mem_of_getElem? (i := 1) rfl))) ?_
          refine zp_const (pc := 47) hx hb (zd_X12_runDay (47, .bipush 29, 2, 0, []) (List.mem_of_getElem? (i := 30) rfl)) rfl rfl ?_
          refine zp_load (pc := 49) hx hb (zd_X12_runDay (49, .iload_n 2, 1, 0, []) (List.mem_of_getElem? (i := 31) rfl)) rfl (j := 1) rfl ?_
          refine zp_add (n := ((w9ξ : Int) + 29)) (pc := 50) hx hb (zd_X12_runDay (50, .iadd, 1, 0, []) (List.mem_of_getElem? (i := 32) rfl)) (by omega) (zp_r0 (by omega) (by omega)) ?_
          refine zp_load (pc := 51) hx hb (zd_X12_runDay (51, .aload_n 0, 1, 0, []) (List.mem_of_getElem? (i := 33) rfl)) rfl (j := 2) rfl ?_
          refine zp_getf (n := (A 44 : Int)) (pc := 52) hx hb hEξ hwξ (zd_X12_runDay (52, .getfield 119, 3, 0, []) (List.mem_of_getElem? (i := 34) rfl)) (j := 62) rfl rfl rfl (zM_P hMξ (List.mem_of_getElem? (i := 0) rfl)) ((zM_G hMξ (List.mem_of_getElem? (i := 0) rfl) 44).trans (zM_F hMξ (List.mem_of_getElem? (i := 23) rfl))) ?_
          refine zp_load (pc := 55) hx hb (zd_X12_runDay (55, .iload_n 2, 1, 0, []) (List.mem_of_getElem? (i := 35) rfl)) rfl (j := 1) rfl ?_
          refine zp_iald (j := w9ξ) (v := (X.1 w9ξ)) (pc := 56) hx hb hwξ (zd_X12_runDay (56, .iaload, 1, 0, []) (List.mem_of_getElem? (i := 36) rfl)) (show zp_ia 1 81 = some (10, 0, 0, (-2147483648), 2147483647) from rfl) (zM_P hMξ (List.mem_of_getElem? (i := 24) rfl)) (by omega) (by omega) ((zM_G hMξ (List.mem_of_getElem? (i := 24) rfl) (2000 + w9ξ)).trans (hx9ξ w9ξ (by omega)).1) (fun hk352ξ => ?_)
          have hk352bξ := zp_int hk352ξ
          clear hk352ξ
          refine zp_iastR (j := (w9ξ + 29)) (pc := 57) hx hb hwξ heffξ (zd_X12_runDay (57, .iastore, 1, 0, []) (List.mem_of_getElem? (i := 37) rfl)) (zM_P hMξ (List.mem_of_getElem? (i := 2) rfl)) (by omega) (show (w9ξ + 29) < 180 by omega) (zr_st (lo := (-2147483648)) (hi := 2147483647) (zr_d w9ξ (by omega)) (by omega) (by omega) (by omega) (by omega)) ⟨1002, rfl, zp_1002 (by omega)⟩ ?_
          refine zp_iinc (L' := [(2, 0, ((w9ξ : Int) + 1)), (1, 0, ((zc_ct X w9ξ) + 0)), (0, 2, (A 0 : Int))]) (n := ((w9ξ : Int) + 1)) (pc := 58) hx hb hnLξ (zd_X12_runDay (58, .iinc 2 1, 3, 0, []) (List.mem_of_getElem? (i := 38) rfl)) (j := 1) rfl (by omega) (zp_r0 (by omega) (by omega)) rfl rfl ?_
          refine zp_goto (tgt := 15) (pc := 61) hx hb (zd_X12_runDay (61, .goto (-46), 3, 0, []) (List.mem_of_getElem? (i := 39) rfl)) rfl ?_
          refine zp_drop (L' := [(2, 0, ((w9ξ : Int) + 1)), (1, 0, ((zc_ct X w9ξ) + 0)), (0, 2, (A 0 : Int))]) (by simp) ?_
          have hc9ξ : ((zc_ct X w9ξ) + 0) = zc_ct X (w9ξ + 1) := by
            rw [zc_ct]
            rw [if_pos (by omega)]
            all_goals first | rfl | omega
          rw [hc9ξ]
          exact ih (w9ξ + 1) (zp_set M 3 (2000 + (w9ξ + 29)) (X.1 w9ξ)) _ (by omega) (zM_setE hMξ (List.mem_of_getElem? (i := 2) rfl)) (zV_set hVξ) (zSb_set (by decide) hSbξ) (fun w hwξ => ⟨(zp_set_ne (Or.inl (by decide))).trans (hx9ξ w hwξ).1, (zp_set_ne (Or.inl (by decide))).trans (hx9ξ w hwξ).2⟩)
        · refine zp_const (pc := 36) hx hb (zd_X12_runDay (36, .iconst 1, 1, 0, []) (List.mem_of_getElem? (i := 23) rfl)) rfl rfl ?_
          refine zp_goto (tgt := 41) (pc := 37) hx hb (zd_X12_runDay (37, .goto 4, 3, 0, []) (List.mem_of_getElem? (i := 24) rfl)) rfl ?_
          refine zp_add (n := ((zc_ct X w9ξ) + 1)) (pc := 41) hx hb (zd_X12_runDay (41, .iadd, 1, 0, []) (List.mem_of_getElem? (i := 26) rfl)) (by omega) (zp_r0 (by omega) (by omega)) ?_
          refine zp_store (L' := [(1, 0, ((zc_ct X w9ξ) + 1)), (2, 0, (w9ξ : Int)), (0, 2, (A 0 : Int))]) (pc := 42) hx hb hnLξ (zd_X12_runDay (42, .istore_n 1, 1, 0, []) (List.mem_of_getElem? (i := 27) rfl)) rfl rfl rfl ?_
          refine zp_load (pc := 43) hx hb (zd_X12_runDay (43, .aload_n 0, 1, 0, []) (List.mem_of_getElem? (i := 28) rfl)) rfl (j := 2) rfl ?_
          refine zp_getf (n := (A 3 : Int)) (pc := 44) hx hb hEξ hwξ (zd_X12_runDay (44, .getfield 13, 3, 0, []) (List.mem_of_getElem? (i := 29) rfl)) (j := 21) rfl rfl rfl (zM_P hMξ (List.mem_of_getElem? (i := 0) rfl)) ((zM_G hMξ (List.mem_of_getElem? (i := 0) rfl) 3).trans (zM_F hMξ (List.mem_of_getElem? (i := 1) rfl))) ?_
          refine zp_const (pc := 47) hx hb (zd_X12_runDay (47, .bipush 29, 2, 0, []) (List.mem_of_getElem? (i := 30) rfl)) rfl rfl ?_
          refine zp_load (pc := 49) hx hb (zd_X12_runDay (49, .iload_n 2, 1, 0, []) (List.mem_of_getElem? (i := 31) rfl)) rfl (j := 1) rfl ?_
          refine zp_add (n := ((w9ξ : Int) + 29)) (pc := 50) hx hb (zd_X12_runDay (50, .iadd, 1, 0, []) (List.mem_of_getElem? (i := 32) rfl)) (by omega) (zp_r0 (by omega) (by omega)) ?_
          refine zp_load (pc := 51) hx hb (zd_X12_runDay (51, .aload_n 0, 1, 0, []) (List.mem_of_getElem? (i := 33) rfl)) rfl (j := 2) rfl ?_
          refine zp_getf (n := (A 44 : Int)) (pc := 52) hx hb hEξ hwξ (zd_X12_runDay (52, .getfield 119, 3, 0, []) (List.mem_of_getElem? (i := 34) rfl)) (j := 62) rfl rfl rfl (zM_P hMξ (List.mem_of_getElem? (i := 0) rfl)) ((zM_G hMξ (List.mem_of_getElem? (i := 0) rfl) 44).trans (zM_F hMξ (List.mem_of_getElem? (i := 23) rfl))) ?_
          refine zp_load (pc := 55) hx hb (zd_X12_runDay (55, .iload_n 2, 1, 0, []) (List.mem_of_getElem? (i := 35) rfl)) rfl (j := 1) rfl ?_
          refine zp_iald (j := w9ξ) (v := (X.1 w9ξ)) (pc := 56) hx hb hwξ (zd_X12_runDay (56, .iaload, 1, 0, []) (List.mem_of_getElem? (i := 36) rfl)) (show zp_ia 1 81 = some (10, 0, 0, (-2147483648), 2147483647) from rfl) (zM_P hMξ (List.mem_of_getElem? (i := 24) rfl)) (by omega) (by omega) ((zM_G hMξ (List.mem_of_getElem? (i := 24) rfl) (2000 + w9ξ)).trans (hx9ξ w9ξ (by omega)).1) (fun hk353ξ => ?_)
          have hk353bξ := zp_int hk353ξ
          clear hk353ξ
          refine zp_iastR (j := (w9ξ + 29)) (pc := 57) hx hb hwξ heffξ (zd_X12_runDay (57, .iastore, 1, 0, []) (List.mem_of_getElem? (i := 37) rfl)) (zM_P hMξ (List.mem_of_getElem? (i := 2) rfl)) (by omega) (show (w9ξ + 29) < 180 by omega) (zr_st (lo := (-2147483648)) (hi := 2147483647) (zr_d w9ξ (by omega)) (by omega) (by omega) (by omega) (by omega)) ⟨1002, rfl, zp_1002 (by omega)⟩ ?_
          refine zp_iinc (L' := [(2, 0, ((w9ξ : Int) + 1)), (1, 0, ((zc_ct X w9ξ) + 1)), (0, 2, (A 0 : Int))]) (n := ((w9ξ : Int) + 1)) (pc := 58) hx hb hnLξ (zd_X12_runDay (58, .iinc 2 1, 3, 0, []) (List.mem_of_getElem? (i := 38) rfl)) (j := 1) rfl (by omega) (zp_r0 (by omega) (by omega)) rfl rfl ?_
          refine zp_goto (tgt := 15) (pc := 61) hx hb (zd_X12_runDay (61, .goto (-46), 3, 0, []) (List.mem_of_getElem? (i := 39) rfl)) rfl ?_
          refine zp_drop (L' := [(2, 0, ((w9ξ : Int) + 1)), (1, 0, ((zc_ct X w9ξ) + 1)), (0, 2, (A 0 : Int))]) (by simp) ?_
          have hc9ξ : ((zc_ct X w9ξ) + 1) = zc_ct X (w9ξ + 1) := by
            rw [zc_ct]
            rw [if_neg (by omega)]
            all_goals first | rfl | omega
          rw [hc9ξ]
          exact ih (w9ξ + 1) (zp_set M 3 (2000 + (w9ξ + 29)) (X.1 w9ξ)) _ (by omega) (zM_setE hMξ (List.mem_of_getElem? (i := 2) rfl)) (zV_set hVξ) (zSb_set (by decide) hSbξ) (fun w hwξ => ⟨(zp_set_ne (Or.inl (by decide))).trans (hx9ξ w hwξ).1, (zp_set_ne (Or.inl (by decide))).trans (hx9ξ w hwξ).2⟩)
  refine zp_load (pc := 0) hx hb (zd_X12_runDay (0, .aload_n 0, 1, 0, []) (List.mem_of_getElem? (i := 0) rfl)) rfl (j := 0) rfl ?_
  refine zp_load (pc := 1) hx hb (zd_X12_runDay (1, .aload_n 0, 1, 0, []) (List.mem_of_getElem? (i := 1) rfl)) rfl (j := 0) rfl ?_
  refine zp_getf (n := (A 3 : Int)) (pc := 2) hx hb hEξ hwξ (zd_X12_runDay (2, .getfield 13, 3, 0, []) (List.mem_of_getElem? (i := 2) rfl)) (j := 21) rfl rfl rfl (zM_P hMξ (List.mem_of_getElem? (i := 0) rfl)) ((zM_G hMξ (List.mem_of_getElem? (i := 0) rfl) 3).trans (zM_F hMξ (List.mem_of_getElem? (i := 1) rfl))) ?_
  refine zp_const (pc := 5) hx hb (zd_X12_runDay (5, .bipush 10, 2, 0, []) (List.mem_of_getElem? (i := 3) rfl)) rfl rfl ?_
  refine zp_ialdT (j := 10) (v := (V 3 (2000 + 10))) (pc := 7) hx hb hwξ (zd_X12_runDay (7, .iaload, 1, 0, []) (List.mem_of_getElem? (i := 4) rfl)) zl_T59 rfl (zl_kd 10) (zM_P hMξ (List.mem_of_getElem? (i := 2) rfl)) (by omega) (show 10 < 5580 by omega) (((zM_G hMξ (List.mem_of_getElem? (i := 2) rfl) (2000 + 10)).trans (hVξ 3 (2000 + 10) (Or.inl (by decide)))).trans rfl) (fun _ => ?_)
  refine zp_call (pc := 8) (how := 0) (idx := 457) (mi := 248) (S := []) hx hb hEξ hwξ heffξ hrmξ (zX_lay hWξ A M n1ξ npξ (zRw V) Lwξ) rfl (j := 47) rfl rfl (by decide +kernel) (zd_X12_runDay (8, .invokevirtual 457, 3, 0, []) (List.mem_of_getElem? (i := 5) rfl)) [(A 0 : Int), (V 3 (2000 + 10))] rfl ⟨zp_o2 (zM_P hMξ (List.mem_of_getElem? (i := 0) rfl)), zp_o0 (by omega) (by omega) (by omega) (by omega), trivial⟩ (Nat.le_of_ble_eq_true rfl) ⟨hMξ, rfl, (hVξ 0 47 (Or.inr (by decide))).trans h47ξ, (hVξ 0 20 (Or.inr (by decide))).trans hLVξ.2.2.2.2, hDkξ, fun j => hVξ 3 _ (Or.inl (by decide)), hLVξ.1, hLVξ.2.1, hLVξ.2.2.1, hSbξ, ht0ξ, ht12ξ⟩ (fun al halξ rnl Pl Gl hextlξ hfrlξ hoklξ hcslξ hpsilξ => ?_)
  obtain rfl := List.mem_singleton.mp halξ
  obtain ⟨hPelξ, Ml, hMlξ, htlξ⟩ := hpsilξ
  subst hPelξ
  obtain ⟨hNlξ, hSlξ, hDlξ, hxlξ⟩ := htlξ
  refine zp_const (pc := 11) hx hb (zd_X12_runDay (11, .iconst 0, 1, 0, []) (List.mem_of_getElem? (i := 6) rfl)) rfl rfl ?_
  refine zp_store (L' := [(1, 0, 0), (0, 2, (A 0 : Int))]) (pc := 12) hx hb hnLξ (zd_X12_runDay (12, .istore_n 1, 1, 0, []) (List.mem_of_getElem? (i := 7) rfl)) rfl rfl rfl ?_
  refine zp_const (pc := 13) hx hb (zd_X12_runDay (13, .iconst 0, 1, 0, []) (List.mem_of_getElem? (i := 8) rfl)) rfl rfl ?_
  refine zp_store (L' := [(2, 0, 0), (1, 0, 0), (0, 2, (A 0 : Int))]) (pc := 14) hx hb hnLξ (zd_X12_runDay (14, .istore_n 2, 1, 0, []) (List.mem_of_getElem? (i := 9) rfl)) rfl rfl rfl ?_
  refine zp_drop (L' := [(2, 0, 0), (1, 0, 0), (0, 2, (A 0 : Int))]) (by simp) ?_
  exact loop1 n1ξ 0 Ml Gl (by omega) hMlξ (fun o k hkξ => (hNlξ o k hkξ).trans (hVξ o k hkξ)) hSlξ (by rw [hXξ]; exact hxlξ)
theorem zd_ok_c {R R' : Nat → Int} {n npξ : Nat} (h : ∀ j, R' j = R j) (hdξ : zd_ok R n npξ) : zd_ok R' n npξ := by
  rw [show R' = R from funext h]
  exact hdξ
noncomputable def zf_rnn (V : Nat → Nat → Int) (nuξ n1ξ npξ : Nat) (Lwξ : List yK) : Int × (Nat → Nat → Int) := if (V 3 (2000 + 10)) = (-1) then ((-3), V) else if ¬ (V 3 (2000 + 5)) = 999 then (((zf_rud (zT_rem V 2 nuξ) n1ξ npξ Lwξ).1), (zf_rud (zT_rem V 2 nuξ) n1ξ npξ Lwξ).2) else ((-3), V)
noncomputable def zK_rnn : zk_K := (zt_mn 283, prog_14_method_104_code, 1, (Option.some Jvm.ClassFile.FieldType.int), 1, 12, [(2, 13, 0, 0)], [(some (0, 0, (-2147483648), 2147483647), [])], zUE, (7, 420, 0, 0))
noncomputable def zφ_rnn (A : Nat → Nat) (V : Nat → Nat → Int) (nuξ n1ξ npξ : Nat) (Lwξ : List yK) : (Nat → Option Nat) → (Nat → Nat → Int) → List Int → Prop := fun P G ps => zMVr A V P G ∧ ps.getD 0 0 = (A 0 : Int) ∧ zLV V Lwξ ∧ V 0 8 = (nuξ : Int) ∧ nuξ ≤ 16 ∧ zd_ok (zRw V) n1ξ npξ ∧ V 0 47 = -1 ∧ (-1 ≤ V 3 (2000 + 10) ∧ V 3 (2000 + 10) ≤ 12) ∧ (0 ≤ V 3 (2000 + 5) ∧ V 3 (2000 + 5) ≤ 999) ∧ (∀ p, p < npξ → 0 ≤ V 3 (2000 + (3 * p + 11)) ∧ V 3 (2000 + (3 * p + 11)) ≤ 9)
noncomputable def zψ_rnn (A : Nat → Nat) (V : Nat → Nat → Int) (nuξ n1ξ npξ : Nat) (Lwξ : List yK) : (Nat → Option Nat) → (Nat → Nat → Int) → List Int → (Nat → Option Nat) → (Nat → Nat → Int) → Int → Prop := fun P G ps P' G' rn => P' = P ∧ zMVr A (zf_rnn V nuξ n1ξ npξ Lwξ).2 P' G' ∧ rn = (zf_rnn V nuξ n1ξ npξ Lwξ).1
theorem zX_rnn {l : Launch} {w : zk_W} (hWξ : zh_W w) (A : Nat → Nat) (V : Nat → Nat → Int) (nuξ n1ξ npξ : Nat) (Lwξ : List yK) : zk_metX l w zt_dv zt_TB zK_rnn (zp_A (zφ_rnn A V nuξ n1ξ npξ Lwξ)) (zp_B (zψ_rnn A V nuξ n1ξ npξ Lwξ)) ∧ zk_cok w zt_TB zK_rnn := by
  refine zp_methX (cn := "WoundTownModel") zp_lkall hWξ (pl := 1986) rfl (by decide +kernel) (fun p e R s m args below meth c Q u hx hb hEξ hQξ hU5ξ heffξ hnLξ hokξ hφ => ?_)
  have hwξ := hWξ.1
  obtain ⟨p0ξ, hpsξ, tk0⟩ := zp_ps1 hokξ
  have hrmξ : zk_Kr (zk_ev (zt_types, zp_lk, zt_dv, [], [], zp_lc, zK_rnn)) = zk_Kr zK_rnn := rfl
  rw [hpsξ] at hφ ⊢
  have hφ : zMVr A V u.1 (zp_n u.2.1) ∧ p0ξ = (A 0 : Int) ∧ zLV V Lwξ ∧ V 0 8 = (nuξ : Int) ∧ nuξ ≤ 16 ∧ zd_ok (zRw V) n1ξ npξ ∧ V 0 47 = -1 ∧ (-1 ≤ V 3 (2000 + 10) ∧ V 3 (2000 + 10) ≤ 12) ∧ (0 ≤ V 3 (2000 + 5) ∧ V 3 (2000 + 5) ≤ 999) ∧ (∀ p, p < npξ → 0 ≤ V 3 (2000 + (3 * p + 11)) ∧ V 3 (2000 + (3 * p + 11)) ≤ 9) := hφ
  obtain ⟨⟨M, hMξ, hVξ, hSbξ⟩, rfl, hLVξ, h8ξ, hn16ξ, hDξ, h47ξ, ⟨ht0ξ, ht12ξ⟩, ⟨hd0ξ, hd9ξ⟩, hOilξ⟩ := hφ
  show zp_J p l e R s m args below meth c Q w u [] 0 [(0, 2, (A 0 : Int))] [] u.1 (zp_n u.2.1)
  have hd1ξ := hd0ξ
  refine zp_load (pc := 0) hx hb (zd_X12_runNow (0, .aload_n 0, 1, 0, []) (List.mem_of_getElem? (i := 0) rfl)) rfl (j := 0) rfl ?_
  refine zp_getf (n := (A 3 : Int)) (pc := 1) hx hb hEξ hwξ (zd_X12_runNow (1, .getfield 13, 3, 0, []) (List.mem_of_getElem? (i := 1) rfl)) (j := 21) rfl rfl rfl (zM_P hMξ (List.mem_of_getElem? (i := 0) rfl)) ((zM_G hMξ (List.mem_of_getElem? (i := 0) rfl) 3).trans (zM_F hMξ (List.mem_of_getElem? (i := 1) rfl))) ?_
  refine zp_const (pc := 4) hx hb (zd_X12_runNow (4, .bipush 10, 2, 0, []) (List.mem_of_getElem? (i := 2) rfl)) rfl rfl ?_
  refine zp_ialdT (j := 10) (v := (V 3 (2000 + 10))) (pc := 6) hx hb hwξ (zd_X12_runNow (6, .iaload, 1, 0, []) (List.mem_of_getElem? (i := 3) rfl)) zl_T59 rfl (zl_kd 10) (zM_P hMξ (List.mem_of_getElem? (i := 2) rfl)) (by omega) (show 10 < 5580 by omega) ((zM_G hMξ (List.mem_of_getElem? (i := 2) rfl) (2000 + 10)).trans (hVξ 3 (2000 + 10) (Or.inl (by decide)))) (fun _ => ?_)
  have hr356ξ := hLVξ.1 10 (by omega)
  refine zp_const (pc := 7) hx hb (zd_X12_runNow (7, .iconst (-1), 1, 0, []) (List.mem_of_getElem? (i := 4) rfl)) rfl rfl ?_
  refine zp_icmp (pc := 8) (tgt := 21) hx hb (zd_X12_runNow (8, .if_icmp .eq 13, 3, 0, []) (List.mem_of_getElem? (i := 5) rfl)) rfl (fun (hc357ξ : (V 3 (2000 + 10)) = (-1)) => ?_) (fun (hc357ξ : ¬ ((V 3 (2000 + 10)) = (-1))) => ?_)
  · refine zp_const (pc := 21) hx hb (zd_X12_runNow (21, .bipush (-3), 2, 0, []) (List.mem_of_getElem? (i := 10) rfl)) rfl rfl ?_
    refine zp_iret (pc := 23) (n := (-3)) hx hb hEξ hQξ hU5ξ rfl (by decide) (zd_X12_runNow (23, .ireturn, 1, 0, []) (List.mem_of_getElem? (i := 11) rfl)) (j := 0) rfl (zp_o0 (by omega) (by omega) (by omega) (by omega)) ?_
    rw [hpsξ]
    refine ⟨rfl, ?_⟩
    have hffξ : zf_rnn V nuξ n1ξ npξ Lwξ = ((-3), V) := by
      unfold zf_rnn
      rw [if_pos hc357ξ]
    show zMVr A (zf_rnn V nuξ n1ξ npξ Lwξ).2 u.1 (zp_n u.2.1) ∧ (-3) = (zf_rnn V nuξ n1ξ npξ Lwξ).1
    rw [hffξ]
    exact ⟨⟨M, hMξ, hVξ, hSbξ⟩, rfl⟩
  · refine zp_load (pc := 11) hx hb (zd_X12_runNow (11, .aload_n 0, 1, 0, []) (List.mem_of_getElem? (i := 6) rfl)) rfl (j := 0) rfl ?_
    have hr359ξ := hLVξ.1 5 (by omega)
    refine zp_call (pc := 12) (how := 0) (idx := 411) (mi := 241) (S := []) hx hb hEξ hwξ heffξ hrmξ (zX_toda hWξ A M) rfl (j := 41) rfl rfl (by decide +kernel) (zd_X12_runNow (12, .invokevirtual 411, 3, 0, []) (List.mem_of_getElem? (i := 7) rfl)) [(A 0 : Int)] rfl ⟨zp_o2 (zM_P hMξ (List.mem_of_getElem? (i := 0) rfl)), trivial⟩ (Nat.le_of_ble_eq_true rfl) ⟨hMξ, rfl, (show -2147483648 ≤ M 3 (2000 + 5) ∧ M 3 (2000 + 5) ≤ 2147483647 by rw [(hVξ 3 (2000 + 5) (Or.inl (by decide)))]; omega)⟩ (fun al halξ rnd358ξ Pd358 Gd358 hextd358ξ hfrd358ξ hokd358ξ hcsd358ξ hpsid358ξ => ?_)
    obtain rfl := List.mem_singleton.mp halξ
    have hrd358ξ := zp_int (hokd358ξ _ rfl).1
    obtain ⟨hPed358ξ, hGed358ξ, htd358ξ⟩ := hpsid358ξ
    rw [hPed358ξ, hGed358ξ]
    clear hextd358ξ hfrd358ξ hcsd358ξ hPed358ξ hGed358ξ
    have htd358ξ : rnd358ξ = (V 3 (2000 + 5)) := (Eq.trans htd358ξ) ((hVξ 3 (2000 + 5) (Or.inl (by decide))))
    have htd358ξ := (Eq.symm htd358ξ)
    subst htd358ξ
    refine zp_const (pc := 15) hx hb (zd_X12_runNow (15, .sipush 999, 3, 0, []) (List.mem_of_getElem? (i := 8) rfl)) rfl rfl ?_
    refine zp_icmp (pc := 18) (tgt := 24) hx hb (zd_X12_runNow (18, .if_icmp .ne 6, 3, 0, []) (List.mem_of_getElem? (i := 9) rfl)) rfl (fun (hc360ξ : ¬ (V 3 (2000 + 5)) = 999) => ?_) (fun (hc360ξ : ¬ (¬ (V 3 (2000 + 5)) = 999)) => ?_)
    · refine zp_load (pc := 24) hx hb (zd_X12_runNow (24, .aload_n 0, 1, 0, []) (List.mem_of_getElem? (i := 12) rfl)) rfl (j := 0) rfl ?_
      refine zp_const (pc := 25) hx hb (zd_X12_runNow (25, .iconst 2, 1, 0, []) (List.mem_of_getElem? (i := 13) rfl)) rfl rfl ?_
      refine zp_call (pc := 26) (how := 0) (idx := 496) (mi := 277) (S := []) hx hb hEξ hwξ heffξ hrmξ (zX_rem hWξ A V nuξ) rfl (j := 62) rfl rfl (by decide +kernel) (zd_X12_runNow (26, .invokevirtual 496, 3, 0, []) (List.mem_of_getElem? (i := 14) rfl)) [(A 0 : Int), 2] rfl ⟨zp_o2 (zM_P hMξ (List.mem_of_getElem? (i := 0) rfl)), zp_o0 (by decide) (by decide) (by decide) (by decide), trivial⟩ (Nat.le_of_ble_eq_true rfl) ⟨⟨M, hMξ, hVξ, hSbξ⟩, rfl, (Eq.trans rfl h8ξ), by omega⟩ (fun al halξ rnr361ξ Pr361 Gr361 hextr361ξ hfrr361ξ hokr361ξ hcsr361ξ hpsir361ξ => ?_)
      obtain rfl := List.mem_singleton.mp halξ
      obtain ⟨hPer361ξ, Mr361, hMr361ξ, hVr361ξ, hSbr361ξ⟩ := hpsir361ξ
      subst hPer361ξ
      clear hextr361ξ hfrr361ξ hcsr361ξ hokr361ξ
      have hVr361ξ : ∀ o k, zNs o k → Mr361 o k = (zT_rem V 2 nuξ) o k := hVr361ξ
      refine zp_load (pc := 29) hx hb (zd_X12_runNow (29, .aload_n 0, 1, 0, []) (List.mem_of_getElem? (i := 15) rfl)) rfl (j := 0) rfl ?_
      refine zp_call (pc := 30) (how := 0) (idx := 511) (mi := 284) (S := []) hx hb hEξ hwξ heffξ hrmξ (zX_rud hWξ A (zT_rem V 2 nuξ) n1ξ npξ Lwξ) rfl (j := 67) rfl rfl (by decide +kernel) (zd_X12_runNow (30, .invokevirtual 511, 3, 0, []) (List.mem_of_getElem? (i := 16) rfl)) [(A 0 : Int)] rfl ⟨zp_o2 (zM_P hMr361ξ (List.mem_of_getElem? (i := 0) rfl)), trivial⟩ (Nat.le_of_ble_eq_true rfl) ⟨⟨Mr361, hMr361ξ, hVr361ξ, hSbr361ξ⟩, rfl, (zLV_rem hLVξ), zd_ok_c (fun j => zT_rem_3) hDξ, (zT_rem_0 (by decide)).trans h47ξ, (by rw [zT_rem_3]; omega), (by rw [zT_rem_3]; omega), fun p hpξ => by rw [zT_rem_3]; exact hOilξ p hpξ⟩ (fun al halξ rnu362ξ Pu362 Gu362 hextu362ξ hfru362ξ hoku362ξ hcsu362ξ hpsiu362ξ => ?_)
      obtain rfl := List.mem_singleton.mp halξ
      have hru362ξ := zp_int (hoku362ξ _ rfl).1
      obtain ⟨hPeu362ξ, ⟨Mu362, hMu362ξ, hVu362ξ, hSbu362ξ⟩, htu362ξ⟩ := hpsiu362ξ
      subst hPeu362ξ
      clear hextu362ξ hfru362ξ hcsu362ξ hoku362ξ
      have hVu362ξ : ∀ o k, zNs o k → Mu362 o k = (zf_rud (zT_rem V 2 nuξ) n1ξ npξ Lwξ).2 o k := hVu362ξ
      have htu362ξ : rnu362ξ = ((zf_rud (zT_rem V 2 nuξ) n1ξ npξ Lwξ).1) := htu362ξ
      have htu362ξ := (Eq.symm htu362ξ)
      subst htu362ξ
      refine zp_iret (pc := 33) (n := ((zf_rud (zT_rem V 2 nuξ) n1ξ npξ Lwξ).1)) hx hb hEξ hQξ hU5ξ rfl (by decide) (zd_X12_runNow (33, .ireturn, 1, 0, []) (List.mem_of_getElem? (i := 17) rfl)) (j := 0) rfl (zp_o0 (by omega) (by omega) (by omega) (by omega)) ?_
      rw [hpsξ]
      refine ⟨rfl, ?_⟩
      have hffξ : zf_rnn V nuξ n1ξ npξ Lwξ = (((zf_rud (zT_rem V 2 nuξ) n1ξ npξ Lwξ).1), (zf_rud (zT_rem V 2 nuξ) n1ξ npξ Lwξ).2) := by
        unfold zf_rnn
        rw [if_neg hc357ξ, if_pos hc360ξ]
      show zMVr A (zf_rnn V nuξ n1ξ npξ Lwξ).2 u.1 Gu362 ∧ ((zf_rud (zT_rem V 2 nuξ) n1ξ npξ Lwξ).1) = (zf_rnn V nuξ n1ξ npξ Lwξ).1
      rw [hffξ]
      exact ⟨⟨Mu362, hMu362ξ, hVu362ξ, hSbu362ξ⟩, rfl⟩
    · refine zp_const (pc := 21) hx hb (zd_X12_runNow (21, .bipush (-3), 2, 0, []) (List.mem_of_getElem? (i := 10) rfl)) rfl rfl ?_
      refine zp_iret (pc := 23) (n := (-3)) hx hb hEξ hQξ hU5ξ rfl (by decide) (zd_X12_runNow (23, .ireturn, 1, 0, []) (List.mem_of_getElem? (i := 11) rfl)) (j := 0) rfl (zp_o0 (by omega) (by omega) (by omega) (by omega)) ?_
      rw [hpsξ]
      refine ⟨rfl, ?_⟩
      have hffξ : zf_rnn V nuξ n1ξ npξ Lwξ = ((-3), V) := by
        unfold zf_rnn
        rw [if_neg hc357ξ, if_neg hc360ξ]
      show zMVr A (zf_rnn V nuξ n1ξ npξ Lwξ).2 u.1 (zp_n u.2.1) ∧ (-3) = (zf_rnn V nuξ n1ξ npξ Lwξ).1
      rw [hffξ]
      exact ⟨⟨M, hMξ, hVξ, hSbξ⟩, rfl⟩
theorem zf_wnn_b {V : Nat → Nat → Int} {nuξ : Nat} {L : List yK} {t : Int} : -3 ≤ (zf_wnn V nuξ L t).1 ∧ (zf_wnn V nuξ L t).1 ≤ 9999 := by
  unfold zf_wnn
  repeat' split
  all_goals first | (rw [zf_wea_8]; omega) | (dsimp only; rw [zf_wea_8]; omega) | (dsimp only; omega)
theorem zf_mnn_b {V : Nat → Nat → Int} {nuξ : Nat} {t : Int} : -3 ≤ (zf_mnn V nuξ t).1 ∧ (zf_mnn V nuξ t).1 ≤ 9999 := by
  unfold zf_mnn
  repeat' split
  all_goals (dsimp only; omega)
theorem zf_kyn_b {V : Nat → Nat → Int} {nuξ npξ : Nat} {L : List yK} {p t : Int} (h : ∀ p, p < npξ → 0 ≤ V 3 (2000 + (3 * p + 13)) ∧ V 3 (2000 + (3 * p + 13)) ≤ 9) : -3 ≤ (zf_kyn V nuξ npξ L p t).1 ∧ (zf_kyn V nuξ npξ L p t).1 ≤ 9 := by
  unfold zf_kyn
  by_cases h1ξ : 1 ≤ t ∧ t ≤ 9
  · rw [if_pos h1ξ]
    by_cases h2ξ : 0 ≤ p ∧ p < (npξ : Int)
    · rw [if_pos h2ξ]
      have := h p.toNat (by omega)
      repeat' split
      all_goals (dsimp only; omega)
    · rw [if_neg h2ξ]
      dsimp only
      omega
  · rw [if_neg h1ξ]
    dsimp only
    omega
theorem zf_rnn_b {V : Nat → Nat → Int} {nuξ n npξ : Nat} {L : List yK} (hnξ : n ≤ 10) : -3 ≤ (zf_rnn V nuξ n npξ L).1 ∧ (zf_rnn V nuξ n npξ L).1 ≤ 10 := by
  have := zc_ctb (X := zd_X (zT_rem V 2 nuξ) n npξ L (zT_rem V 2 nuξ 3 (2000 + 10))) (w := n)
  unfold zf_rnn
  repeat' split
  all_goals first | (dsimp only; omega) | (show -3 ≤ zc_ct _ n ∧ zc_ct _ n ≤ 10; omega)
noncomputable def zf_win (V : Nat → Nat → Int) (nuξ : Nat) (Lwξ : List yK) (p1ξ : Int) : Int × (Nat → Nat → Int) := (((zf_wnn (zp_set V 0 0 0) nuξ Lwξ p1ξ).1), (zT_tell (zf_wnn (zp_set V 0 0 0) nuξ Lwξ p1ξ).2 ((zf_wnn (zp_set V 0 0 0) nuξ Lwξ p1ξ).1)))
noncomputable def zK_win : zk_K := (zt_mn 275, prog_14_method_100_code, 2, (Option.some Jvm.ClassFile.FieldType.int), 1, 12, [(2, 13, 0, 0), (0, 0, (-2147483648), 2147483647)], [(some (0, 0, (-2147483648), 2147483647), [])], zUE, (7, 400, 0, 0))
noncomputable def zφ_win (A : Nat → Nat) (V : Nat → Nat → Int) (nuξ : Nat) (Lwξ : List yK) : (Nat → Option Nat) → (Nat → Nat → Int) → List Int → Prop := fun P G ps => zMVr A V P G ∧ ps.getD 0 0 = (A 0 : Int) ∧ zLV V Lwξ ∧ V 0 8 = (nuξ : Int) ∧ nuξ ≤ 16 ∧ 0 ≤ V 3 (2000 + 5)
noncomputable def zψ_win (A : Nat → Nat) (V : Nat → Nat → Int) (nuξ : Nat) (Lwξ : List yK) : (Nat → Option Nat) → (Nat → Nat → Int) → List Int → (Nat → Option Nat) → (Nat → Nat → Int) → Int → Prop := fun P G ps P' G' rn => P' = P ∧ zMVr A (zf_win V nuξ Lwξ (ps.getD 1 0)).2 P' G' ∧ rn = (zf_win V nuξ Lwξ (ps.getD 1 0)).1
theorem zX_win {l : Launch} {w : zk_W} (hWξ : zh_W w) (A : Nat → Nat) (V : Nat → Nat → Int) (nuξ : Nat) (Lwξ : List yK) : zk_metX l w zt_dv zt_TB zK_win (zp_A (zφ_win A V nuξ Lwξ)) (zp_B (zψ_win A V nuξ Lwξ)) ∧ zk_cok w zt_TB zK_win := by
  refine zp_methX (cn := "WoundTownModel") zp_lkall hWξ (pl := 1954) rfl (by decide +kernel) (fun p e R s m args below meth c Q u hx hb hEξ hQξ hU5ξ heffξ hnLξ hokξ hφ => ?_)
  have hwξ := hWξ.1
  obtain ⟨p0ξ, p1ξ, hpsξ, tk0, tk1⟩ := zp_ps2 hokξ
  have hrmξ : zk_Kr (zk_ev (zt_types, zp_lk, zt_dv, [], [], zp_lc, zK_win)) = zk_Kr zK_win := rfl
  rw [hpsξ] at hφ ⊢
  have hφ : zMVr A V u.1 (zp_n u.2.1) ∧ p0ξ = (A 0 : Int) ∧ zLV V Lwξ ∧ V 0 8 = (nuξ : Int) ∧ nuξ ≤ 16 ∧ 0 ≤ V 3 (2000 + 5) := hφ
  obtain ⟨⟨M, hMξ, hVξ, hSbξ⟩, rfl, hLVξ, h8ξ, hn16ξ, hd0ξ⟩ := hφ
  have hi1ξ := zp_int tk1
  show zp_J p l e R s m args below meth c Q w u [] 0 [(0, 2, (A 0 : Int)), (1, 0, p1ξ)] [] u.1 (zp_n u.2.1)
  refine zp_load (pc := 0) hx hb (zd_X12_wind (0, .aload_n 0, 1, 0, []) (List.mem_of_getElem? (i := 0) rfl)) rfl (j := 0) rfl ?_
  refine zp_const (pc := 1) hx hb (zd_X12_wind (1, .iconst 0, 1, 0, []) (List.mem_of_getElem? (i := 1) rfl)) rfl rfl ?_
  refine zp_putf (pc := 2) hx hb hEξ hwξ heffξ (zd_X12_wind (2, .putfield 161, 3, 0, []) (List.mem_of_getElem? (i := 2) rfl)) (j := 18) rfl rfl rfl (zM_P hMξ (List.mem_of_getElem? (i := 0) rfl)) (zp_o0 (by decide) (by decide) (by decide) (by decide)) ?_
  refine zp_load (pc := 5) hx hb (zd_X12_wind (5, .aload_n 0, 1, 0, []) (List.mem_of_getElem? (i := 3) rfl)) rfl (j := 0) rfl ?_
  refine zp_load (pc := 6) hx hb (zd_X12_wind (6, .aload_n 0, 1, 0, []) (List.mem_of_getElem? (i := 4) rfl)) rfl (j := 0) rfl ?_
  refine zp_load (pc := 7) hx hb (zd_X12_wind (7, .iload_n 1, 1, 0, []) (List.mem_of_getElem? (i := 5) rfl)) rfl (j := 1) rfl ?_
  refine zp_call (pc := 8) (how := 0) (idx := 502) (mi := 276) (S := [(2, (A 0 : Int))]) hx hb hEξ hwξ heffξ hrmξ (zX_wnn hWξ A (zp_set V 0 0 0) nuξ Lwξ) rfl (j := 61) rfl rfl (by decide +kernel) (zd_X12_wind (8, .invokevirtual 502, 3, 0, []) (List.mem_of_getElem? (i := 6) rfl)) [(A 0 : Int), p1ξ] rfl ⟨zp_o2 (zM_P hMξ (List.mem_of_getElem? (i := 0) rfl)), zp_o0 (by omega) (by omega) (by omega) (by omega), trivial⟩ (Nat.le_of_ble_eq_true rfl) ⟨⟨(zp_set M 0 0 0), (zM_set hMξ (List.mem_of_getElem? (i := 0) rfl) (by decide)), (zV_set hVξ), (zSb_set (by decide) hSbξ)⟩, rfl, (zLV_o (by decide) (Or.inr (by decide)) hLVξ), ((zp_set_ne (Or.inr (by decide))).trans ((Eq.trans rfl h8ξ))), by omega, (by rw [zp_set_ne (Or.inl (by decide))]; exact hd0ξ)⟩ (fun al halξ rnm363ξ Pm363 Gm363 hextm363ξ hfrm363ξ hokm363ξ hcsm363ξ hpsim363ξ => ?_)
  obtain rfl := List.mem_singleton.mp halξ
  have hrm363ξ := zp_int (hokm363ξ _ rfl).1
  obtain ⟨hPem363ξ, ⟨Mm363, hMm363ξ, hVm363ξ, hSbm363ξ⟩, htm363ξ⟩ := hpsim363ξ
  subst hPem363ξ
  clear hextm363ξ hfrm363ξ hcsm363ξ hokm363ξ
  have hVm363ξ : ∀ o k, zNs o k → Mm363 o k = (zf_wnn (zp_set V 0 0 0) nuξ Lwξ p1ξ).2 o k := hVm363ξ
  have htm363ξ : rnm363ξ = ((zf_wnn (zp_set V 0 0 0) nuξ Lwξ p1ξ).1) := htm363ξ
  have htm363ξ := (Eq.symm htm363ξ)
  subst htm363ξ
  have hbm363ξ : -3 ≤ ((zf_wnn (zp_set V 0 0 0) nuξ Lwξ p1ξ).1) ∧ ((zf_wnn (zp_set V 0 0 0) nuξ Lwξ p1ξ).1) ≤ 9999 := zf_wnn_b
  refine zp_call (pc := 11) (how := 0) (idx := 170) (mi := 183) (S := []) hx hb hEξ hwξ heffξ hrmξ (zX_tll hWξ A (zf_wnn (zp_set V 0 0 0) nuξ Lwξ p1ξ).2) rfl (j := 0) rfl rfl (by decide +kernel) (zd_X12_wind (11, .invokevirtual 170, 3, 0, []) (List.mem_of_getElem? (i := 7) rfl)) [(A 0 : Int), ((zf_wnn (zp_set V 0 0 0) nuξ Lwξ p1ξ).1)] rfl ⟨zp_o2 (zM_P hMm363ξ (List.mem_of_getElem? (i := 0) rfl)), zp_o0 (by omega) (by omega) (by omega) (by omega), trivial⟩ (Nat.le_of_ble_eq_true rfl) ⟨⟨Mm363, hMm363ξ, hVm363ξ, hSbm363ξ⟩, rfl, (show -6 ≤ ((zf_wnn (zp_set V 0 0 0) nuξ Lwξ p1ξ).1) by omega)⟩ (fun al halξ rnt364ξ Pt364 Gt364 hextt364ξ hfrt364ξ hokt364ξ hcst364ξ hpsit364ξ => ?_)
  obtain rfl := List.mem_singleton.mp halξ
  have hrt364ξ := zp_int (hokt364ξ _ rfl).1
  obtain ⟨hPet364ξ, ⟨Mt364, hMt364ξ, hVt364ξ, hSbt364ξ⟩, htt364ξ⟩ := hpsit364ξ
  subst hPet364ξ
  clear hextt364ξ hfrt364ξ hcst364ξ hokt364ξ
  have hVt364ξ : ∀ o k, zNs o k → Mt364 o k = (zT_tell (zf_wnn (zp_set V 0 0 0) nuξ Lwξ p1ξ).2 ((zf_wnn (zp_set V 0 0 0) nuξ Lwξ p1ξ).1)) o k := hVt364ξ
  have htt364ξ : rnt364ξ = ((zf_wnn (zp_set V 0 0 0) nuξ Lwξ p1ξ).1) := htt364ξ
  have htt364ξ := (Eq.symm htt364ξ)
  subst htt364ξ
  refine zp_iret (pc := 14) (n := ((zf_wnn (zp_set V 0 0 0) nuξ Lwξ p1ξ).1)) hx hb hEξ hQξ hU5ξ rfl (by decide) (zd_X12_wind (14, .ireturn, 1, 0, []) (List.mem_of_getElem? (i := 8) rfl)) (j := 0) rfl (zp_o0 (by omega) (by omega) (by omega) (by omega)) ?_
  rw [hpsξ]
  refine ⟨rfl, ?_⟩
  have hffξ : zf_win V nuξ Lwξ p1ξ = (((zf_wnn (zp_set V 0 0 0) nuξ Lwξ p1ξ).1), (zT_tell (zf_wnn (zp_set V 0 0 0) nuξ Lwξ p1ξ).2 ((zf_wnn (zp_set V 0 0 0) nuξ Lwξ p1ξ).1))) := rfl
  show zMVr A (zf_win V nuξ Lwξ p1ξ).2 u.1 Gt364 ∧ ((zf_wnn (zp_set V 0 0 0) nuξ Lwξ p1ξ).1) = (zf_win V nuξ Lwξ p1ξ).1
  rw [hffξ]
  exact ⟨⟨Mt364, hMt364ξ, hVt364ξ, hSbt364ξ⟩, rfl⟩
noncomputable def zf_men (V : Nat → Nat → Int) (nuξ : Nat) (p1ξ : Int) : Int × (Nat → Nat → Int) := (((zf_mnn (zp_set V 0 0 0) nuξ p1ξ).1), (zT_tell (zf_mnn (zp_set V 0 0 0) nuξ p1ξ).2 ((zf_mnn (zp_set V 0 0 0) nuξ p1ξ).1)))
noncomputable def zK_men : zk_K := (zt_mn 285, prog_14_method_107_code, 2, (Option.some Jvm.ClassFile.FieldType.int), 1, 12, [(2, 13, 0, 0), (0, 0, (-2147483648), 2147483647)], [(some (0, 0, (-2147483648), 2147483647), [])], zUE, (3, 200, 0, 0))
noncomputable def zφ_men (A : Nat → Nat) (V : Nat → Nat → Int) (nuξ : Nat) : (Nat → Option Nat) → (Nat → Nat → Int) → List Int → Prop := fun P G ps => zMVr A V P G ∧ ps.getD 0 0 = (A 0 : Int) ∧ 0 ≤ V 3 (2000 + 8) ∧ V 3 (2000 + 8) ≤ 9999 ∧ -1 ≤ V 3 (2000 + 10) ∧ V 3 (2000 + 10) ≤ 12 ∧ V 0 8 = (nuξ : Int) ∧ nuξ ≤ 16
noncomputable def zψ_men (A : Nat → Nat) (V : Nat → Nat → Int) (nuξ : Nat) : (Nat → Option Nat) → (Nat → Nat → Int) → List Int → (Nat → Option Nat) → (Nat → Nat → Int) → Int → Prop := fun P G ps P' G' rn => P' = P ∧ zMVr A (zf_men V nuξ (ps.getD 1 0)).2 P' G' ∧ rn = (zf_men V nuξ (ps.getD 1 0)).1
theorem zX_men {l : Launch} {w : zk_W} (hWξ : zh_W w) (A : Nat → Nat) (V : Nat → Nat → Int) (nuξ : Nat) : zk_metX l w zt_dv zt_TB zK_men (zp_A (zφ_men A V nuξ)) (zp_B (zψ_men A V nuξ)) ∧ zk_cok w zt_TB zK_men := by
  refine zp_methX (cn := "WoundTownModel") zp_lkall hWξ (pl := 1994) rfl (by decide +kernel) (fun p e R s m args below meth c Q u hx hb hEξ hQξ hU5ξ heffξ hnLξ hokξ hφ => ?_)
  have hwξ := hWξ.1
  obtain ⟨p0ξ, p1ξ, hpsξ, tk0, tk1⟩ := zp_ps2 hokξ
  have hrmξ : zk_Kr (zk_ev (zt_types, zp_lk, zt_dv, [], [], zp_lc, zK_men)) = zk_Kr zK_men := rfl
  rw [hpsξ] at hφ ⊢
  have hφ : zMVr A V u.1 (zp_n u.2.1) ∧ p0ξ = (A 0 : Int) ∧ 0 ≤ V 3 (2000 + 8) ∧ V 3 (2000 + 8) ≤ 9999 ∧ -1 ≤ V 3 (2000 + 10) ∧ V 3 (2000 + 10) ≤ 12 ∧ V 0 8 = (nuξ : Int) ∧ nuξ ≤ 16 := hφ
  obtain ⟨⟨M, hMξ, hVξ, hSbξ⟩, rfl, hl0ξ, hl9ξ, ht0ξ, ht9ξ, h8ξ, hn16ξ⟩ := hφ
  have hi1ξ := zp_int tk1
  show zp_J p l e R s m args below meth c Q w u [] 0 [(0, 2, (A 0 : Int)), (1, 0, p1ξ)] [] u.1 (zp_n u.2.1)
  refine zp_load (pc := 0) hx hb (zd_X12_mend (0, .aload_n 0, 1, 0, []) (List.mem_of_getElem? (i := 0) rfl)) rfl (j := 0) rfl ?_
  refine zp_const (pc := 1) hx hb (zd_X12_mend (1, .iconst 0, 1, 0, []) (List.mem_of_getElem? (i := 1) rfl)) rfl rfl ?_
  refine zp_putf (pc := 2) hx hb hEξ hwξ heffξ (zd_X12_mend (2, .putfield 161, 3, 0, []) (List.mem_of_getElem? (i := 2) rfl)) (j := 18) rfl rfl rfl (zM_P hMξ (List.mem_of_getElem? (i := 0) rfl)) (zp_o0 (by decide) (by decide) (by decide) (by decide)) ?_
  refine zp_load (pc := 5) hx hb (zd_X12_mend (5, .aload_n 0, 1, 0, []) (List.mem_of_getElem? (i := 3) rfl)) rfl (j := 0) rfl ?_
  refine zp_load (pc := 6) hx hb (zd_X12_mend (6, .aload_n 0, 1, 0, []) (List.mem_of_getElem? (i := 4) rfl)) rfl (j := 0) rfl ?_
  refine zp_load (pc := 7) hx hb (zd_X12_mend (7, .iload_n 1, 1, 0, []) (List.mem_of_getElem? (i := 5) rfl)) rfl (j := 1) rfl ?_
  refine zp_call (pc := 8) (how := 0) (idx := 519) (mi := 286) (S := [(2, (A 0 : Int))]) hx hb hEξ hwξ heffξ hrmξ (zX_mnn hWξ A (zp_set V 0 0 0) nuξ) rfl (j := 68) rfl rfl (by decide +kernel) (zd_X12_mend (8, .invokevirtual 519, 3, 0, []) (List.mem_of_getElem? (i := 6) rfl)) [(A 0 : Int), p1ξ] rfl ⟨zp_o2 (zM_P hMξ (List.mem_of_getElem? (i := 0) rfl)), zp_o0 (by omega) (by omega) (by omega) (by omega), trivial⟩ (Nat.le_of_ble_eq_true rfl) ⟨⟨(zp_set M 0 0 0), (zM_set hMξ (List.mem_of_getElem? (i := 0) rfl) (by decide)), (zV_set hVξ), (zSb_set (by decide) hSbξ)⟩, rfl, (by rw [zp_set_ne (Or.inl (by decide))]; exact hl0ξ), (by rw [zp_set_ne (Or.inl (by decide))]; exact hl9ξ), (by rw [zp_set_ne (Or.inl (by decide))]; exact ht0ξ), (by rw [zp_set_ne (Or.inl (by decide))]; exact ht9ξ), ((zp_set_ne (Or.inr (by decide))).trans ((Eq.trans rfl h8ξ))), by omega⟩ (fun al halξ rnm365ξ Pm365 Gm365 hextm365ξ hfrm365ξ hokm365ξ hcsm365ξ hpsim365ξ => ?_)
  obtain rfl := List.mem_singleton.mp halξ
  have hrm365ξ := zp_int (hokm365ξ _ rfl).1
  obtain ⟨hPem365ξ, ⟨Mm365, hMm365ξ, hVm365ξ, hSbm365ξ⟩, htm365ξ⟩ := hpsim365ξ
  subst hPem365ξ
  clear hextm365ξ hfrm365ξ hcsm365ξ hokm365ξ
  have hVm365ξ : ∀ o k, zNs o k → Mm365 o k = (zf_mnn (zp_set V 0 0 0) nuξ p1ξ).2 o k := hVm365ξ
  have htm365ξ : rnm365ξ = ((zf_mnn (zp_set V 0 0 0) nuξ p1ξ).1) := htm365ξ
  have htm365ξ := (Eq.symm htm365ξ)
  subst htm365ξ
  have hbm365ξ : -3 ≤ ((zf_mnn (zp_set V 0 0 0) nuξ p1ξ).1) ∧ ((zf_mnn (zp_set V 0 0 0) nuξ p1ξ).1) ≤ 9999 := zf_mnn_b
  refine zp_call (pc := 11) (how := 0) (idx := 170) (mi := 183) (S := []) hx hb hEξ hwξ heffξ hrmξ (zX_tll hWξ A (zf_mnn (zp_set V 0 0 0) nuξ p1ξ).2) rfl (j := 0) rfl rfl (by decide +kernel) (zd_X12_mend (11, .invokevirtual 170, 3, 0, []) (List.mem_of_getElem? (i := 7) rfl)) [(A 0 : Int), ((zf_mnn (zp_set V 0 0 0) nuξ p1ξ).1)] rfl ⟨zp_o2 (zM_P hMm365ξ (List.mem_of_getElem? (i := 0) rfl)), zp_o0 (by omega) (by omega) (by omega) (by omega), trivial⟩ (Nat.le_of_ble_eq_true rfl) ⟨⟨Mm365, hMm365ξ, hVm365ξ, hSbm365ξ⟩, rfl, (show -6 ≤ ((zf_mnn (zp_set V 0 0 0) nuξ p1ξ).1) by omega)⟩ (fun al halξ rnt366ξ Pt366 Gt366 hextt366ξ hfrt366ξ hokt366ξ hcst366ξ hpsit366ξ => ?_)
  obtain rfl := List.mem_singleton.mp halξ
  have hrt366ξ := zp_int (hokt366ξ _ rfl).1
  obtain ⟨hPet366ξ, ⟨Mt366, hMt366ξ, hVt366ξ, hSbt366ξ⟩, htt366ξ⟩ := hpsit366ξ
  subst hPet366ξ
  clear hextt366ξ hfrt366ξ hcst366ξ hokt366ξ
  have hVt366ξ : ∀ o k, zNs o k → Mt366 o k = (zT_tell (zf_mnn (zp_set V 0 0 0) nuξ p1ξ).2 ((zf_mnn (zp_set V 0 0 0) nuξ p1ξ).1)) o k := hVt366ξ
  have htt366ξ : rnt366ξ = ((zf_mnn (zp_set V 0 0 0) nuξ p1ξ).1) := htt366ξ
  have htt366ξ := (Eq.symm htt366ξ)
  subst htt366ξ
  refine zp_iret (pc := 14) (n := ((zf_mnn (zp_set V 0 0 0) nuξ p1ξ).1)) hx hb hEξ hQξ hU5ξ rfl (by decide) (zd_X12_mend (14, .ireturn, 1, 0, []) (List.mem_of_getElem? (i := 8) rfl)) (j := 0) rfl (zp_o0 (by omega) (by omega) (by omega) (by omega)) ?_
  rw [hpsξ]
  refine ⟨rfl, ?_⟩
  have hffξ : zf_men V nuξ p1ξ = (((zf_mnn (zp_set V 0 0 0) nuξ p1ξ).1), (zT_tell (zf_mnn (zp_set V 0 0 0) nuξ p1ξ).2 ((zf_mnn (zp_set V 0 0 0) nuξ p1ξ).1))) := rfl
  show zMVr A (zf_men V nuξ p1ξ).2 u.1 Gt366 ∧ ((zf_mnn (zp_set V 0 0 0) nuξ p1ξ).1) = (zf_men V nuξ p1ξ).1
  rw [hffξ]
  exact ⟨⟨Mt366, hMt366ξ, hVt366ξ, hSbt366ξ⟩, rfl⟩
noncomputable def zf_key (V : Nat → Nat → Int) (nuξ npξ : Nat) (Lwξ : List yK) (p1ξ : Int) (p2ξ : Int) : Int × (Nat → Nat → Int) := (((zf_kyn (zp_set V 0 0 0) nuξ npξ Lwξ p1ξ p2ξ).1), (zT_tell (zf_kyn (zp_set V 0 0 0) nuξ npξ Lwξ p1ξ p2ξ).2 ((zf_kyn (zp_set V 0 0 0) nuξ npξ Lwξ p1ξ p2ξ).1)))
noncomputable def zK_key : zk_K := (zt_mn 279, prog_14_method_102_code, 3, (Option.some Jvm.ClassFile.FieldType.int), 1, 12, [(2, 13, 0, 0), (0, 0, (-2147483648), 2147483647), (0, 0, (-2147483648), 2147483647)], [(some (0, 0, (-2147483648), 2147483647), [])], zUE, (7, 400, 0, 0))
noncomputable def zφ_key (A : Nat → Nat) (V : Nat → Nat → Int) (nuξ npξ : Nat) (Lwξ : List yK) : (Nat → Option Nat) → (Nat → Nat → Int) → List Int → Prop := fun P G ps => zMVr A V P G ∧ ps.getD 0 0 = (A 0 : Int) ∧ zLV V Lwξ ∧ V 0 8 = (nuξ : Int) ∧ nuξ ≤ 16 ∧ V 3 (2000 + 0) = (npξ : Int) ∧ npξ ≤ 6 ∧ (∀ p, p < npξ → 0 ≤ V 3 (2000 + (3 * p + 13)) ∧ V 3 (2000 + (3 * p + 13)) ≤ 9)
noncomputable def zψ_key (A : Nat → Nat) (V : Nat → Nat → Int) (nuξ npξ : Nat) (Lwξ : List yK) : (Nat → Option Nat) → (Nat → Nat → Int) → List Int → (Nat → Option Nat) → (Nat → Nat → Int) → Int → Prop := fun P G ps P' G' rn => P' = P ∧ zMVr A (zf_key V nuξ npξ Lwξ (ps.getD 1 0) (ps.getD 2 0)).2 P' G' ∧ rn = (zf_key V nuξ npξ Lwξ (ps.getD 1 0) (ps.getD 2 0)).1
theorem zX_key {l : Launch} {w : zk_W} (hWξ : zh_W w) (A : Nat → Nat) (V : Nat → Nat → Int) (nuξ npξ : Nat) (Lwξ : List yK) : zk_metX l w zt_dv zt_TB zK_key (zp_A (zφ_key A V nuξ npξ Lwξ)) (zp_B (zψ_key A V nuξ npξ Lwξ)) ∧ zk_cok w zt_TB zK_key := by
  refine zp_methX (cn := "WoundTownModel") zp_lkall hWξ (pl := 1970) rfl (by decide +kernel) (fun p e R s m args below meth c Q u hx hb hEξ hQξ hU5ξ heffξ hnLξ hokξ hφ => ?_)
  have hwξ := hWξ.1
  obtain ⟨p0ξ, p1ξ, p2ξ, hpsξ, tk0, tk1, tk2⟩ := zp_ps3 hokξ
  have hrmξ : zk_Kr (zk_ev (zt_types, zp_lk, zt_dv, [], [], zp_lc, zK_key)) = zk_Kr zK_key := rfl
  rw [hpsξ] at hφ ⊢
  have hφ : zMVr A V u.1 (zp_n u.2.1) ∧ p0ξ = (A 0 : Int) ∧ zLV V Lwξ ∧ V 0 8 = (nuξ : Int) ∧ nuξ ≤ 16 ∧ V 3 (2000 + 0) = (npξ : Int) ∧ npξ ≤ 6 ∧ (∀ p, p < npξ → 0 ≤ V 3 (2000 + (3 * p + 13)) ∧ V 3 (2000 + (3 * p + 13)) ≤ 9) := hφ
  obtain ⟨⟨M, hMξ, hVξ, hSbξ⟩, rfl, hLVξ, h8ξ, hn16ξ, hnpξ, hnp6ξ, hLtξ⟩ := hφ
  have hi1ξ := zp_int tk1
  have hi2ξ := zp_int tk2
  show zp_J p l e R s m args below meth c Q w u [] 0 [(0, 2, (A 0 : Int)), (1, 0, p1ξ), (2, 0, p2ξ)] [] u.1 (zp_n u.2.1)
  refine zp_load (pc := 0) hx hb (zd_X12_key (0, .aload_n 0, 1, 0, []) (List.mem_of_getElem? (i := 0) rfl)) rfl (j := 0) rfl ?_
  refine zp_const (pc := 1) hx hb (zd_X12_key (1, .iconst 0, 1, 0, []) (List.mem_of_getElem? (i := 1) rfl)) rfl rfl ?_
  refine zp_putf (pc := 2) hx hb hEξ hwξ heffξ (zd_X12_key (2, .putfield 161, 3, 0, []) (List.mem_of_getElem? (i := 2) rfl)) (j := 18) rfl rfl rfl (zM_P hMξ (List.mem_of_getElem? (i := 0) rfl)) (zp_o0 (by decide) (by decide) (by decide) (by decide)) ?_
  refine zp_load (pc := 5) hx hb (zd_X12_key (5, .aload_n 0, 1, 0, []) (List.mem_of_getElem? (i := 3) rfl)) rfl (j := 0) rfl ?_
  refine zp_load (pc := 6) hx hb (zd_X12_key (6, .aload_n 0, 1, 0, []) (List.mem_of_getElem? (i := 4) rfl)) rfl (j := 0) rfl ?_
  refine zp_load (pc := 7) hx hb (zd_X12_key (7, .iload_n 1, 1, 0, []) (List.mem_of_getElem? (i := 5) rfl)) rfl (j := 1) rfl ?_
  refine zp_load (pc := 8) hx hb (zd_X12_key (8, .iload_n 2, 1, 0, []) (List.mem_of_getElem? (i := 6) rfl)) rfl (j := 2) rfl ?_
  refine zp_call (pc := 9) (how := 0) (idx := 508) (mi := 280) (S := [(2, (A 0 : Int))]) hx hb hEξ hwξ heffξ hrmξ (zX_kyn hWξ A (zp_set V 0 0 0) nuξ npξ Lwξ) rfl (j := 64) rfl rfl (by decide +kernel) (zd_X12_key (9, .invokevirtual 508, 3, 0, []) (List.mem_of_getElem? (i := 7) rfl)) [(A 0 : Int), p1ξ, p2ξ] rfl ⟨zp_o2 (zM_P hMξ (List.mem_of_getElem? (i := 0) rfl)), zp_o0 (by omega) (by omega) (by omega) (by omega), zp_o0 (by omega) (by omega) (by omega) (by omega), trivial⟩ (Nat.le_of_ble_eq_true rfl) ⟨⟨(zp_set M 0 0 0), (zM_set hMξ (List.mem_of_getElem? (i := 0) rfl) (by decide)), (zV_set hVξ), (zSb_set (by decide) hSbξ)⟩, rfl, (zLV_o (by decide) (Or.inr (by decide)) hLVξ), ((zp_set_ne (Or.inr (by decide))).trans ((Eq.trans rfl h8ξ))), by omega, (zp_set_ne (Or.inl (by decide))).trans hnpξ, hnp6ξ, fun p hpξ => by rw [zp_set_ne (Or.inl (by decide))]; exact hLtξ p hpξ⟩ (fun al halξ rnm367ξ Pm367 Gm367 hextm367ξ hfrm367ξ hokm367ξ hcsm367ξ hpsim367ξ => ?_)
  obtain rfl := List.mem_singleton.mp halξ
  have hrm367ξ := zp_int (hokm367ξ _ rfl).1
  obtain ⟨hPem367ξ, ⟨Mm367, hMm367ξ, hVm367ξ, hSbm367ξ⟩, htm367ξ⟩ := hpsim367ξ
  subst hPem367ξ
  clear hextm367ξ hfrm367ξ hcsm367ξ hokm367ξ
  have hVm367ξ : ∀ o k, zNs o k → Mm367 o k = (zf_kyn (zp_set V 0 0 0) nuξ npξ Lwξ p1ξ p2ξ).2 o k := hVm367ξ
  have htm367ξ : rnm367ξ = ((zf_kyn (zp_set V 0 0 0) nuξ npξ Lwξ p1ξ p2ξ).1) := htm367ξ
  have htm367ξ := (Eq.symm htm367ξ)
  subst htm367ξ
  have hbm367ξ : -3 ≤ ((zf_kyn (zp_set V 0 0 0) nuξ npξ Lwξ p1ξ p2ξ).1) ∧ ((zf_kyn (zp_set V 0 0 0) nuξ npξ Lwξ p1ξ p2ξ).1) ≤ 9 := zf_kyn_b (fun p hpξ => by rw [zp_set_ne (Or.inl (by decide))]; exact hLtξ p hpξ)
  refine zp_call (pc := 12) (how := 0) (idx := 170) (mi := 183) (S := []) hx hb hEξ hwξ heffξ hrmξ (zX_tll hWξ A (zf_kyn (zp_set V 0 0 0) nuξ npξ Lwξ p1ξ p2ξ).2) rfl (j := 0) rfl rfl (by decide +kernel) (zd_X12_key (12, .invokevirtual 170, 3, 0, []) (List.mem_of_getElem? (i := 8) rfl)) [(A 0 : Int), ((zf_kyn (zp_set V 0 0 0) nuξ npξ Lwξ p1ξ p2ξ).1)] rfl ⟨zp_o2 (zM_P hMm367ξ (List.mem_of_getElem? (i := 0) rfl)), zp_o0 (by omega) (by omega) (by omega) (by omega), trivial⟩ (Nat.le_of_ble_eq_true rfl) ⟨⟨Mm367, hMm367ξ, hVm367ξ, hSbm367ξ⟩, rfl, (show -6 ≤ ((zf_kyn (zp_set V 0 0 0) nuξ npξ Lwξ p1ξ p2ξ).1) by omega)⟩ (fun al halξ rnt368ξ Pt368 Gt368 hextt368ξ hfrt368ξ hokt368ξ hcst368ξ hpsit368ξ => ?_)
  obtain rfl := List.mem_singleton.mp halξ
  have hrt368ξ := zp_int (hokt368ξ _ rfl).1
  obtain ⟨hPet368ξ, ⟨Mt368, hMt368ξ, hVt368ξ, hSbt368ξ⟩, htt368ξ⟩ := hpsit368ξ
  subst hPet368ξ
  clear hextt368ξ hfrt368ξ hcst368ξ hokt368ξ
  have hVt368ξ : ∀ o k, zNs o k → Mt368 o k = (zT_tell (zf_kyn (zp_set V 0 0 0) nuξ npξ Lwξ p1ξ p2ξ).2 ((zf_kyn (zp_set V 0 0 0) nuξ npξ Lwξ p1ξ p2ξ).1)) o k := hVt368ξ
  have htt368ξ : rnt368ξ = ((zf_kyn (zp_set V 0 0 0) nuξ npξ Lwξ p1ξ p2ξ).1) := htt368ξ
  have htt368ξ := (Eq.symm htt368ξ)
  subst htt368ξ
  refine zp_iret (pc := 15) (n := ((zf_kyn (zp_set V 0 0 0) nuξ npξ Lwξ p1ξ p2ξ).1)) hx hb hEξ hQξ hU5ξ rfl (by decide) (zd_X12_key (15, .ireturn, 1, 0, []) (List.mem_of_getElem? (i := 9) rfl)) (j := 0) rfl (zp_o0 (by omega) (by omega) (by omega) (by omega)) ?_
  rw [hpsξ]
  refine ⟨rfl, ?_⟩
  have hffξ : zf_key V nuξ npξ Lwξ p1ξ p2ξ = (((zf_kyn (zp_set V 0 0 0) nuξ npξ Lwξ p1ξ p2ξ).1), (zT_tell (zf_kyn (zp_set V 0 0 0) nuξ npξ Lwξ p1ξ p2ξ).2 ((zf_kyn (zp_set V 0 0 0) nuξ npξ Lwξ p1ξ p2ξ).1))) := rfl
  show zMVr A (zf_key V nuξ npξ Lwξ p1ξ p2ξ).2 u.1 Gt368 ∧ ((zf_kyn (zp_set V 0 0 0) nuξ npξ Lwξ p1ξ p2ξ).1) = (zf_key V nuξ npξ Lwξ p1ξ p2ξ).1
  rw [hffξ]
  exact ⟨⟨Mt368, hMt368ξ, hVt368ξ, hSbt368ξ⟩, rfl⟩
noncomputable def zf_run (V : Nat → Nat → Int) (nuξ n1ξ npξ : Nat) (Lwξ : List yK) : Int × (Nat → Nat → Int) := (((zf_rnn (zp_set V 0 0 0) nuξ n1ξ npξ Lwξ).1), (zT_tell (zf_rnn (zp_set V 0 0 0) nuξ n1ξ npξ Lwξ).2 ((zf_rnn (zp_set V 0 0 0) nuξ n1ξ npξ Lwξ).1)))
noncomputable def zK_run : zk_K := (zt_mn 282, prog_14_method_105_code, 1, (Option.some Jvm.ClassFile.FieldType.int), 1, 12, [(2, 13, 0, 0)], [(some (0, 0, (-2147483648), 2147483647), [])], zUE, (8, 500, 0, 0))
noncomputable def zφ_run (A : Nat → Nat) (V : Nat → Nat → Int) (nuξ n1ξ npξ : Nat) (Lwξ : List yK) : (Nat → Option Nat) → (Nat → Nat → Int) → List Int → Prop := fun P G ps => zMVr A V P G ∧ ps.getD 0 0 = (A 0 : Int) ∧ zLV V Lwξ ∧ V 0 8 = (nuξ : Int) ∧ nuξ ≤ 16 ∧ zd_ok (zRw V) n1ξ npξ ∧ V 0 47 = -1 ∧ (-1 ≤ V 3 (2000 + 10) ∧ V 3 (2000 + 10) ≤ 12) ∧ (0 ≤ V 3 (2000 + 5) ∧ V 3 (2000 + 5) ≤ 999) ∧ (∀ p, p < npξ → 0 ≤ V 3 (2000 + (3 * p + 11)) ∧ V 3 (2000 + (3 * p + 11)) ≤ 9)
noncomputable def zψ_run (A : Nat → Nat) (V : Nat → Nat → Int) (nuξ n1ξ npξ : Nat) (Lwξ : List yK) : (Nat → Option Nat) → (Nat → Nat → Int) → List Int → (Nat → Option Nat) → (Nat → Nat → Int) → Int → Prop := fun P G ps P' G' rn => P' = P ∧ zMVr A (zf_run V nuξ n1ξ npξ Lwξ).2 P' G' ∧ rn = (zf_run V nuξ n1ξ npξ Lwξ).1
theorem zX_run {l : Launch} {w : zk_W} (hWξ : zh_W w) (A : Nat → Nat) (V : Nat → Nat → Int) (nuξ n1ξ npξ : Nat) (Lwξ : List yK) : zk_metX l w zt_dv zt_TB zK_run (zp_A (zφ_run A V nuξ n1ξ npξ Lwξ)) (zp_B (zψ_run A V nuξ n1ξ npξ Lwξ)) ∧ zk_cok w zt_TB zK_run := by
  refine zp_methX (cn := "WoundTownModel") zp_lkall hWξ (pl := 1982) rfl (by decide +kernel) (fun p e R s m args below meth c Q u hx hb hEξ hQξ hU5ξ heffξ hnLξ hokξ hφ => ?_)
  have hwξ := hWξ.1
  obtain ⟨p0ξ, hpsξ, tk0⟩ := zp_ps1 hokξ
  have hrmξ : zk_Kr (zk_ev (zt_types, zp_lk, zt_dv, [], [], zp_lc, zK_run)) = zk_Kr zK_run := rfl
  rw [hpsξ] at hφ ⊢
  have hφ : zMVr A V u.1 (zp_n u.2.1) ∧ p0ξ = (A 0 : Int) ∧ zLV V Lwξ ∧ V 0 8 = (nuξ : Int) ∧ nuξ ≤ 16 ∧ zd_ok (zRw V) n1ξ npξ ∧ V 0 47 = -1 ∧ (-1 ≤ V 3 (2000 + 10) ∧ V 3 (2000 + 10) ≤ 12) ∧ (0 ≤ V 3 (2000 + 5) ∧ V 3 (2000 + 5) ≤ 999) ∧ (∀ p, p < npξ → 0 ≤ V 3 (2000 + (3 * p + 11)) ∧ V 3 (2000 + (3 * p + 11)) ≤ 9) := hφ
  obtain ⟨⟨M, hMξ, hVξ, hSbξ⟩, rfl, hLVξ, h8ξ, hn16ξ, hDξ, h47ξ, htξ, hdξ, hOilξ⟩ := hφ
  show zp_J p l e R s m args below meth c Q w u [] 0 [(0, 2, (A 0 : Int))] [] u.1 (zp_n u.2.1)
  refine zp_load (pc := 0) hx hb (zd_X12_run (0, .aload_n 0, 1, 0, []) (List.mem_of_getElem? (i := 0) rfl)) rfl (j := 0) rfl ?_
  refine zp_const (pc := 1) hx hb (zd_X12_run (1, .iconst 0, 1, 0, []) (List.mem_of_getElem? (i := 1) rfl)) rfl rfl ?_
  refine zp_putf (pc := 2) hx hb hEξ hwξ heffξ (zd_X12_run (2, .putfield 161, 3, 0, []) (List.mem_of_getElem? (i := 2) rfl)) (j := 18) rfl rfl rfl (zM_P hMξ (List.mem_of_getElem? (i := 0) rfl)) (zp_o0 (by decide) (by decide) (by decide) (by decide)) ?_
  refine zp_load (pc := 5) hx hb (zd_X12_run (5, .aload_n 0, 1, 0, []) (List.mem_of_getElem? (i := 3) rfl)) rfl (j := 0) rfl ?_
  refine zp_load (pc := 6) hx hb (zd_X12_run (6, .aload_n 0, 1, 0, []) (List.mem_of_getElem? (i := 4) rfl)) rfl (j := 0) rfl ?_
  refine zp_call (pc := 7) (how := 0) (idx := 514) (mi := 283) (S := [(2, (A 0 : Int))]) hx hb hEξ hwξ heffξ hrmξ (zX_rnn hWξ A (zp_set V 0 0 0) nuξ n1ξ npξ Lwξ) rfl (j := 66) rfl rfl (by decide +kernel) (zd_X12_run (7, .invokevirtual 514, 3, 0, []) (List.mem_of_getElem? (i := 5) rfl)) [(A 0 : Int)] rfl ⟨zp_o2 (zM_P hMξ (List.mem_of_getElem? (i := 0) rfl)), trivial⟩ (Nat.le_of_ble_eq_true rfl) ⟨⟨(zp_set M 0 0 0), (zM_set hMξ (List.mem_of_getElem? (i := 0) rfl) (by decide)), (zV_set hVξ), (zSb_set (by decide) hSbξ)⟩, rfl, (zLV_o (by decide) (Or.inr (by decide)) hLVξ), ((zp_set_ne (Or.inr (by decide))).trans ((Eq.trans rfl h8ξ))), by omega, zd_ok_c (fun j => zp_set_ne (Or.inl (by decide))) hDξ, (zp_set_ne (Or.inr (by decide))).trans h47ξ, (by rw [zp_set_ne (Or.inl (by decide))]; omega), (by rw [zp_set_ne (Or.inl (by decide))]; omega), fun p hpξ => by rw [zp_set_ne (Or.inl (by decide))]; exact hOilξ p hpξ⟩ (fun al halξ rnm369ξ Pm369 Gm369 hextm369ξ hfrm369ξ hokm369ξ hcsm369ξ hpsim369ξ => ?_)
  obtain rfl := List.mem_singleton.mp halξ
  have hrm369ξ := zp_int (hokm369ξ _ rfl).1
  obtain ⟨hPem369ξ, ⟨Mm369, hMm369ξ, hVm369ξ, hSbm369ξ⟩, htm369ξ⟩ := hpsim369ξ
  subst hPem369ξ
  clear hextm369ξ hfrm369ξ hcsm369ξ hokm369ξ
  have hVm369ξ : ∀ o k, zNs o k → Mm369 o k = (zf_rnn (zp_set V 0 0 0) nuξ n1ξ npξ Lwξ).2 o k := hVm369ξ
  have htm369ξ : rnm369ξ = ((zf_rnn (zp_set V 0 0 0) nuξ n1ξ npξ Lwξ).1) := htm369ξ
  have htm369ξ := (Eq.symm htm369ξ)
  subst htm369ξ
  have hbm369ξ : -3 ≤ ((zf_rnn (zp_set V 0 0 0) nuξ n1ξ npξ Lwξ).1) ∧ ((zf_rnn (zp_set V 0 0 0) nuξ n1ξ npξ Lwξ).1) ≤ 10 := zf_rnn_b hDξ.1
  refine zp_call (pc := 10) (how := 0) (idx := 170) (mi := 183) (S := []) hx hb hEξ hwξ heffξ hrmξ (zX_tll hWξ A (zf_rnn (zp_set V 0 0 0) nuξ n1ξ npξ Lwξ).2) rfl (j := 0) rfl rfl (by decide +kernel) (zd_X12_run (10, .invokevirtual 170, 3, 0, []) (List.mem_of_getElem? (i := 6) rfl)) [(A 0 : Int), ((zf_rnn (zp_set V 0 0 0) nuξ n1ξ npξ Lwξ).1)] rfl ⟨zp_o2 (zM_P hMm369ξ (List.mem_of_getElem? (i := 0) rfl)), zp_o0 (by omega) (by omega) (by omega) (by omega), trivial⟩ (Nat.le_of_ble_eq_true rfl) ⟨⟨Mm369, hMm369ξ, hVm369ξ, hSbm369ξ⟩, rfl, (show -6 ≤ ((zf_rnn (zp_set V 0 0 0) nuξ n1ξ npξ Lwξ).1) by omega)⟩ (fun al halξ rnt370ξ Pt370 Gt370 hextt370ξ hfrt370ξ hokt370ξ hcst370ξ hpsit370ξ => ?_)
  obtain rfl := List.mem_singleton.mp halξ
  have hrt370ξ := zp_int (hokt370ξ _ rfl).1
  obtain ⟨hPet370ξ, ⟨Mt370, hMt370ξ, hVt370ξ, hSbt370ξ⟩, htt370ξ⟩ := hpsit370ξ
  subst hPet370ξ
  clear hextt370ξ hfrt370ξ hcst370ξ hokt370ξ
  have hVt370ξ : ∀ o k, zNs o k → Mt370 o k = (zT_tell (zf_rnn (zp_set V 0 0 0) nuξ n1ξ npξ Lwξ).2 ((zf_rnn (zp_set V 0 0 0) nuξ n1ξ npξ Lwξ).1)) o k := hVt370ξ
  have htt370ξ : rnt370ξ = ((zf_rnn (zp_set V 0 0 0) nuξ n1ξ npξ Lwξ).1) := htt370ξ
  have htt370ξ := (Eq.symm htt370ξ)
  subst htt370ξ
  refine zp_iret (pc := 13) (n := ((zf_rnn (zp_set V 0 0 0) nuξ n1ξ npξ Lwξ).1)) hx hb hEξ hQξ hU5ξ rfl (by decide) (zd_X12_run (13, .ireturn, 1, 0, []) (List.mem_of_getElem? (i := 7) rfl)) (j := 0) rfl (zp_o0 (by omega) (by omega) (by omega) (by omega)) ?_
  rw [hpsξ]
  refine ⟨rfl, ?_⟩
  have hffξ : zf_run V nuξ n1ξ npξ Lwξ = (((zf_rnn (zp_set V 0 0 0) nuξ n1ξ npξ Lwξ).1), (zT_tell (zf_rnn (zp_set V 0 0 0) nuξ n1ξ npξ Lwξ).2 ((zf_rnn (zp_set V 0 0 0) nuξ n1ξ npξ Lwξ).1))) := rfl
  show zMVr A (zf_run V nuξ n1ξ npξ Lwξ).2 u.1 Gt370 ∧ ((zf_rnn (zp_set V 0 0 0) nuξ n1ξ npξ Lwξ).1) = (zf_run V nuξ n1ξ npξ Lwξ).1
  rw [hffξ]
  exact ⟨⟨Mt370, hMt370ξ, hVt370ξ, hSbt370ξ⟩, rfl⟩
