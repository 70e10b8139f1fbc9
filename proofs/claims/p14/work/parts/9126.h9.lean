/-! part h9ξ: the reference over logical cells: day -/
noncomputable def zw_or (a b : Int) : Int := (zk_bn 4 (Int32.ofInt a) (Int32.ofInt b)).toInt
noncomputable def zw_shl (a b : Int) : Int := (zk_bn 6 (Int32.ofInt a) (Int32.ofInt b)).toInt
theorem zw_orb (a b : Int) : -2147483648 ≤ zw_or a b ∧ zw_or a b ≤ 2147483647 := by
  have h1ξ := Int32.le_toInt (zk_bn 4 (Int32.ofInt a) (Int32.ofInt b))
  have h2ξ := Int32.toInt_lt (zk_bn 4 (Int32.ofInt a) (Int32.ofInt b))
  unfold zw_or
  omega
theorem zw_shlb (a b : Int) : -2147483648 ≤ zw_shl a b ∧ zw_shl a b ≤ 2147483647 := by
  have h1ξ := Int32.le_toInt (zk_bn 6 (Int32.ofInt a) (Int32.ofInt b))
  have h2ξ := Int32.toInt_lt (zk_bn 6 (Int32.ofInt a) (Int32.ofInt b))
  unfold zw_shl
  omega
theorem zw_or0 {a : Int} (h : -2147483648 ≤ a ∧ a ≤ 2147483647) : zw_or a 0 = a := by
  show (Int32.ofInt a ||| Int32.ofInt 0).toInt = a
  rw [show Int32.ofInt 0 = 0 from rfl, Int32.or_zero]
  exact zk_i32 (zp_r0 h.1 h.2)
/-- the worth of what ends in time -/
noncomputable def zc_wt (X : (Nat → Int) × (Nat → Int)) (due wo : Nat → Int) : Nat → Int
  | 0 => 0
  | w + 1 => zc_wt X due wo w + (if X.2 w ≠ -1 ∧ X.2 w ≤ due w then wo w else 0)
theorem zc_wtb {X : (Nat → Int) × (Nat → Int)} {due wo : Nat → Int} : ∀ {w : Nat}, (∀ j, j < w → 0 ≤ wo j ∧ wo j ≤ 1000) → 0 ≤ zc_wt X due wo w ∧ zc_wt X due wo w ≤ 1000 * (w : Int)
  | 0, _ => ⟨Int.le_refl _, Int.le_refl _⟩
  | w + 1, h => by
    have h1ξ := zc_wtb (X := X) (due := due) (wo := wo) (w := w) (fun j hjξ => h j (by omega))
    have h2ξ := h w (by omega)
    rw [zc_wt]
    split <;> omega
/-- what is left in the middle, as bits -/
noncomputable def zc_md (X : (Nat → Int) × (Nat → Int)) (mi : Nat → Int) : Nat → Int
  | 0 => 0
  | w + 1 => if 0 < X.1 w ∧ X.1 w < mi w then zw_or (zc_md X mi w) (zw_shl 1 (w : Int)) else zc_md X mi w
theorem zc_mdb {X : (Nat → Int) × (Nat → Int)} {mi : Nat → Int} : ∀ {w : Nat}, -2147483648 ≤ zc_md X mi w ∧ zc_md X mi w ≤ 2147483647
  | 0 => (⟨by decide, by decide⟩ : (-2147483648 : Int) ≤ 0 ∧ (0 : Int) ≤ 2147483647)
  | w + 1 => by
    rw [zc_md]
    split
    · exact zw_orb _ _
    · exact zc_mdb (w := w)
/-- does one of the first people speed -/
noncomputable def zc_an (s : Nat → Int) : Nat → Bool
  | 0 => false
  | p + 1 => zc_an s p || decide (0 < s p)
/-- from which hourξ on the town stands -/
noncomputable def zc_sf (sp : Nat → Nat → Int) (npξ : Nat) : Nat → Int
  | 0 => 0
  | h + 1 => if zc_an (sp h) npξ = true then (h : Int) + 1 else zc_sf sp npξ h
theorem zc_sfb {sp : Nat → Nat → Int} {npξ : Nat} : ∀ {h : Nat}, 0 ≤ zc_sf sp npξ h ∧ zc_sf sp npξ h ≤ (h : Int)
  | 0 => ⟨Int.le_refl _, Int.le_refl _⟩
  | h + 1 => by
    have := zc_sfb (sp := sp) (npξ := npξ) (h := h)
    rw [zc_sf]
    split <;> omega
noncomputable def zK_iitx : zk_K := (zt_mn 256, prog_14_method_78_code, 2, (Option.some Jvm.ClassFile.FieldType.boolean), 1, 12, [(2, 13, 0, 0), (0, 0, (-2147483648), 2147483647)], [(some (0, 0, 0, 1), [])], [], (1, 60, 0, 0))
noncomputable def zφ_iitx (A : Nat → Nat) (M : Nat → Nat → Int) (w1ξ : Nat) : (Nat → Option Nat) → (Nat → Nat → Int) → List Int → Prop := fun P G ps => zM A zYr zFr M P G ∧ ps.getD 0 0 = (A 0 : Int) ∧ (ps.getD 1 0) = (w1ξ : Int) ∧ w1ξ < 10 ∧ (∀ j, j < 5580 → -2147483648 ≤ M 3 (2000 + j) ∧ M 3 (2000 + j) ≤ 2147483647)
noncomputable def zψ_iitx (A : Nat → Nat) (M : Nat → Nat → Int) (w1ξ : Nat) : (Nat → Option Nat) → (Nat → Nat → Int) → List Int → (Nat → Option Nat) → (Nat → Nat → Int) → Int → Prop := fun P G ps P' G' rn => P' = P ∧ G' = G ∧ (rn = 1 ↔ (M 45 (2000 + w1ξ) ≠ -1 ∧ M 45 (2000 + w1ξ) ≤ M 3 (2000 + (5 * w1ξ + 41))))
theorem zX_iitx {l : Launch} {w : zk_W} (hWξ : zh_W w) (A : Nat → Nat) (M : Nat → Nat → Int) (w1ξ : Nat) : zk_metX l w zt_dv zt_TB zK_iitx (zp_A (zφ_iitx A M w1ξ)) (zp_B (zψ_iitx A M w1ξ)) ∧ zk_cok w zt_TB zK_iitx := by
  refine zp_methX (cn := "WoundTownModel") zp_lkall hWξ (pl := 1877) rfl (by decide +kernel) (fun p e R s m args below meth c Q u hx hb hEξ hQξ hU5ξ heffξ hnLξ hokξ hφ => ?_)
  have hwξ := hWξ.1
  obtain ⟨p0ξ, p1ξ, hpsξ, tk0, tk1⟩ := zp_ps2 hokξ
  have hrmξ : zk_Kr (zk_ev (zt_types, zp_lk, zt_dv, [], [], zp_lc, zK_iitx)) = zk_Kr zK_iitx := rfl
  rw [hpsξ] at hφ ⊢
  have hφ : zM A zYr zFr M u.1 (zp_n u.2.1) ∧ p0ξ = (A 0 : Int) ∧ p1ξ = (w1ξ : Int) ∧ w1ξ < 10 ∧ (∀ j, j < 5580 → -2147483648 ≤ M 3 (2000 + j) ∧ M 3 (2000 + j) ≤ 2147483647) := hφ
  obtain ⟨hMξ, rfl, rfl, hw10ξ, hRξ⟩ := hφ
  have hi1ξ := zp_int tk1
  show zp_J p l e R s m args below meth c Q w u [] 0 [(0, 2, (A 0 : Int)), (1, 0, (w1ξ : Int))] [] u.1 (zp_n u.2.1)
  refine zp_load (pc := 0) hx hb (zd_X12_isInTime (0, .aload_n 0, 1, 0, []) (List.mem_of_getElem? (i := 0) rfl)) rfl (j := 0) rfl ?_
  refine zp_getf (n := (A 45 : Int)) (pc := 1) hx hb hEξ hwξ (zd_X12_isInTime (1, .getfield 122, 3, 0, []) (List.mem_of_getElem? (i := 1) rfl)) (j := 63) rfl rfl rfl (zM_P hMξ (List.mem_of_getElem? (i := 0) rfl)) ((zM_G hMξ (List.mem_of_getElem? (i := 0) rfl) 45).trans (zM_F hMξ (List.mem_of_getElem? (i := 24) rfl))) ?_
  refine zp_load (pc := 4) hx hb (zd_X12_isInTime (4, .iload_n 1, 1, 0, []) (List.mem_of_getElem? (i := 2) rfl)) rfl (j := 1) rfl ?_
  refine zp_iald (j := w1ξ) (v := (M 45 (2000 + w1ξ))) (pc := 5) hx hb hwξ (zd_X12_isInTime (5, .iaload, 1, 0, []) (List.mem_of_getElem? (i := 3) rfl)) (show zp_ia 1 82 = some (10, 0, 0, (-2147483648), 2147483647) from rfl) (zM_P hMξ (List.mem_of_getElem? (i := 25) rfl)) (by omega) (by omega) (zM_G hMξ (List.mem_of_getElem? (i := 25) rfl) (2000 + w1ξ)) (fun hk472ξ => ?_)
  have hk472bξ := zp_int hk472ξ
  clear hk472ξ
  refine zp_const (pc := 6) hx hb (zd_X12_isInTime (6, .iconst (-1), 1, 0, []) (List.mem_of_getElem? (i := 4) rfl)) rfl rfl ?_
  refine zp_icmp (pc := 7) (tgt := 29) hx hb (zd_X12_isInTime (7, .if_icmp .eq 22, 3, 0, []) (List.mem_of_getElem? (i := 5) rfl)) rfl (fun (hc473ξ : (M 45 (2000 + w1ξ)) = (-1)) => ?_) (fun (hc473ξ : ¬ ((M 45 (2000 + w1ξ)) = (-1))) => ?_)
  · refine zp_const (pc := 29) hx hb (zd_X12_isInTime (29, .iconst 0, 1, 0, []) (List.mem_of_getElem? (i := 17) rfl)) rfl rfl ?_
    refine zp_zret (pc := 30) (n := 0) hx hb hEξ hQξ hU5ξ rfl (by decide) (zd_X12_isInTime (30, .ireturn, 1, 0, []) (List.mem_of_getElem? (i := 18) rfl)) (j := 0) rfl (zp_o0 (by omega) (by omega) (by omega) (by omega)) ?_
    rw [hpsξ]
    refine ⟨rfl, rfl, ?_⟩
    show (0 : Int) = 1 ↔ (M 45 (2000 + w1ξ) ≠ -1 ∧ M 45 (2000 + w1ξ) ≤ M 3 (2000 + (5 * w1ξ + 41)))
    omega
  · refine zp_load (pc := 10) hx hb (zd_X12_isInTime (10, .aload_n 0, 1, 0, []) (List.mem_of_getElem? (i := 6) rfl)) rfl (j := 0) rfl ?_
    refine zp_getf (n := (A 45 : Int)) (pc := 11) hx hb hEξ hwξ (zd_X12_isInTime (11, .getfield 122, 3, 0, []) (List.mem_of_getElem? (i := 7) rfl)) (j := 63) rfl rfl rfl (zM_P hMξ (List.mem_of_getElem? (i := 0) rfl)) ((zM_G hMξ (List.mem_of_getElem? (i := 0) rfl) 45).trans (zM_F hMξ (List.mem_of_getElem? (i := 24) rfl))) ?_
    refine zp_load (pc := 14) hx hb (zd_X12_isInTime (14, .iload_n 1, 1, 0, []) (List.mem_of_getElem? (i := 8) rfl)) rfl (j := 1) rfl ?_
    refine zp_iald (j := w1ξ) (v := (M 45 (2000 + w1ξ))) (pc := 15) hx hb hwξ (zd_X12_isInTime (15, .iaload, 1, 0, []) (List.mem_of_getElem? (i := 9) rfl)) (show zp_ia 1 82 = some (10, 0, 0, (-2147483648), 2147483647) from rfl) (zM_P hMξ (List.mem_of_getElem? (i := 25) rfl)) (by omega) (by omega) (zM_G hMξ (List.mem_of_getElem? (i := 25) rfl) (2000 + w1ξ)) (fun hk474ξ => ?_)
    have hk474bξ := zp_int hk474ξ
    clear hk474ξ
    refine zp_load (pc := 16) hx hb (zd_X12_isInTime (16, .aload_n 0, 1, 0, []) (List.mem_of_getElem? (i := 10) rfl)) rfl (j := 0) rfl ?_
    refine zp_load (pc := 17) hx hb (zd_X12_isInTime (17, .iload_n 1, 1, 0, []) (List.mem_of_getElem? (i := 11) rfl)) rfl (j := 1) rfl ?_
    refine zp_const (pc := 18) hx hb (zd_X12_isInTime (18, .iconst 2, 1, 0, []) (List.mem_of_getElem? (i := 12) rfl)) rfl rfl ?_
    have hr476ξ := hRξ (5 * w1ξ + 41) (by omega)
    refine zp_call (pc := 19) (how := 0) (idx := 188) (mi := 196) (S := [(0, (M 45 (2000 + w1ξ)))]) hx hb hEξ hwξ heffξ hrmξ (zX_ofw hWξ A M w1ξ 2) rfl (j := 7) rfl rfl (by decide +kernel) (zd_X12_isInTime (19, .invokevirtual 188, 3, 0, []) (List.mem_of_getElem? (i := 13) rfl)) [(A 0 : Int), (w1ξ : Int), 2] rfl ⟨zp_o2 (zM_P hMξ (List.mem_of_getElem? (i := 0) rfl)), zp_o0 (by omega) (by omega) (by omega) (by omega), zp_o0 (by decide) (by decide) (by decide) (by decide), trivial⟩ (Nat.le_of_ble_eq_true rfl) ⟨hMξ, rfl, (show (w1ξ : Int) = ((w1ξ : Nat) : Int) by omega), rfl, (show -2147483648 ≤ M 3 (2000 + (5 * w1ξ + 41)) ∧ M 3 (2000 + (5 * w1ξ + 41)) ≤ 2147483647 by omega)⟩ (fun al halξ rnf475ξ Pf475 Gf475 hextf475ξ hfrf475ξ hokf475ξ hcsf475ξ hpsif475ξ => ?_)
    obtain rfl := List.mem_singleton.mp halξ
    have hrf475ξ := zp_int (hokf475ξ _ rfl).1
    obtain ⟨hPef475ξ, hGef475ξ, htf475ξ⟩ := hpsif475ξ
    rw [hPef475ξ, hGef475ξ]
    clear hextf475ξ hfrf475ξ hcsf475ξ hPef475ξ hGef475ξ
    have htf475ξ : rnf475ξ = (M 3 (2000 + (5 * w1ξ + 41))) := htf475ξ
    have htf475ξ := (Eq.symm htf475ξ)
    subst htf475ξ
    refine zp_icmp (pc := 22) (tgt := 29) hx hb (zd_X12_isInTime (22, .if_icmp .gt 7, 3, 0, []) (List.mem_of_getElem? (i := 14) rfl)) rfl (fun (hc477ξ : (M 3 (2000 + (5 * w1ξ + 41))) < (M 45 (2000 + w1ξ))) => ?_) (fun (hc477ξ : ¬ ((M 3 (2000 + (5 * w1ξ + 41))) < (M 45 (2000 + w1ξ)))) => ?_)
    · refine zp_const (pc := 29) hx hb (zd_X12_isInTime (29, .iconst 0, 1, 0, []) (List.mem_of_getElem? (i := 17) rfl)) rfl rfl ?_
      refine zp_zret (pc := 30) (n := 0) hx hb hEξ hQξ hU5ξ rfl (by decide) (zd_X12_isInTime (30, .ireturn, 1, 0, []) (List.mem_of_getElem? (i := 18) rfl)) (j := 0) rfl (zp_o0 (by omega) (by omega) (by omega) (by omega)) ?_
      rw [hpsξ]
      refine ⟨rfl, rfl, ?_⟩
      show (0 : Int) = 1 ↔ (M 45 (2000 + w1ξ) ≠ -1 ∧ M 45 (2000 + w1ξ) ≤ M 3 (2000 + (5 * w1ξ + 41)))
      omega
    · refine zp_const (pc := 25) hx hb (zd_X12_isInTime (25, .iconst 1, 1, 0, []) (List.mem_of_getElem? (i := 15) rfl)) rfl rfl ?_
      refine zp_goto (tgt := 30) (pc := 26) hx hb (zd_X12_isInTime (26, .goto 4, 3, 0, []) (List.mem_of_getElem? (i := 16) rfl)) rfl ?_
      refine zp_zret (pc := 30) (n := 1) hx hb hEξ hQξ hU5ξ rfl (by decide) (zd_X12_isInTime (30, .ireturn, 1, 0, []) (List.mem_of_getElem? (i := 18) rfl)) (j := 0) rfl (zp_o0 (by omega) (by omega) (by omega) (by omega)) ?_
      rw [hpsξ]
      refine ⟨rfl, rfl, ?_⟩
      show (1 : Int) = 1 ↔ (M 45 (2000 + w1ξ) ≠ -1 ∧ M 45 (2000 + w1ξ) ≤ M 3 (2000 + (5 * w1ξ + 41)))
      omega
noncomputable def zK_sfr : zk_K := (zt_mn 255, prog_14_method_81_code, 4, (Option.some Jvm.ClassFile.FieldType.int), 1, 12, [(2, 13, 0, 0)], [(some (0, 0, (-2147483648), 2147483647), [])], [], (0, 0, 0, 0))
noncomputable def zφ_sfr (A : Nat → Nat) (M : Nat → Nat → Int) (npξ : Nat) : (Nat → Option Nat) → (Nat → Nat → Int) → List Int → Prop := fun P G ps => zM A zYr zFr M P G ∧ ps.getD 0 0 = (A 0 : Int) ∧ M 3 (2000 + 0) = (npξ : Int) ∧ npξ ≤ 6
noncomputable def zψ_sfr (A : Nat → Nat) (M : Nat → Nat → Int) (npξ : Nat) : (Nat → Option Nat) → (Nat → Nat → Int) → List Int → (Nat → Option Nat) → (Nat → Nat → Int) → Int → Prop := fun P G ps P' G' rn => P' = P ∧ G' = G ∧ rn = zc_sf (fun h p => M 42 (2000 + (6 * h + p))) npξ 24
theorem zX_sfr {l : Launch} {w : zk_W} (hWξ : zh_W w) (A : Nat → Nat) (M : Nat → Nat → Int) (npξ : Nat) : zk_metX l w zt_dv zt_TB zK_sfr (zp_A (zφ_sfr A M npξ)) (zp_B (zψ_sfr A M npξ)) ∧ zk_cok w zt_TB zK_sfr := by
  refine zp_methX (cn := "WoundTownModel") zp_lkall hWξ (pl := 1873) rfl (by decide +kernel) (fun p e R s m args below meth c Q u hx hb hEξ hQξ hU5ξ heffξ hnLξ hokξ hφ => ?_)
  have hwξ := hWξ.1
  obtain ⟨p0ξ, hpsξ, tk0⟩ := zp_ps1 hokξ
  have hrmξ : zk_Kr (zk_ev (zt_types, zp_lk, zt_dv, [], [], zp_lc, zK_sfr)) = zk_Kr zK_sfr := rfl
  rw [hpsξ] at hφ ⊢
  have hφ : zM A zYr zFr M u.1 (zp_n u.2.1) ∧ p0ξ = (A 0 : Int) ∧ M 3 (2000 + 0) = (npξ : Int) ∧ npξ ≤ 6 := hφ
  obtain ⟨hMξ, rfl, hnpξ, hnp6ξ⟩ := hφ
  show zp_J p l e R s m args below meth c Q w u [] 0 [(0, 2, (A 0 : Int))] [] u.1 (zp_n u.2.1)
  have loop : ∀ (k9ξ h9ξ : Nat), k9ξ + h9ξ = 24 → zp_J p l e R s m args below meth c Q w u [] 4 [(2, 0, (h9ξ : Int)), (1, 0, (zc_sf (fun h p => M 42 (2000 + (6 * h + p))) npξ h9ξ)), (0, 2, (A 0 : Int))] [] u.1 (zp_n u.2.1) := by
    intro k9ξ
    induction k9ξ with
    | zero =>
      intro h9ξ hkξ
      obtain rfl : h9ξ = 24 := by omega
      have hsbξ := zc_sfb (sp := (fun h p => M 42 (2000 + (6 * h + p)))) (npξ := npξ) (h := 24)
      refine zp_load (pc := 4) hx hb (zd_X12_standsFrom (4, .iload_n 2, 1, 0, []) (List.mem_of_getElem? (i := 4) rfl)) rfl (j := 0) rfl ?_
      refine zp_const (pc := 5) hx hb (zd_X12_standsFrom (5, .bipush 24, 2, 0, []) (List.mem_of_getElem? (i := 5) rfl)) rfl rfl ?_
      refine zp_icmp (pc := 7) (tgt := 56) hx hb (zd_X12_standsFrom (7, .if_icmp .ge 49, 3, 0, []) (List.mem_of_getElem? (i := 6) rfl)) rfl (fun (hc478ξ : 24 ≤ (24 : Int)) => ?_) (fun (hc478ξ : ¬ (24 ≤ (24 : Int))) => ?_)
      · refine zp_load (pc := 56) hx hb (zd_X12_standsFrom (56, .iload_n 1, 1, 0, []) (List.mem_of_getElem? (i := 34) rfl)) rfl (j := 1) rfl ?_
        refine zp_iret (pc := 57) (n := (zc_sf (fun h p => M 42 (2000 + (6 * h + p))) npξ 24)) hx hb hEξ hQξ hU5ξ rfl (by decide) (zd_X12_standsFrom (57, .ireturn, 1, 0, []) (List.mem_of_getElem? (i := 35) rfl)) (j := 0) rfl (zp_o0 (by omega) (by omega) (by omega) (by omega)) ?_
        rw [hpsξ]
        refine ⟨rfl, rfl, ?_⟩
        rfl
      · exfalso
        omega
    | succ k9ξ ih =>
      intro h9ξ hkξ
      have hsbξ := zc_sfb (sp := (fun h p => M 42 (2000 + (6 * h + p)))) (npξ := npξ) (h := h9ξ)
      have loopp : ∀ (r9ξ p9ξ : Nat), r9ξ + p9ξ = npξ → zp_J p l e R s m args below meth c Q w u [] 12 [(3, 0, (p9ξ : Int)), (2, 0, (h9ξ : Int)), (1, 0, (if zc_an (fun p => M 42 (2000 + (6 * h9ξ + p))) p9ξ = true then (h9ξ : Int) + 1 else zc_sf (fun h p => M 42 (2000 + (6 * h + p))) npξ h9ξ)), (0, 2, (A 0 : Int))] [] u.1 (zp_n u.2.1) := by
        intro r9ξ
        induction r9ξ with
        | zero =>
          intro p9ξ hrξ
          have e9ξ : p9ξ = npξ := by omega
          rw [e9ξ]
          refine zp_load (pc := 12) hx hb (zd_X12_standsFrom (12, .iload_n 3, 1, 0, []) (List.mem_of_getElem? (i := 9) rfl)) rfl (j := 0) rfl ?_
          refine zp_load (pc := 13) hx hb (zd_X12_standsFrom (13, .aload_n 0, 1, 0, []) (List.mem_of_getElem? (i := 10) rfl)) rfl (j := 3) rfl ?_
          refine zp_getf (n := (A 3 : Int)) (pc := 14) hx hb hEξ hwξ (zd_X12_standsFrom (14, .getfield 13, 3, 0, []) (List.mem_of_getElem? (i := 11) rfl)) (j := 21) rfl rfl rfl (zM_P hMξ (List.mem_of_getElem? (i := 0) rfl)) ((zM_G hMξ (List.mem_of_getElem? (i := 0) rfl) 3).trans (zM_F hMξ (List.mem_of_getElem? (i := 1) rfl))) ?_
          refine zp_const (pc := 17) hx hb (zd_X12_standsFrom (17, .iconst 0, 1, 0, []) (List.mem_of_getElem? (i := 12) rfl)) rfl rfl ?_
          refine zp_ialdT (j := 0) (v := (npξ : Int)) (pc := 18) hx hb hwξ (zd_X12_standsFrom (18, .iaload, 1, 0, []) (List.mem_of_getElem? (i := 13) rfl)) zl_T59 rfl (zl_kd 0) (zM_P hMξ (List.mem_of_getElem? (i := 2) rfl)) (by omega) (show 0 < 5580 by omega) ((zM_G hMξ (List.mem_of_getElem? (i := 2) rfl) (2000 + 0)).trans hnpξ) (fun _ => ?_)
          refine zp_icmp (pc := 19) (tgt := 50) hx hb (zd_X12_standsFrom (19, .if_icmp .ge 31, 3, 0, []) (List.mem_of_getElem? (i := 14) rfl)) rfl (fun (hc480ξ : (npξ : Int) ≤ (npξ : Int)) => ?_) (fun (hc480ξ : ¬ ((npξ : Int) ≤ (npξ : Int))) => ?_)
          · refine zp_iinc (L' := [(2, 0, ((h9ξ : Int) + 1)), (3, 0, (npξ : Int)), (1, 0, (if zc_an (fun p => M 42 (2000 + (6 * h9ξ + p))) npξ = true then (h9ξ : Int) + 1 else zc_sf (fun h p => M 42 (2000 + (6 * h + p))) npξ h9ξ)), (0, 2, (A 0 : Int))]) (n := ((h9ξ : Int) + 1)) (pc := 50) hx hb hnLξ (zd_X12_standsFrom (50, .iinc 2 1, 3, 0, []) (List.mem_of_getElem? (i := 32) rfl)) (j := 1) rfl (by omega) (zp_r0 (by omega) (by omega)) rfl rfl ?_
            refine zp_goto (tgt := 4) (pc := 53) hx hb (zd_X12_standsFrom (53, .goto (-49), 3, 0, []) (List.mem_of_getElem? (i := 33) rfl)) rfl ?_
            refine zp_drop (L' := [(2, 0, ((h9ξ : Int) + 1)), (1, 0, (if zc_an (fun p => M 42 (2000 + (6 * h9ξ + p))) npξ = true then (h9ξ : Int) + 1 else zc_sf (fun h p => M 42 (2000 + (6 * h + p))) npξ h9ξ)), (0, 2, (A 0 : Int))]) (by simp) ?_
            exact ih (h9ξ + 1) (by omega)
          · exfalso
            omega
        | succ r9ξ ihp =>
          intro p9ξ hrξ
          refine zp_load (pc := 12) hx hb (zd_X12_standsFrom (12, .iload_n 3, 1, 0, []) (List.mem_of_getElem? (i := 9) rfl)) rfl (j := 0) rfl ?_
          refine zp_load (pc := 13) hx hb (zd_X12_standsFrom (13, .aload_n 0, 1, 0, []) (List.mem_of_getElem? (i := 10) rfl)) rfl (j := 3) rfl ?_
          refine zp_getf (n := (A 3 : Int)) (pc := 14) hx hb hEξ hwξ (zd_X12_standsFrom (14, .getfield 13, 3, 0, []) (List.mem_of_getElem? (i := 11) rfl)) (j := 21) rfl rfl rfl (zM_P hMξ (List.mem_of_getElem? (i := 0) rfl)) ((zM_G hMξ (List.mem_of_getElem? (i := 0) rfl) 3).trans (zM_F hMξ (List.mem_of_getElem? (i := 1) rfl))) ?_
          refine zp_const (pc := 17) hx hb (zd_X12_standsFrom (17, .iconst 0, 1, 0, []) (List.mem_of_getElem? (i := 12) rfl)) rfl rfl ?_
          refine zp_ialdT (j := 0) (v := (npξ : Int)) (pc := 18) hx hb hwξ (zd_X12_standsFrom (18, .iaload, 1, 0, []) (List.mem_of_getElem? (i := 13) rfl)) zl_T59 rfl (zl_kd 0) (zM_P hMξ (List.mem_of_getElem? (i := 2) rfl)) (by omega) (show 0 < 5580 by omega) ((zM_G hMξ (List.mem_of_getElem? (i := 2) rfl) (2000 + 0)).trans hnpξ) (fun _ => ?_)
          refine zp_icmp (pc := 19) (tgt := 50) hx hb (zd_X12_standsFrom (19, .if_icmp .ge 31, 3, 0, []) (List.mem_of_getElem? (i := 14) rfl)) rfl (fun (hc482ξ : (npξ : Int) ≤ (p9ξ : Int)) => ?_) (fun (hc482ξ : ¬ ((npξ : Int) ≤ (p9ξ : Int))) => ?_)
          · exfalso
            omega
          · refine zp_load (pc := 22) hx hb (zd_X12_standsFrom (22, .aload_n 0, 1, 0, []) (List.mem_of_getElem? (i := 15) rfl)) rfl (j := 3) rfl ?_
            refine zp_getf (n := (A 42 : Int)) (pc := 23) hx hb hEξ hwξ (zd_X12_standsFrom (23, .getfield 113, 3, 0, []) (List.mem_of_getElem? (i := 16) rfl)) (j := 60) rfl rfl rfl (zM_P hMξ (List.mem_of_getElem? (i := 0) rfl)) ((zM_G hMξ (List.mem_of_getElem? (i := 0) rfl) 42).trans (zM_F hMξ (List.mem_of_getElem? (i := 21) rfl))) ?_
            refine zp_const (pc := 26) hx hb (zd_X12_standsFrom (26, .bipush 6, 2, 0, []) (List.mem_of_getElem? (i := 17) rfl)) rfl rfl ?_
            refine zp_load (pc := 28) hx hb (zd_X12_standsFrom (28, .iload_n 2, 1, 0, []) (List.mem_of_getElem? (i := 18) rfl)) rfl (j := 1) rfl ?_
            refine zp_mul (n := (6 * (h9ξ : Int))) (pc := 29) hx hb (zd_X12_standsFrom (29, .imul, 1, 0, []) (List.mem_of_getElem? (i := 19) rfl)) (by omega) (zp_r0 (by omega) (by omega)) ?_
            refine zp_load (pc := 30) hx hb (zd_X12_standsFrom (30, .iload_n 3, 1, 0, []) (List.mem_of_getElem? (i := 20) rfl)) rfl (j := 0) rfl ?_
            refine zp_add (n := (6 * (h9ξ : Int) + (p9ξ : Int))) (pc := 31) hx hb (zd_X12_standsFrom (31, .iadd, 1, 0, []) (List.mem_of_getElem? (i := 21) rfl)) (by omega) (zp_r0 (by omega) (by omega)) ?_
            refine zp_iald (j := (6 * h9ξ + p9ξ)) (v := (M 42 (2000 + (6 * h9ξ + p9ξ)))) (pc := 32) hx hb hwξ (zd_X12_standsFrom (32, .iaload, 1, 0, []) (List.mem_of_getElem? (i := 22) rfl)) (show zp_ia 1 79 = some (144, 0, 0, (-2147483648), 2147483647) from rfl) (zM_P hMξ (List.mem_of_getElem? (i := 22) rfl)) (by omega) (by omega) (zM_G hMξ (List.mem_of_getElem? (i := 22) rfl) (2000 + (6 * h9ξ + p9ξ))) (fun hk483ξ => ?_)
            have hk483bξ := zp_int hk483ξ
            clear hk483ξ
            refine zp_if (pc := 33) (tgt := 42) hx hb (zd_X12_standsFrom (33, .ifCond .le 9, 3, 0, []) (List.mem_of_getElem? (i := 23) rfl)) rfl (fun (hc484ξ : (M 42 (2000 + (6 * h9ξ + p9ξ))) ≤ 0) => ?_) (fun (hc484ξ : ¬ ((M 42 (2000 + (6 * h9ξ + p9ξ))) ≤ 0)) => ?_)
            · refine zp_load (pc := 42) hx hb (zd_X12_standsFrom (42, .iload_n 1, 1, 0, []) (List.mem_of_getElem? (i := 28) rfl)) rfl (j := 2) rfl ?_
              refine zp_store (L' := [(1, 0, (if zc_an (fun p => M 42 (2000 + (6 * h9ξ + p))) p9ξ = true then (h9ξ : Int) + 1 else zc_sf (fun h p => M 42 (2000 + (6 * h + p))) npξ h9ξ)), (3, 0, (p9ξ : Int)), (2, 0, (h9ξ : Int)), (0, 2, (A 0 : Int))]) (pc := 43) hx hb hnLξ (zd_X12_standsFrom (43, .istore_n 1, 1, 0, []) (List.mem_of_getElem? (i := 29) rfl)) rfl rfl rfl ?_
              refine zp_iinc (L' := [(3, 0, ((p9ξ : Int) + 1)), (1, 0, (if zc_an (fun p => M 42 (2000 + (6 * h9ξ + p))) p9ξ = true then (h9ξ : Int) + 1 else zc_sf (fun h p => M 42 (2000 + (6 * h + p))) npξ h9ξ)), (2, 0, (h9ξ : Int)), (0, 2, (A 0 : Int))]) (n := ((p9ξ : Int) + 1)) (pc := 44) hx hb hnLξ (zd_X12_standsFrom (44, .iinc 3 1, 3, 0, []) (List.mem_of_getElem? (i := 30) rfl)) (j := 1) rfl (by omega) (zp_r0 (by omega) (by omega)) rfl rfl ?_
              refine zp_goto (tgt := 12) (pc := 47) hx hb (zd_X12_standsFrom (47, .goto (-35), 3, 0, []) (List.mem_of_getElem? (i := 31) rfl)) rfl ?_
              have hq9ξ : (if zc_an (fun p => M 42 (2000 + (6 * h9ξ + p))) p9ξ = true then (h9ξ : Int) + 1 else zc_sf (fun h p => M 42 (2000 + (6 * h + p))) npξ h9ξ) = (if zc_an (fun p => M 42 (2000 + (6 * h9ξ + p))) (p9ξ + 1) = true then (h9ξ : Int) + 1 else zc_sf (fun h p => M 42 (2000 + (6 * h + p))) npξ h9ξ) := by
                rw [zc_an]
                rw [decide_eq_false (show ¬ 0 < M 42 (2000 + (6 * h9ξ + p9ξ)) by omega), Bool.or_false]
              rw [hq9ξ]
              refine zp_drop (L' := [(3, 0, ((p9ξ : Int) + 1)), (2, 0, (h9ξ : Int)), (1, 0, (if zc_an (fun p => M 42 (2000 + (6 * h9ξ + p))) (p9ξ + 1) = true then (h9ξ : Int) + 1 else zc_sf (fun h p => M 42 (2000 + (6 * h + p))) npξ h9ξ)), (0, 2, (A 0 : Int))]) (by simp) ?_
              exact ihp (p9ξ + 1) (by omega)
            · refine zp_load (pc := 36) hx hb (zd_X12_standsFrom (36, .iload_n 2, 1, 0, []) (List.mem_of_getElem? (i := 24) rfl)) rfl (j := 1) rfl ?_
              refine zp_const (pc := 37) hx hb (zd_X12_standsFrom (37, .iconst 1, 1, 0, []) (List.mem_of_getElem? (i := 25) rfl)) rfl rfl ?_
              refine zp_add (n := ((h9ξ : Int) + 1)) (pc := 38) hx hb (zd_X12_standsFrom (38, .iadd, 1, 0, []) (List.mem_of_getElem? (i := 26) rfl)) (by omega) (zp_r0 (by omega) (by omega)) ?_
              refine zp_goto (tgt := 43) (pc := 39) hx hb (zd_X12_standsFrom (39, .goto 4, 3, 0, []) (List.mem_of_getElem? (i := 27) rfl)) rfl ?_
              refine zp_store (L' := [(1, 0, ((h9ξ : Int) + 1)), (3, 0, (p9ξ : Int)), (2, 0, (h9ξ : Int)), (0, 2, (A 0 : Int))]) (pc := 43) hx hb hnLξ (zd_X12_standsFrom (43, .istore_n 1, 1, 0, []) (List.mem_of_getElem? (i := 29) rfl)) rfl rfl rfl ?_
              refine zp_iinc (L' := [(3, 0, ((p9ξ : Int) + 1)), (1, 0, ((h9ξ : Int) + 1)), (2, 0, (h9ξ : Int)), (0, 2, (A 0 : Int))]) (n := ((p9ξ : Int) + 1)) (pc := 44) hx hb hnLξ (zd_X12_standsFrom (44, .iinc 3 1, 3, 0, []) (List.mem_of_getElem? (i := 30) rfl)) (j := 1) rfl (by omega) (zp_r0 (by omega) (by omega)) rfl rfl ?_
              refine zp_goto (tgt := 12) (pc := 47) hx hb (zd_X12_standsFrom (47, .goto (-35), 3, 0, []) (List.mem_of_getElem? (i := 31) rfl)) rfl ?_
              have hq9ξ : ((h9ξ : Int) + 1) = (if zc_an (fun p => M 42 (2000 + (6 * h9ξ + p))) (p9ξ + 1) = true then (h9ξ : Int) + 1 else zc_sf (fun h p => M 42 (2000 + (6 * h + p))) npξ h9ξ) := by
                rw [zc_an]
                rw [decide_eq_true (show 0 < M 42 (2000 + (6 * h9ξ + p9ξ)) by omega), Bool.or_true, if_pos rfl]
              rw [hq9ξ]
              refine zp_drop (L' := [(3, 0, ((p9ξ : Int) + 1)), (2, 0, (h9ξ : Int)), (1, 0, (if zc_an (fun p => M 42 (2000 + (6 * h9ξ + p))) (p9ξ + 1) = true then (h9ξ : Int) + 1 else zc_sf (fun h p => M 42 (2000 + (6 * h + p))) npξ h9ξ)), (0, 2, (A 0 : Int))]) (by simp) ?_
              exact ihp (p9ξ + 1) (by omega)
      refine zp_load (pc := 4) hx hb (zd_X12_standsFrom (4, .iload_n 2, 1, 0, []) (List.mem_of_getElem? (i := 4) rfl)) rfl (j := 0) rfl ?_
      refine zp_const (pc := 5) hx hb (zd_X12_standsFrom (5, .bipush 24, 2, 0, []) (List.mem_of_getElem? (i := 5) rfl)) rfl rfl ?_
      refine zp_icmp (pc := 7) (tgt := 56) hx hb (zd_X12_standsFrom (7, .if_icmp .ge 49, 3, 0, []) (List.mem_of_getElem? (i := 6) rfl)) rfl (fun (hc485ξ : 24 ≤ (h9ξ : Int)) => ?_) (fun (hc485ξ : ¬ (24 ≤ (h9ξ : Int))) => ?_)
      · exfalso
        omega
      · refine zp_const (pc := 10) hx hb (zd_X12_standsFrom (10, .iconst 0, 1, 0, []) (List.mem_of_getElem? (i := 7) rfl)) rfl rfl ?_
        refine zp_store (L' := [(3, 0, 0), (2, 0, (h9ξ : Int)), (1, 0, (zc_sf (fun h p => M 42 (2000 + (6 * h + p))) npξ h9ξ)), (0, 2, (A 0 : Int))]) (pc := 11) hx hb hnLξ (zd_X12_standsFrom (11, .istore_n 3, 1, 0, []) (List.mem_of_getElem? (i := 8) rfl)) rfl rfl rfl ?_
        refine zp_drop (L' := [(3, 0, 0), (2, 0, (h9ξ : Int)), (1, 0, (zc_sf (fun h p => M 42 (2000 + (6 * h + p))) npξ h9ξ)), (0, 2, (A 0 : Int))]) (by simp) ?_
        exact loopp npξ 0 (by omega)
  refine zp_const (pc := 0) hx hb (zd_X12_standsFrom (0, .iconst 0, 1, 0, []) (List.mem_of_getElem? (i := 0) rfl)) rfl rfl ?_
  refine zp_store (L' := [(1, 0, 0), (0, 2, (A 0 : Int))]) (pc := 1) hx hb hnLξ (zd_X12_standsFrom (1, .istore_n 1, 1, 0, []) (List.mem_of_getElem? (i := 1) rfl)) rfl rfl rfl ?_
  refine zp_const (pc := 2) hx hb (zd_X12_standsFrom (2, .iconst 0, 1, 0, []) (List.mem_of_getElem? (i := 2) rfl)) rfl rfl ?_
  refine zp_store (L' := [(2, 0, 0), (1, 0, 0), (0, 2, (A 0 : Int))]) (pc := 3) hx hb hnLξ (zd_X12_standsFrom (3, .istore_n 2, 1, 0, []) (List.mem_of_getElem? (i := 3) rfl)) rfl rfl rfl ?_
  refine zp_drop (L' := [(2, 0, 0), (1, 0, 0), (0, 2, (A 0 : Int))]) (by simp) ?_
  exact loop 24 0 (by omega)
theorem zc_an_c {s s' : Nat → Int} : ∀ {n : Nat}, (∀ p, p < n → s' p = s p) → zc_an s' n = zc_an s n
  | 0, _ => rfl
  | n + 1, h => by
    rw [zc_an, zc_an, zc_an_c (n := n) (fun p hpξ => h p (by omega)), h n (by omega)]
theorem zc_sf_c {sp sp' : Nat → Nat → Int} {npξ : Nat} : ∀ {n : Nat}, (∀ h p, h < n → p < npξ → sp' h p = sp h p) → zc_sf sp' npξ n = zc_sf sp npξ n
  | 0, _ => rfl
  | n + 1, h => by
    rw [zc_sf, zc_sf, zc_sf_c (n := n) (fun a b haξ hb => h a b (by omega) hb), zc_an_c (s := sp n) (s' := sp' n) (fun p hpξ => h n p (by omega) hpξ)]
noncomputable def zf_dyr (V : Nat → Nat → Int) (n1ξ npξ : Nat) (Lwξ : List yK) (p1ξ : Int) (p2ξ : Int) : Int × (Nat → Nat → Int) := if 0 ≤ p1ξ ∧ p1ξ ≤ 12 then if 0 ≤ p2ξ ∧ p2ξ ≤ 2 then if ¬ p2ξ = 0 then if ¬ p2ξ = 1 then ((zc_md (zd_X V n1ξ npξ Lwξ p1ξ) (fun w => V 3 (2000 + (5 * w + 40))) n1ξ), (zp_set V 0 0 0)) else ((zc_wt (zd_X V n1ξ npξ Lwξ p1ξ) (fun w => V 3 (2000 + (5 * w + 41))) (fun w => V 3 (2000 + (5 * w + 42))) n1ξ), (zp_set V 0 0 0)) else ((zc_sf (fun h p => zd_sp (zRw V) Lwξ p1ξ (zd_pw (zd_ru (zRw V) Lwξ p1ξ) p1ξ h) h p) npξ 24), (zp_set V 0 0 0)) else ((-1), (zp_set V 0 0 0)) else ((-1), (zp_set V 0 0 0))
noncomputable def zK_dyr : zk_K := (zt_mn 254, prog_14_method_82_code, 6, (Option.some Jvm.ClassFile.FieldType.int), 1, 12, [(2, 13, 0, 0), (0, 0, (-2147483648), 2147483647), (0, 0, (-2147483648), 2147483647)], [(some (0, 0, (-2147483648), 2147483647), [])], zUE, (6, 340, 0, 0))
noncomputable def zφ_dyr (A : Nat → Nat) (V : Nat → Nat → Int) (n1ξ npξ : Nat) (Lwξ : List yK) : (Nat → Option Nat) → (Nat → Nat → Int) → List Int → Prop := fun P G ps => zMVr A V P G ∧ ps.getD 0 0 = (A 0 : Int) ∧ zLV V Lwξ ∧ zd_ok (zRw V) n1ξ npξ ∧ V 0 47 = -1 ∧ ∀ w, w < n1ξ → 0 ≤ V 3 (2000 + (5 * w + 42)) ∧ V 3 (2000 + (5 * w + 42)) ≤ 1000
noncomputable def zψ_dyr (A : Nat → Nat) (V : Nat → Nat → Int) (n1ξ npξ : Nat) (Lwξ : List yK) : (Nat → Option Nat) → (Nat → Nat → Int) → List Int → (Nat → Option Nat) → (Nat → Nat → Int) → Int → Prop := fun P G ps P' G' rn => P' = P ∧ zMVr A (zf_dyr V n1ξ npξ Lwξ (ps.getD 1 0) (ps.getD 2 0)).2 P' G' ∧ rn = (zf_dyr V n1ξ npξ Lwξ (ps.getD 1 0) (ps.getD 2 0)).1
theorem zX_dyr {l : Launch} {w : zk_W} (hWξ : zh_W w) (A : Nat → Nat) (V : Nat → Nat → Int) (n1ξ npξ : Nat) (Lwξ : List yK) : zk_metX l w zt_dv zt_TB zK_dyr (zp_A (zφ_dyr A V n1ξ npξ Lwξ)) (zp_B (zψ_dyr A V n1ξ npξ Lwξ)) ∧ zk_cok w zt_TB zK_dyr := by
  refine zp_methX (cn := "WoundTownModel") zp_lkall hWξ (pl := 1868) rfl (by decide +kernel) (fun p e R s m args below meth c Q u hx hb hEξ hQξ hU5ξ heffξ hnLξ hokξ hφ => ?_)
  have hwξ := hWξ.1
  obtain ⟨p0ξ, p1ξ, p2ξ, hpsξ, tk0, tk1, tk2⟩ := zp_ps3 hokξ
  have hrmξ : zk_Kr (zk_ev (zt_types, zp_lk, zt_dv, [], [], zp_lc, zK_dyr)) = zk_Kr zK_dyr := rfl
  rw [hpsξ] at hφ ⊢
  have hφ : zMVr A V u.1 (zp_n u.2.1) ∧ p0ξ = (A 0 : Int) ∧ zLV V Lwξ ∧ zd_ok (zRw V) n1ξ npξ ∧ V 0 47 = -1 ∧ ∀ w, w < n1ξ → 0 ≤ V 3 (2000 + (5 * w + 42)) ∧ V 3 (2000 + (5 * w + 42)) ≤ 1000 := hφ
  obtain ⟨⟨M, hMξ, hVξ, hSbξ⟩, rfl, hLVξ, hDξ, h47ξ, hwoξ⟩ := hφ
  have hi1ξ := zp_int tk1
  have hi2ξ := zp_int tk2
  show zp_J p l e R s m args below meth c Q w u [] 0 [(0, 2, (A 0 : Int)), (1, 0, p1ξ), (2, 0, p2ξ)] [] u.1 (zp_n u.2.1)
  have hDkξ := hDξ
  obtain ⟨hn10ξ, hnp6ξ, hn1ξ, hnpξ, hDwξ, hDpξ⟩ := hDξ
  have hn1ξ : V 3 (2000 + 1) = (n1ξ : Int) := hn1ξ
  have hnpξ : V 3 (2000 + 0) = (npξ : Int) := hnpξ
  refine zp_load (pc := 0) hx hb (zd_X12_day (0, .aload_n 0, 1, 0, []) (List.mem_of_getElem? (i := 0) rfl)) rfl (j := 0) rfl ?_
  refine zp_const (pc := 1) hx hb (zd_X12_day (1, .iconst 0, 1, 0, []) (List.mem_of_getElem? (i := 1) rfl)) rfl rfl ?_
  refine zp_putf (pc := 2) hx hb hEξ hwξ heffξ (zd_X12_day (2, .putfield 161, 3, 0, []) (List.mem_of_getElem? (i := 2) rfl)) (j := 18) rfl rfl rfl (zM_P hMξ (List.mem_of_getElem? (i := 0) rfl)) (zp_o0 (by decide) (by decide) (by decide) (by decide)) ?_
  refine zp_load (pc := 5) hx hb (zd_X12_day (5, .iload_n 1, 1, 0, []) (List.mem_of_getElem? (i := 3) rfl)) rfl (j := 1) rfl ?_
  refine zp_i2l (pc := 6) hx hb (zd_X12_day (6, .i2l, 1, 0, []) (List.mem_of_getElem? (i := 4) rfl)) ?_
  refine zp_const (pc := 7) hx hb (zd_X12_day (7, .lconst 0, 1, 0, []) (List.mem_of_getElem? (i := 5) rfl)) rfl rfl ?_
  refine zp_ldc2 (pc := 8) hx hb hEξ (zd_X12_day (8, .ldc2_w 431, 3, 0, []) (List.mem_of_getElem? (i := 6) rfl)) (j := 105) rfl ?_
  refine zp_call (pc := 11) (how := 1) (idx := 181) (mi := 186) (S := []) hx hb hEξ hwξ heffξ hrmξ (zX_in2 hWξ) rfl (j := 2) rfl rfl (by decide +kernel) (zd_X12_day (11, .invokestatic 181, 3, 0, []) (List.mem_of_getElem? (i := 7) rfl)) [p1ξ, 0, 12] rfl ⟨zp_o1 (by first | assumption | exact zp_r1 (by omega) (by omega)), zp_o1 (by first | assumption | exact zp_r1 (by omega) (by omega)), zp_o1 (by first | assumption | exact zp_r1 (by omega) (by omega)), trivial⟩ (Nat.le_of_ble_eq_true rfl) trivial (fun al halξ rnn486ξ Pn486 Gn486 hextn486ξ hfrn486ξ hokn486ξ hcsn486ξ hpsin486ξ => ?_)
  obtain rfl := List.mem_singleton.mp halξ
  have hrn486ξ := zp_int (hokn486ξ _ rfl).1
  obtain ⟨hPen486ξ, hGen486ξ, htn486ξ⟩ := hpsin486ξ
  rw [hPen486ξ, hGen486ξ]
  clear hextn486ξ hfrn486ξ hcsn486ξ hPen486ξ hGen486ξ
  have htn486ξ : rnn486ξ = 1 ↔ 0 ≤ p1ξ ∧ p1ξ ≤ 12 := htn486ξ
  refine zp_if (pc := 14) (tgt := 29) hx hb (zd_X12_day (14, .ifCond .eq 15, 3, 0, []) (List.mem_of_getElem? (i := 8) rfl)) rfl (fun (hc487ξ : rnn486ξ = 0) => ?_) (fun (hc487ξ : ¬ (rnn486ξ = 0)) => ?_)
  · have hbf488ξ : ¬ (0 ≤ p1ξ ∧ p1ξ ≤ 12) := fun h9ξ => absurd ((Iff.mpr htn486ξ) h9ξ) (by omega)
    refine zp_const (pc := 29) hx hb (zd_X12_day (29, .iconst (-1), 1, 0, []) (List.mem_of_getElem? (i := 15) rfl)) rfl rfl ?_
    refine zp_iret (pc := 30) (n := (-1)) hx hb hEξ hQξ hU5ξ rfl (by decide) (zd_X12_day (30, .ireturn, 1, 0, []) (List.mem_of_getElem? (i := 16) rfl)) (j := 0) rfl (zp_o0 (by omega) (by omega) (by omega) (by omega)) ?_
    rw [hpsξ]
    refine ⟨rfl, ?_⟩
    have hffξ : zf_dyr V n1ξ npξ Lwξ p1ξ p2ξ = ((-1), (zp_set V 0 0 0)) := by
      unfold zf_dyr
      rw [if_neg (fun h9ξ => absurd ((Iff.mpr htn486ξ) h9ξ) (by omega))]
    show zMVr A (zf_dyr V n1ξ npξ Lwξ p1ξ p2ξ).2 u.1 (zp_set (zp_n u.2.1) (A 0) 0 0) ∧ (-1) = (zf_dyr V n1ξ npξ Lwξ p1ξ p2ξ).1
    rw [hffξ]
    exact ⟨⟨(zp_set M 0 0 0), (zM_set hMξ (List.mem_of_getElem? (i := 0) rfl) (by decide)), (zV_set hVξ), (zSb_set (by decide) hSbξ)⟩, rfl⟩
  · have hbt489ξ := (Iff.mp htn486ξ) (by omega)
    refine zp_load (pc := 17) hx hb (zd_X12_day (17, .iload_n 2, 1, 0, []) (List.mem_of_getElem? (i := 9) rfl)) rfl (j := 2) rfl ?_
    refine zp_i2l (pc := 18) hx hb (zd_X12_day (18, .i2l, 1, 0, []) (List.mem_of_getElem? (i := 10) rfl)) ?_
    refine zp_const (pc := 19) hx hb (zd_X12_day (19, .lconst 0, 1, 0, []) (List.mem_of_getElem? (i := 11) rfl)) rfl rfl ?_
    refine zp_ldc2 (pc := 20) hx hb hEξ (zd_X12_day (20, .ldc2_w 460, 3, 0, []) (List.mem_of_getElem? (i := 12) rfl)) (j := 110) rfl ?_
    refine zp_call (pc := 23) (how := 1) (idx := 181) (mi := 186) (S := []) hx hb hEξ hwξ heffξ hrmξ (zX_in2 hWξ) rfl (j := 2) rfl rfl (by decide +kernel) (zd_X12_day (23, .invokestatic 181, 3, 0, []) (List.mem_of_getElem? (i := 13) rfl)) [p2ξ, 0, 2] rfl ⟨zp_o1 (by first | assumption | exact zp_r1 (by omega) (by omega)), zp_o1 (by first | assumption | exact zp_r1 (by omega) (by omega)), zp_o1 (by first | assumption | exact zp_r1 (by omega) (by omega)), trivial⟩ (Nat.le_of_ble_eq_true rfl) trivial (fun al halξ rnn490ξ Pn490 Gn490 hextn490ξ hfrn490ξ hokn490ξ hcsn490ξ hpsin490ξ => ?_)
    obtain rfl := List.mem_singleton.mp halξ
    have hrn490ξ := zp_int (hokn490ξ _ rfl).1
    obtain ⟨hPen490ξ, hGen490ξ, htn490ξ⟩ := hpsin490ξ
    rw [hPen490ξ, hGen490ξ]
    clear hextn490ξ hfrn490ξ hcsn490ξ hPen490ξ hGen490ξ
    have htn490ξ : rnn490ξ = 1 ↔ 0 ≤ p2ξ ∧ p2ξ ≤ 2 := htn490ξ
    refine zp_if (pc := 26) (tgt := 31) hx hb (zd_X12_day (26, .ifCond .ne 5, 3, 0, []) (List.mem_of_getElem? (i := 14) rfl)) rfl (fun (hc491ξ : ¬ rnn490ξ = 0) => ?_) (fun (hc491ξ : ¬ (¬ rnn490ξ = 0)) => ?_)
    · have hbt492ξ := (Iff.mp htn490ξ) (by omega)
      refine zp_load (pc := 31) hx hb (zd_X12_day (31, .aload_n 0, 1, 0, []) (List.mem_of_getElem? (i := 17) rfl)) rfl (j := 0) rfl ?_
      refine zp_load (pc := 32) hx hb (zd_X12_day (32, .iload_n 1, 1, 0, []) (List.mem_of_getElem? (i := 18) rfl)) rfl (j := 1) rfl ?_
      have hVyξ : ∀ o k, zNs o k → (zp_set M 0 0 0) o k = (zp_set V 0 0 0) o k := (zV_set hVξ)
      have h47yξ : (zp_set V 0 0 0) 0 47 = -1 := ((zp_set_ne (Or.inr (by decide))).trans ((Eq.trans rfl h47ξ)))
      have hLyξ : zLV (zp_set V 0 0 0) Lwξ := (zLV_o (by decide) (Or.inr (by decide)) hLVξ)
      refine zp_call (pc := 33) (how := 0) (idx := 457) (mi := 248) (S := []) hx hb hEξ hwξ heffξ hrmξ (zX_lay hWξ A (zp_set M 0 0 0) n1ξ npξ (zRw V) Lwξ) rfl (j := 47) rfl rfl (by decide +kernel) (zd_X12_day (33, .invokevirtual 457, 3, 0, []) (List.mem_of_getElem? (i := 19) rfl)) [(A 0 : Int), p1ξ] rfl ⟨zp_o2 (zM_P hMξ (List.mem_of_getElem? (i := 0) rfl)), zp_o0 (by omega) (by omega) (by omega) (by omega), trivial⟩ (Nat.le_of_ble_eq_true rfl) ⟨(zM_set hMξ (List.mem_of_getElem? (i := 0) rfl) (by decide)), rfl, (hVyξ 0 47 (Or.inr (by decide))).trans h47yξ, (hVyξ 0 20 (Or.inr (by decide))).trans hLyξ.2.2.2.2, hDkξ, fun j => (hVyξ 3 _ (Or.inl (by decide))).trans ((zp_set_ne (Or.inl (by decide))).trans (rfl)), hLVξ.1, hLVξ.2.1, hLVξ.2.2.1, (zSb_set (by decide) hSbξ), (show (0 : Int) ≤ p1ξ by omega), (show (p1ξ : Int) ≤ 12 by omega)⟩ (fun al halξ rnl Pl Gl hextlξ hfrlξ hoklξ hcslξ hpsilξ => ?_)
      obtain rfl := List.mem_singleton.mp halξ
      obtain ⟨hPelξ, Ml, hMlξ, htlξ⟩ := hpsilξ
      subst hPelξ
      obtain ⟨hNlξ, hSlξ, hDlξ, hxlξ⟩ := htlξ
      have hVlξ : ∀ o k, zNs o k → Ml o k = (zp_set V 0 0 0) o k := fun o k hkξ => (hNlξ o k hkξ).trans (hVyξ o k hkξ)
      have hRlξ : ∀ j, j < 5580 → -2147483648 ≤ Ml 3 (2000 + j) ∧ Ml 3 (2000 + j) ≤ 2147483647 := fun j hjξ => by rw [hVlξ 3 _ (Or.inl (by decide)), zp_set_ne (Or.inl (by decide))]; exact hLVξ.1 j hjξ
      refine zp_load (pc := 36) hx hb (zd_X12_day (36, .iload_n 2, 1, 0, []) (List.mem_of_getElem? (i := 20) rfl)) rfl (j := 2) rfl ?_
      refine zp_if (pc := 37) (tgt := 45) hx hb (zd_X12_day (37, .ifCond .ne 8, 3, 0, []) (List.mem_of_getElem? (i := 21) rfl)) rfl (fun (hc494ξ : ¬ p2ξ = 0) => ?_) (fun (hc494ξ : ¬ (¬ p2ξ = 0)) => ?_)
      · refine zp_const (pc := 45) hx hb (zd_X12_day (45, .iconst 0, 1, 0, []) (List.mem_of_getElem? (i := 25) rfl)) rfl rfl ?_
        refine zp_store (L' := [(3, 0, 0), (0, 2, (A 0 : Int)), (1, 0, p1ξ), (2, 0, p2ξ)]) (pc := 46) hx hb hnLξ (zd_X12_day (46, .istore_n 3, 1, 0, []) (List.mem_of_getElem? (i := 26) rfl)) rfl rfl rfl ?_
        refine zp_const (pc := 47) hx hb (zd_X12_day (47, .iconst 0, 1, 0, []) (List.mem_of_getElem? (i := 27) rfl)) rfl rfl ?_
        refine zp_store (L' := [(4, 0, 0), (3, 0, 0), (0, 2, (A 0 : Int)), (1, 0, p1ξ), (2, 0, p2ξ)]) (pc := 48) hx hb hnLξ (zd_X12_day (48, .istore 4, 2, 0, []) (List.mem_of_getElem? (i := 28) rfl)) rfl rfl rfl ?_
        refine zp_const (pc := 50) hx hb (zd_X12_day (50, .iconst 0, 1, 0, []) (List.mem_of_getElem? (i := 29) rfl)) rfl rfl ?_
        refine zp_store (L' := [(5, 0, 0), (4, 0, 0), (3, 0, 0), (0, 2, (A 0 : Int)), (1, 0, p1ξ), (2, 0, p2ξ)]) (pc := 51) hx hb hnLξ (zd_X12_day (51, .istore 5, 2, 0, []) (List.mem_of_getElem? (i := 30) rfl)) rfl rfl rfl ?_
        have loopd : ∀ (k9ξ w9ξ : Nat), k9ξ + w9ξ = n1ξ → zp_J p l e R s m args below meth c Q w u [] 53 [(5, 0, (w9ξ : Int)), (4, 0, (zc_md (zd_X V n1ξ npξ Lwξ p1ξ) (fun w => V 3 (2000 + (5 * w + 40))) w9ξ)), (3, 0, (zc_wt (zd_X V n1ξ npξ Lwξ p1ξ) (fun w => V 3 (2000 + (5 * w + 41))) (fun w => V 3 (2000 + (5 * w + 42))) w9ξ)), (0, 2, (A 0 : Int)), (1, 0, p1ξ), (2, 0, p2ξ)] [] u.1 Gl := by
          intro k9ξ
          induction k9ξ with
          | zero =>
            intro w9ξ hkξ
            have e9ξ : w9ξ = n1ξ := by omega
            rw [e9ξ]
            have hwbξ := zc_wtb (X := (zd_X V n1ξ npξ Lwξ p1ξ)) (due := (fun w => V 3 (2000 + (5 * w + 41)))) (wo := (fun w => V 3 (2000 + (5 * w + 42)))) (w := n1ξ) hwoξ
            have hmbξ := zc_mdb (X := (zd_X V n1ξ npξ Lwξ p1ξ)) (mi := (fun w => V 3 (2000 + (5 * w + 40)))) (w := n1ξ)
            refine zp_load (pc := 53) hx hb (zd_X12_day (53, .iload 5, 2, 0, []) (List.mem_of_getElem? (i := 31) rfl)) rfl (j := 0) rfl ?_
            refine zp_load (pc := 55) hx hb (zd_X12_day (55, .aload_n 0, 1, 0, []) (List.mem_of_getElem? (i := 32) rfl)) rfl (j := 3) rfl ?_
            refine zp_getf (n := (A 3 : Int)) (pc := 56) hx hb hEξ hwξ (zd_X12_day (56, .getfield 13, 3, 0, []) (List.mem_of_getElem? (i := 33) rfl)) (j := 21) rfl rfl rfl (zM_P hMlξ (List.mem_of_getElem? (i := 0) rfl)) ((zM_G hMlξ (List.mem_of_getElem? (i := 0) rfl) 3).trans (zM_F hMlξ (List.mem_of_getElem? (i := 1) rfl))) ?_
            refine zp_const (pc := 59) hx hb (zd_X12_day (59, .iconst 1, 1, 0, []) (List.mem_of_getElem? (i := 34) rfl)) rfl rfl ?_
            refine zp_ialdT (j := 1) (v := (n1ξ : Int)) (pc := 60) hx hb hwξ (zd_X12_day (60, .iaload, 1, 0, []) (List.mem_of_getElem? (i := 35) rfl)) zl_T59 rfl (zl_kd 1) (zM_P hMlξ (List.mem_of_getElem? (i := 2) rfl)) (by omega) (show 1 < 5580 by omega) (((zM_G hMlξ (List.mem_of_getElem? (i := 2) rfl) (2000 + 1)).trans (hVlξ 3 (2000 + 1) (Or.inl (by decide)))).trans ((zp_set_ne (Or.inl (by decide))).trans (hn1ξ))) (fun _ => ?_)
            refine zp_icmp (pc := 61) (tgt := 133) hx hb (zd_X12_day (61, .if_icmp .ge 72, 3, 0, []) (List.mem_of_getElem? (i := 36) rfl)) rfl (fun (hc496ξ : (n1ξ : Int) ≤ (n1ξ : Int)) => ?_) (fun (hc496ξ : ¬ ((n1ξ : Int) ≤ (n1ξ : Int))) => ?_)
            · refine zp_load (pc := 133) hx hb (zd_X12_day (133, .iload_n 2, 1, 0, []) (List.mem_of_getElem? (i := 74) rfl)) rfl (j := 5) rfl ?_
              refine zp_const (pc := 134) hx hb (zd_X12_day (134, .iconst 1, 1, 0, []) (List.mem_of_getElem? (i := 75) rfl)) rfl rfl ?_
              refine zp_icmp (pc := 135) (tgt := 142) hx hb (zd_X12_day (135, .if_icmp .ne 7, 3, 0, []) (List.mem_of_getElem? (i := 76) rfl)) rfl (fun (hc497ξ : ¬ p2ξ = 1) => ?_) (fun (hc497ξ : ¬ (¬ p2ξ = 1)) => ?_)
              · refine zp_load (pc := 142) hx hb (zd_X12_day (142, .iload 4, 2, 0, []) (List.mem_of_getElem? (i := 79) rfl)) rfl (j := 1) rfl ?_
                refine zp_iret (pc := 144) (n := (zc_md (zd_X V n1ξ npξ Lwξ p1ξ) (fun w => V 3 (2000 + (5 * w + 40))) n1ξ)) hx hb hEξ hQξ hU5ξ rfl (by decide) (zd_X12_day (144, .ireturn, 1, 0, []) (List.mem_of_getElem? (i := 80) rfl)) (j := 0) rfl (zp_o0 (by omega) (by omega) (by omega) (by omega)) ?_
                rw [hpsξ]
                refine ⟨rfl, ?_⟩
                have hffξ : zf_dyr V n1ξ npξ Lwξ p1ξ p2ξ = ((zc_md (zd_X V n1ξ npξ Lwξ p1ξ) (fun w => V 3 (2000 + (5 * w + 40))) n1ξ), (zp_set V 0 0 0)) := by
                  unfold zf_dyr
                  rw [if_pos ((Iff.mp htn486ξ) (by omega)), if_pos ((Iff.mp htn490ξ) (by omega)), if_pos hc494ξ, if_pos hc497ξ]
                show zMVr A (zf_dyr V n1ξ npξ Lwξ p1ξ p2ξ).2 u.1 Gl ∧ (zc_md (zd_X V n1ξ npξ Lwξ p1ξ) (fun w => V 3 (2000 + (5 * w + 40))) n1ξ) = (zf_dyr V n1ξ npξ Lwξ p1ξ p2ξ).1
                rw [hffξ]
                exact ⟨⟨Ml, hMlξ, hVlξ, hSlξ⟩, rfl⟩
              · refine zp_load (pc := 138) hx hb (zd_X12_day (138, .iload_n 3, 1, 0, []) (List.mem_of_getElem? (i := 77) rfl)) rfl (j := 2) rfl ?_
                refine zp_goto (tgt := 144) (pc := 139) hx hb (zd_X12_day (139, .goto 5, 3, 0, []) (List.mem_of_getElem? (i := 78) rfl)) rfl ?_
                refine zp_iret (pc := 144) (n := (zc_wt (zd_X V n1ξ npξ Lwξ p1ξ) (fun w => V 3 (2000 + (5 * w + 41))) (fun w => V 3 (2000 + (5 * w + 42))) n1ξ)) hx hb hEξ hQξ hU5ξ rfl (by decide) (zd_X12_day (144, .ireturn, 1, 0, []) (List.mem_of_getElem? (i := 80) rfl)) (j := 0) rfl (zp_o0 (by omega) (by omega) (by omega) (by omega)) ?_
                rw [hpsξ]
                refine ⟨rfl, ?_⟩
                have hffξ : zf_dyr V n1ξ npξ Lwξ p1ξ p2ξ = ((zc_wt (zd_X V n1ξ npξ Lwξ p1ξ) (fun w => V 3 (2000 + (5 * w + 41))) (fun w => V 3 (2000 + (5 * w + 42))) n1ξ), (zp_set V 0 0 0)) := by
                  unfold zf_dyr
                  rw [if_pos ((Iff.mp htn486ξ) (by omega)), if_pos ((Iff.mp htn490ξ) (by omega)), if_pos hc494ξ, if_neg hc497ξ]
                show zMVr A (zf_dyr V n1ξ npξ Lwξ p1ξ p2ξ).2 u.1 Gl ∧ (zc_wt (zd_X V n1ξ npξ Lwξ p1ξ) (fun w => V 3 (2000 + (5 * w + 41))) (fun w => V 3 (2000 + (5 * w + 42))) n1ξ) = (zf_dyr V n1ξ npξ Lwξ p1ξ p2ξ).1
                rw [hffξ]
                exact ⟨⟨Ml, hMlξ, hVlξ, hSlξ⟩, rfl⟩
            · exfalso
              omega
          | succ k9ξ ihd =>
            intro w9ξ hkξ
            have hwbξ := zc_wtb (X := (zd_X V n1ξ npξ Lwξ p1ξ)) (due := (fun w => V 3 (2000 + (5 * w + 41)))) (wo := (fun w => V 3 (2000 + (5 * w + 42)))) (w := w9ξ) (fun j hjξ => hwoξ j (by omega))
            have hdw9ξ : 0 ≤ V 3 (2000 + (5 * w9ξ + 40)) ∧ V 3 (2000 + (5 * w9ξ + 40)) ≤ 600 := ⟨(hDwξ w9ξ (by omega)).2.2.1, (hDwξ w9ξ (by omega)).2.2.2.1⟩
            have hwo9ξ := hwoξ w9ξ (by omega)
            have hwo9ξ : 0 ≤ V 3 (2000 + (5 * w9ξ + 42)) ∧ V 3 (2000 + (5 * w9ξ + 42)) ≤ 1000 := hwo9ξ
            refine zp_load (pc := 53) hx hb (zd_X12_day (53, .iload 5, 2, 0, []) (List.mem_of_getElem? (i := 31) rfl)) rfl (j := 0) rfl ?_
            refine zp_load (pc := 55) hx hb (zd_X12_day (55, .aload_n 0, 1, 0, []) (List.mem_of_getElem? (i := 32) rfl)) rfl (j := 3) rfl ?_
            refine zp_getf (n := (A 3 : Int)) (pc := 56) hx hb hEξ hwξ (zd_X12_day (56, .getfield 13, 3, 0, []) (List.mem_of_getElem? (i := 33) rfl)) (j := 21) rfl rfl rfl (zM_P hMlξ (List.mem_of_getElem? (i := 0) rfl)) ((zM_G hMlξ (List.mem_of_getElem? (i := 0) rfl) 3).trans (zM_F hMlξ (List.mem_of_getElem? (i := 1) rfl))) ?_
            refine zp_const (pc := 59) hx hb (zd_X12_day (59, .iconst 1, 1, 0, []) (List.mem_of_getElem? (i := 34) rfl)) rfl rfl ?_
            refine zp_ialdT (j := 1) (v := (n1ξ : Int)) (pc := 60) hx hb hwξ (zd_X12_day (60, .iaload, 1, 0, []) (List.mem_of_getElem? (i := 35) rfl)) zl_T59 rfl (zl_kd 1) (zM_P hMlξ (List.mem_of_getElem? (i := 2) rfl)) (by omega) (show 1 < 5580 by omega) (((zM_G hMlξ (List.mem_of_getElem? (i := 2) rfl) (2000 + 1)).trans (hVlξ 3 (2000 + 1) (Or.inl (by decide)))).trans ((zp_set_ne (Or.inl (by decide))).trans (hn1ξ))) (fun _ => ?_)
            refine zp_icmp (pc := 61) (tgt := 133) hx hb (zd_X12_day (61, .if_icmp .ge 72, 3, 0, []) (List.mem_of_getElem? (i := 36) rfl)) rfl (fun (hc499ξ : (n1ξ : Int) ≤ (w9ξ : Int)) => ?_) (fun (hc499ξ : ¬ ((n1ξ : Int) ≤ (w9ξ : Int))) => ?_)
            · exfalso
              omega
            · refine zp_load (pc := 64) hx hb (zd_X12_day (64, .iload_n 3, 1, 0, []) (List.mem_of_getElem? (i := 37) rfl)) rfl (j := 2) rfl ?_
              refine zp_load (pc := 65) hx hb (zd_X12_day (65, .aload_n 0, 1, 0, []) (List.mem_of_getElem? (i := 38) rfl)) rfl (j := 3) rfl ?_
              refine zp_load (pc := 66) hx hb (zd_X12_day (66, .iload 5, 2, 0, []) (List.mem_of_getElem? (i := 39) rfl)) rfl (j := 0) rfl ?_
              refine zp_call (pc := 68) (how := 0) (idx := 465) (mi := 256) (S := [(0, (zc_wt (zd_X V n1ξ npξ Lwξ p1ξ) (fun w => V 3 (2000 + (5 * w + 41))) (fun w => V 3 (2000 + (5 * w + 42))) w9ξ))]) hx hb hEξ hwξ heffξ hrmξ (zX_iitx hWξ A Ml w9ξ) rfl (j := 53) rfl rfl (by decide +kernel) (zd_X12_day (68, .invokevirtual 465, 3, 0, []) (List.mem_of_getElem? (i := 40) rfl)) [(A 0 : Int), (w9ξ : Int)] rfl ⟨zp_o2 (zM_P hMlξ (List.mem_of_getElem? (i := 0) rfl)), zp_o0 (by omega) (by omega) (by omega) (by omega), trivial⟩ (Nat.le_of_ble_eq_true rfl) ⟨hMlξ, rfl, rfl, by omega, hRlξ⟩ (fun al halξ rne500ξ Pe500 Ge500 hexte500ξ hfre500ξ hoke500ξ hcse500ξ hpsie500ξ => ?_)
              obtain rfl := List.mem_singleton.mp halξ
              have hre500ξ := zp_int (hoke500ξ _ rfl).1
              obtain ⟨hPee500ξ, hGee500ξ, hte500ξ⟩ := hpsie500ξ
              rw [hPee500ξ, hGee500ξ]
              clear hexte500ξ hfre500ξ hcse500ξ hPee500ξ hGee500ξ
              have hte500ξ : rne500ξ = 1 ↔ (((zd_X V n1ξ npξ Lwξ p1ξ).2 w9ξ) ≠ -1 ∧ ((zd_X V n1ξ npξ Lwξ p1ξ).2 w9ξ) ≤ (V 3 (2000 + (5 * w9ξ + 41)))) := by
                have h9ξ : rne500ξ = 1 ↔ (Ml 45 (2000 + w9ξ) ≠ -1 ∧ Ml 45 (2000 + w9ξ) ≤ Ml 3 (2000 + (5 * w9ξ + 41))) := hte500ξ
                rw [(hxlξ w9ξ (by omega)).2, ((hVlξ 3 (2000 + (5 * w9ξ + 41)) (Or.inl (by decide))).trans (zp_set_ne (Or.inl (by decide))))] at h9ξ
                exact h9ξ
              refine zp_if (pc := 71) (tgt := 84) hx hb (zd_X12_day (71, .ifCond .eq 13, 3, 0, []) (List.mem_of_getElem? (i := 41) rfl)) rfl (fun (hc501ξ : rne500ξ = 0) => ?_) (fun (hc501ξ : ¬ (rne500ξ = 0)) => ?_)
              · refine zp_const (pc := 84) hx hb (zd_X12_day (84, .iconst 0, 1, 0, []) (List.mem_of_getElem? (i := 47) rfl)) rfl rfl ?_
                refine zp_add (n := ((zc_wt (zd_X V n1ξ npξ Lwξ p1ξ) (fun w => V 3 (2000 + (5 * w + 41))) (fun w => V 3 (2000 + (5 * w + 42))) w9ξ) + 0)) (pc := 85) hx hb (zd_X12_day (85, .iadd, 1, 0, []) (List.mem_of_getElem? (i := 48) rfl)) (by omega) (zp_r0 (by omega) (by omega)) ?_
                refine zp_store (L' := [(3, 0, ((zc_wt (zd_X V n1ξ npξ Lwξ p1ξ) (fun w => V 3 (2000 + (5 * w + 41))) (fun w => V 3 (2000 + (5 * w + 42))) w9ξ) + 0)), (5, 0, (w9ξ : Int)), (4, 0, (zc_md (zd_X V n1ξ npξ Lwξ p1ξ) (fun w => V 3 (2000 + (5 * w + 40))) w9ξ)), (0, 2, (A 0 : Int)), (1, 0, p1ξ), (2, 0, p2ξ)]) (pc := 86) hx hb hnLξ (zd_X12_day (86, .istore_n 3, 1, 0, []) (List.mem_of_getElem? (i := 49) rfl)) rfl rfl rfl ?_
                refine zp_load (pc := 87) hx hb (zd_X12_day (87, .iload 4, 2, 0, []) (List.mem_of_getElem? (i := 50) rfl)) rfl (j := 2) rfl ?_
                refine zp_load (pc := 89) hx hb (zd_X12_day (89, .aload_n 0, 1, 0, []) (List.mem_of_getElem? (i := 51) rfl)) rfl (j := 3) rfl ?_
                refine zp_getf (n := (A 44 : Int)) (pc := 90) hx hb hEξ hwξ (zd_X12_day (90, .getfield 119, 3, 0, []) (List.mem_of_getElem? (i := 52) rfl)) (j := 62) rfl rfl rfl (zM_P hMlξ (List.mem_of_getElem? (i := 0) rfl)) ((zM_G hMlξ (List.mem_of_getElem? (i := 0) rfl) 44).trans (zM_F hMlξ (List.mem_of_getElem? (i := 23) rfl))) ?_
                refine zp_load (pc := 93) hx hb (zd_X12_day (93, .iload 5, 2, 0, []) (List.mem_of_getElem? (i := 53) rfl)) rfl (j := 1) rfl ?_
                refine zp_iald (j := w9ξ) (v := ((zd_X V n1ξ npξ Lwξ p1ξ).1 w9ξ)) (pc := 95) hx hb hwξ (zd_X12_day (95, .iaload, 1, 0, []) (List.mem_of_getElem? (i := 54) rfl)) (show zp_ia 1 81 = some (10, 0, 0, (-2147483648), 2147483647) from rfl) (zM_P hMlξ (List.mem_of_getElem? (i := 24) rfl)) (by omega) (by omega) ((zM_G hMlξ (List.mem_of_getElem? (i := 24) rfl) (2000 + w9ξ)).trans (hxlξ w9ξ (by omega)).1) (fun hk502ξ => ?_)
                have hk502bξ := zp_int hk502ξ
                clear hk502ξ
                refine zp_if (pc := 96) (tgt := 123) hx hb (zd_X12_day (96, .ifCond .le 27, 3, 0, []) (List.mem_of_getElem? (i := 55) rfl)) rfl (fun (hc503ξ : ((zd_X V n1ξ npξ Lwξ p1ξ).1 w9ξ) ≤ 0) => ?_) (fun (hc503ξ : ¬ (((zd_X V n1ξ npξ Lwξ p1ξ).1 w9ξ) ≤ 0)) => ?_)
                · refine zp_const (pc := 123) hx hb (zd_X12_day (123, .iconst 0, 1, 0, []) (List.mem_of_getElem? (i := 69) rfl)) rfl rfl ?_
                  refine zp_binx (o := 4) (n := (zw_or (zc_md (zd_X V n1ξ npξ Lwξ p1ξ) (fun w => V 3 (2000 + (5 * w + 40))) w9ξ) 0)) (pc := 124) hx hb (zd_X12_day (124, .ior, 1, 0, []) (List.mem_of_getElem? (i := 70) rfl)) rfl (by decide) rfl ?_
                  have hw504ξ := zw_orb (zc_md (zd_X V n1ξ npξ Lwξ p1ξ) (fun w => V 3 (2000 + (5 * w + 40))) w9ξ) 0
                  refine zp_store (L' := [(4, 0, (zw_or (zc_md (zd_X V n1ξ npξ Lwξ p1ξ) (fun w => V 3 (2000 + (5 * w + 40))) w9ξ) 0)), (3, 0, ((zc_wt (zd_X V n1ξ npξ Lwξ p1ξ) (fun w => V 3 (2000 + (5 * w + 41))) (fun w => V 3 (2000 + (5 * w + 42))) w9ξ) + 0)), (5, 0, (w9ξ : Int)), (0, 2, (A 0 : Int)), (1, 0, p1ξ), (2, 0, p2ξ)]) (pc := 125) hx hb hnLξ (zd_X12_day (125, .istore 4, 2, 0, []) (List.mem_of_getElem? (i := 71) rfl)) rfl rfl rfl ?_
                  refine zp_iinc (L' := [(5, 0, ((w9ξ : Int) + 1)), (4, 0, (zw_or (zc_md (zd_X V n1ξ npξ Lwξ p1ξ) (fun w => V 3 (2000 + (5 * w + 40))) w9ξ) 0)), (3, 0, ((zc_wt (zd_X V n1ξ npξ Lwξ p1ξ) (fun w => V 3 (2000 + (5 * w + 41))) (fun w => V 3 (2000 + (5 * w + 42))) w9ξ) + 0)), (0, 2, (A 0 : Int)), (1, 0, p1ξ), (2, 0, p2ξ)]) (n := ((w9ξ : Int) + 1)) (pc := 127) hx hb hnLξ (zd_X12_day (127, .iinc 5 1, 3, 0, []) (List.mem_of_getElem? (i := 72) rfl)) (j := 2) rfl (by omega) (zp_r0 (by omega) (by omega)) rfl rfl ?_
                  refine zp_goto (tgt := 53) (pc := 130) hx hb (zd_X12_day (130, .goto (-77), 3, 0, []) (List.mem_of_getElem? (i := 73) rfl)) rfl ?_
                  have ha9ξ : ((zc_wt (zd_X V n1ξ npξ Lwξ p1ξ) (fun w => V 3 (2000 + (5 * w + 41))) (fun w => V 3 (2000 + (5 * w + 42))) w9ξ) + 0) = (zc_wt (zd_X V n1ξ npξ Lwξ p1ξ) (fun w => V 3 (2000 + (5 * w + 41))) (fun w => V 3 (2000 + (5 * w + 42))) (w9ξ + 1)) := by
                    rw [zc_wt]
                    by_cases c9ξ : (zd_X V n1ξ npξ Lwξ p1ξ).2 w9ξ ≠ -1 ∧ (zd_X V n1ξ npξ Lwξ p1ξ).2 w9ξ ≤ (fun w => V 3 (2000 + (5 * w + 41))) w9ξ
                    · rw [if_pos c9ξ]
                      all_goals (have c8 := (Iff.mpr hte500ξ) c9ξ; omega)
                    · rw [if_neg c9ξ]
                      all_goals (have c8 : ¬ ((zd_X V n1ξ npξ Lwξ p1ξ).2 w9ξ ≠ -1 ∧ (zd_X V n1ξ npξ Lwξ p1ξ).2 w9ξ ≤ V 3 (2000 + (5 * w9ξ + 41))) := c9ξ; omega)
                  have hb9ξ : (zw_or (zc_md (zd_X V n1ξ npξ Lwξ p1ξ) (fun w => V 3 (2000 + (5 * w + 40))) w9ξ) 0) = (zc_md (zd_X V n1ξ npξ Lwξ p1ξ) (fun w => V 3 (2000 + (5 * w + 40))) (w9ξ + 1)) := by
                    rw [zc_md]
                    rw [zw_or0 zc_mdb, if_neg (by omega)]
                  rw [ha9ξ, hb9ξ]
                  refine zp_drop (L' := [(5, 0, ((w9ξ : Int) + 1)), (4, 0, (zc_md (zd_X V n1ξ npξ Lwξ p1ξ) (fun w => V 3 (2000 + (5 * w + 40))) (w9ξ + 1))), (3, 0, (zc_wt (zd_X V n1ξ npξ Lwξ p1ξ) (fun w => V 3 (2000 + (5 * w + 41))) (fun w => V 3 (2000 + (5 * w + 42))) (w9ξ + 1))), (0, 2, (A 0 : Int)), (1, 0, p1ξ), (2, 0, p2ξ)]) (by simp) ?_
                  exact ihd (w9ξ + 1) (by omega)
                · refine zp_load (pc := 99) hx hb (zd_X12_day (99, .aload_n 0, 1, 0, []) (List.mem_of_getElem? (i := 56) rfl)) rfl (j := 3) rfl ?_
                  refine zp_getf (n := (A 44 : Int)) (pc := 100) hx hb hEξ hwξ (zd_X12_day (100, .getfield 119, 3, 0, []) (List.mem_of_getElem? (i := 57) rfl)) (j := 62) rfl rfl rfl (zM_P hMlξ (List.mem_of_getElem? (i := 0) rfl)) ((zM_G hMlξ (List.mem_of_getElem? (i := 0) rfl) 44).trans (zM_F hMlξ (List.mem_of_getElem? (i := 23) rfl))) ?_
                  refine zp_load (pc := 103) hx hb (zd_X12_day (103, .iload 5, 2, 0, []) (List.mem_of_getElem? (i := 58) rfl)) rfl (j := 1) rfl ?_
                  refine zp_iald (j := w9ξ) (v := ((zd_X V n1ξ npξ Lwξ p1ξ).1 w9ξ)) (pc := 105) hx hb hwξ (zd_X12_day (105, .iaload, 1, 0, []) (List.mem_of_getElem? (i := 59) rfl)) (show zp_ia 1 81 = some (10, 0, 0, (-2147483648), 2147483647) from rfl) (zM_P hMlξ (List.mem_of_getElem? (i := 24) rfl)) (by omega) (by omega) ((zM_G hMlξ (List.mem_of_getElem? (i := 24) rfl) (2000 + w9ξ)).trans (hxlξ w9ξ (by omega)).1) (fun hk505ξ => ?_)
                  have hk505bξ := zp_int hk505ξ
                  clear hk505ξ
                  refine zp_load (pc := 106) hx hb (zd_X12_day (106, .aload_n 0, 1, 0, []) (List.mem_of_getElem? (i := 60) rfl)) rfl (j := 3) rfl ?_
                  refine zp_load (pc := 107) hx hb (zd_X12_day (107, .iload 5, 2, 0, []) (List.mem_of_getElem? (i := 61) rfl)) rfl (j := 1) rfl ?_
                  refine zp_const (pc := 109) hx hb (zd_X12_day (109, .iconst 1, 1, 0, []) (List.mem_of_getElem? (i := 62) rfl)) rfl rfl ?_
                  refine zp_call (pc := 110) (how := 0) (idx := 188) (mi := 196) (S := [(0, ((zd_X V n1ξ npξ Lwξ p1ξ).1 w9ξ)), (0, (zc_md (zd_X V n1ξ npξ Lwξ p1ξ) (fun w => V 3 (2000 + (5 * w + 40))) w9ξ))]) hx hb hEξ hwξ heffξ hrmξ (zX_ofw hWξ A Ml w9ξ 1) rfl (j := 7) rfl rfl (by decide +kernel) (zd_X12_day (110, .invokevirtual 188, 3, 0, []) (List.mem_of_getElem? (i := 63) rfl)) [(A 0 : Int), (w9ξ : Int), 1] rfl ⟨zp_o2 (zM_P hMlξ (List.mem_of_getElem? (i := 0) rfl)), zp_o0 (by omega) (by omega) (by omega) (by omega), zp_o0 (by decide) (by decide) (by decide) (by decide), trivial⟩ (Nat.le_of_ble_eq_true rfl) ⟨hMlξ, rfl, (show (w9ξ : Int) = ((w9ξ : Nat) : Int) by omega), rfl, (show -2147483648 ≤ Ml 3 (2000 + (5 * w9ξ + 40)) ∧ Ml 3 (2000 + (5 * w9ξ + 40)) ≤ 2147483647 by rw [((hVlξ 3 (2000 + (5 * w9ξ + 40)) (Or.inl (by decide))).trans (zp_set_ne (Or.inl (by decide))))]; omega)⟩ (fun al halξ rnf506ξ Pf506 Gf506 hextf506ξ hfrf506ξ hokf506ξ hcsf506ξ hpsif506ξ => ?_)
                  obtain rfl := List.mem_singleton.mp halξ
                  have hrf506ξ := zp_int (hokf506ξ _ rfl).1
                  obtain ⟨hPef506ξ, hGef506ξ, htf506ξ⟩ := hpsif506ξ
                  rw [hPef506ξ, hGef506ξ]
                  clear hextf506ξ hfrf506ξ hcsf506ξ hPef506ξ hGef506ξ
                  have htf506ξ : rnf506ξ = (V 3 (2000 + (5 * w9ξ + 40))) := (Eq.trans htf506ξ) (((hVlξ 3 (2000 + (5 * w9ξ + 40)) (Or.inl (by decide))).trans (zp_set_ne (Or.inl (by decide)))))
                  have htf506ξ := (Eq.symm htf506ξ)
                  subst htf506ξ
                  refine zp_icmp (pc := 113) (tgt := 123) hx hb (zd_X12_day (113, .if_icmp .ge 10, 3, 0, []) (List.mem_of_getElem? (i := 64) rfl)) rfl (fun (hc507ξ : (V 3 (2000 + (5 * w9ξ + 40))) ≤ ((zd_X V n1ξ npξ Lwξ p1ξ).1 w9ξ)) => ?_) (fun (hc507ξ : ¬ ((V 3 (2000 + (5 * w9ξ + 40))) ≤ ((zd_X V n1ξ npξ Lwξ p1ξ).1 w9ξ))) => ?_)
                  · refine zp_const (pc := 123) hx hb (zd_X12_day (123, .iconst 0, 1, 0, []) (List.mem_of_getElem? (i := 69) rfl)) rfl rfl ?_
                    refine zp_binx (o := 4) (n := (zw_or (zc_md (zd_X V n1ξ npξ Lwξ p1ξ) (fun w => V 3 (2000 + (5 * w + 40))) w9ξ) 0)) (pc := 124) hx hb (zd_X12_day (124, .ior, 1, 0, []) (List.mem_of_getElem? (i := 70) rfl)) rfl (by decide) rfl ?_
                    have hw508ξ := zw_orb (zc_md (zd_X V n1ξ npξ Lwξ p1ξ) (fun w => V 3 (2000 + (5 * w + 40))) w9ξ) 0
                    refine zp_store (L' := [(4, 0, (zw_or (zc_md (zd_X V n1ξ npξ Lwξ p1ξ) (fun w => V 3 (2000 + (5 * w + 40))) w9ξ) 0)), (3, 0, ((zc_wt (zd_X V n1ξ npξ Lwξ p1ξ) (fun w => V 3 (2000 + (5 * w + 41))) (fun w => V 3 (2000 + (5 * w + 42))) w9ξ) + 0)), (5, 0, (w9ξ : Int)), (0, 2, (A 0 : Int)), (1, 0, p1ξ), (2, 0, p2ξ)]) (pc := 125) hx hb hnLξ (zd_X12_day (125, .istore 4, 2, 0, []) (List.mem_of_getElem? (i := 71) rfl)) rfl rfl rfl ?_
                    refine zp_iinc (L' := [(5, 0, ((w9ξ : Int) + 1)), (4, 0, (zw_or (zc_md (zd_X V n1ξ npξ Lwξ p1ξ) (fun w => V 3 (2000 + (5 * w + 40))) w9ξ) 0)), (3, 0, ((zc_wt (zd_X V n1ξ npξ Lwξ p1ξ) (fun w => V 3 (2000 + (5 * w + 41))) (fun w => V 3 (2000 + (5 * w + 42))) w9ξ) + 0)), (0, 2, (A 0 : Int)), (1, 0, p1ξ), (2, 0, p2ξ)]) (n := ((w9ξ : Int) + 1)) (pc := 127) hx hb hnLξ (zd_X12_day (127, .iinc 5 1, 3, 0, []) (List.mem_of_getElem? (i := 72) rfl)) (j := 2) rfl (by omega) (zp_r0 (by omega) (by omega)) rfl rfl ?_
                    refine zp_goto (tgt := 53) (pc := 130) hx hb (zd_X12_day (130, .goto (-77), 3, 0, []) (List.mem_of_getElem? (i := 73) rfl)) rfl ?_
                    have ha9ξ : ((zc_wt (zd_X V n1ξ npξ Lwξ p1ξ) (fun w => V 3 (2000 + (5 * w + 41))) (fun w => V 3 (2000 + (5 * w + 42))) w9ξ) + 0) = (zc_wt (zd_X V n1ξ npξ Lwξ p1ξ) (fun w => V 3 (2000 + (5 * w + 41))) (fun w => V 3 (2000 + (5 * w + 42))) (w9ξ + 1)) := by
                      rw [zc_wt]
                      by_cases c9ξ : (zd_X V n1ξ npξ Lwξ p1ξ).2 w9ξ ≠ -1 ∧ (zd_X V n1ξ npξ Lwξ p1ξ).2 w9ξ ≤ (fun w => V 3 (2000 + (5 * w + 41))) w9ξ
                      · rw [if_pos c9ξ]
                        all_goals (have c8 := (Iff.mpr hte500ξ) c9ξ; omega)
                      · rw [if_neg c9ξ]
                        all_goals (have c8 : ¬ ((zd_X V n1ξ npξ Lwξ p1ξ).2 w9ξ ≠ -1 ∧ (zd_X V n1ξ npξ Lwξ p1ξ).2 w9ξ ≤ V 3 (2000 + (5 * w9ξ + 41))) := c9ξ; omega)
                    have hb9ξ : (zw_or (zc_md (zd_X V n1ξ npξ Lwξ p1ξ) (fun w => V 3 (2000 + (5 * w + 40))) w9ξ) 0) = (zc_md (zd_X V n1ξ npξ Lwξ p1ξ) (fun w => V 3 (2000 + (5 * w + 40))) (w9ξ + 1)) := by
                      rw [zc_md]
                      rw [zw_or0 zc_mdb, if_neg (by omega)]
                    rw [ha9ξ, hb9ξ]
                    refine zp_drop (L' := [(5, 0, ((w9ξ : Int) + 1)), (4, 0, (zc_md (zd_X V n1ξ npξ Lwξ p1ξ) (fun w => V 3 (2000 + (5 * w + 40))) (w9ξ + 1))), (3, 0, (zc_wt (zd_X V n1ξ npξ Lwξ p1ξ) (fun w => V 3 (2000 + (5 * w + 41))) (fun w => V 3 (2000 + (5 * w + 42))) (w9ξ + 1))), (0, 2, (A 0 : Int)), (1, 0, p1ξ), (2, 0, p2ξ)]) (by simp) ?_
                    exact ihd (w9ξ + 1) (by omega)
                  · refine zp_const (pc := 116) hx hb (zd_X12_day (116, .iconst 1, 1, 0, []) (List.mem_of_getElem? (i := 65) rfl)) rfl rfl ?_
                    refine zp_load (pc := 117) hx hb (zd_X12_day (117, .iload 5, 2, 0, []) (List.mem_of_getElem? (i := 66) rfl)) rfl (j := 1) rfl ?_
                    refine zp_binx (o := 6) (n := (zw_shl 1 (w9ξ : Int))) (pc := 119) hx hb (zd_X12_day (119, .ishl, 1, 0, []) (List.mem_of_getElem? (i := 67) rfl)) rfl (by decide) rfl ?_
                    have hw509ξ := zw_shlb 1 (w9ξ : Int)
                    refine zp_goto (tgt := 124) (pc := 120) hx hb (zd_X12_day (120, .goto 4, 3, 0, []) (List.mem_of_getElem? (i := 68) rfl)) rfl ?_
                    refine zp_binx (o := 4) (n := (zw_or (zc_md (zd_X V n1ξ npξ Lwξ p1ξ) (fun w => V 3 (2000 + (5 * w + 40))) w9ξ) (zw_shl 1 (w9ξ : Int)))) (pc := 124) hx hb (zd_X12_day (124, .ior, 1, 0, []) (List.mem_of_getElem? (i := 70) rfl)) rfl (by decide) rfl ?_
                    have hw510ξ := zw_orb (zc_md (zd_X V n1ξ npξ Lwξ p1ξ) (fun w => V 3 (2000 + (5 * w + 40))) w9ξ) (zw_shl 1 (w9ξ : Int))
                    refine zp_store (L' := [(4, 0, (zw_or (zc_md (zd_X V n1ξ npξ Lwξ p1ξ) (fun w => V 3 (2000 + (5 * w + 40))) w9ξ) (zw_shl 1 (w9ξ : Int)))), (3, 0, ((zc_wt (zd_X V n1ξ npξ Lwξ p1ξ) (fun w => V 3 (2000 + (5 * w + 41))) (fun w => V 3 (2000 + (5 * w + 42))) w9ξ) + 0)), (5, 0, (w9ξ : Int)), (0, 2, (A 0 : Int)), (1, 0, p1ξ), (2, 0, p2ξ)]) (pc := 125) hx hb hnLξ (zd_X12_day (125, .istore 4, 2, 0, []) (List.mem_of_getElem? (i := 71) rfl)) rfl rfl rfl ?_
                    refine zp_iinc (L' := [(5, 0, ((w9ξ : Int) + 1)), (4, 0, (zw_or (zc_md (zd_X V n1ξ npξ Lwξ p1ξ) (fun w => V 3 (2000 + (5 * w + 40))) w9ξ) (zw_shl 1 (w9ξ : Int)))), (3, 0, ((zc_wt (zd_X V n1ξ npξ Lwξ p1ξ) (fun w => V 3 (2000 + (5 * w + 41))) (fun w => V 3 (2000 + (5 * w + 42))) w9ξ) + 0)), (0, 2, (A 0 : Int)), (1, 0, p1ξ), (2, 0, p2ξ)]) (n := ((w9ξ : Int) + 1)) (pc := 127) hx hb hnLξ (zd_X12_day (127, .iinc 5 1, 3, 0, []) (List.mem_of_getElem? (i := 72) rfl)) (j := 2) rfl (by omega) (zp_r0 (by omega) (by omega)) rfl rfl ?_
                    refine zp_goto (tgt := 53) (pc := 130) hx hb (zd_X12_day (130, .goto (-77), 3, 0, []) (List.mem_of_getElem? (i := 73) rfl)) rfl ?_
                    have ha9ξ : ((zc_wt (zd_X V n1ξ npξ Lwξ p1ξ) (fun w => V 3 (2000 + (5 * w + 41))) (fun w => V 3 (2000 + (5 * w + 42))) w9ξ) + 0) = (zc_wt (zd_X V n1ξ npξ Lwξ p1ξ) (fun w => V 3 (2000 + (5 * w + 41))) (fun w => V 3 (2000 + (5 * w + 42))) (w9ξ + 1)) := by
                      rw [zc_wt]
                      by_cases c9ξ : (zd_X V n1ξ npξ Lwξ p1ξ).2 w9ξ ≠ -1 ∧ (zd_X V n1ξ npξ Lwξ p1ξ).2 w9ξ ≤ (fun w => V 3 (2000 + (5 * w + 41))) w9ξ
                      · rw [if_pos c9ξ]
                        all_goals (have c8 := (Iff.mpr hte500ξ) c9ξ; omega)
                      · rw [if_neg c9ξ]
                        all_goals (have c8 : ¬ ((zd_X V n1ξ npξ Lwξ p1ξ).2 w9ξ ≠ -1 ∧ (zd_X V n1ξ npξ Lwξ p1ξ).2 w9ξ ≤ V 3 (2000 + (5 * w9ξ + 41))) := c9ξ; omega)
                    have hb9ξ : (zw_or (zc_md (zd_X V n1ξ npξ Lwξ p1ξ) (fun w => V 3 (2000 + (5 * w + 40))) w9ξ) (zw_shl 1 (w9ξ : Int))) = (zc_md (zd_X V n1ξ npξ Lwξ p1ξ) (fun w => V 3 (2000 + (5 * w + 40))) (w9ξ + 1)) := by
                      rw [zc_md]
                      rw [if_pos ⟨by omega, by omega⟩]
                    rw [ha9ξ, hb9ξ]
                    refine zp_drop (L' := [(5, 0, ((w9ξ : Int) + 1)), (4, 0, (zc_md (zd_X V n1ξ npξ Lwξ p1ξ) (fun w => V 3 (2000 + (5 * w + 40))) (w9ξ + 1))), (3, 0, (zc_wt (zd_X V n1ξ npξ Lwξ p1ξ) (fun w => V 3 (2000 + (5 * w + 41))) (fun w => V 3 (2000 + (5 * w + 42))) (w9ξ + 1))), (0, 2, (A 0 : Int)), (1, 0, p1ξ), (2, 0, p2ξ)]) (by simp) ?_
                    exact ihd (w9ξ + 1) (by omega)
              · refine zp_load (pc := 74) hx hb (zd_X12_day (74, .aload_n 0, 1, 0, []) (List.mem_of_getElem? (i := 42) rfl)) rfl (j := 3) rfl ?_
                refine zp_load (pc := 75) hx hb (zd_X12_day (75, .iload 5, 2, 0, []) (List.mem_of_getElem? (i := 43) rfl)) rfl (j := 0) rfl ?_
                refine zp_const (pc := 77) hx hb (zd_X12_day (77, .iconst 3, 1, 0, []) (List.mem_of_getElem? (i := 44) rfl)) rfl rfl ?_
                refine zp_call (pc := 78) (how := 0) (idx := 188) (mi := 196) (S := [(0, (zc_wt (zd_X V n1ξ npξ Lwξ p1ξ) (fun w => V 3 (2000 + (5 * w + 41))) (fun w => V 3 (2000 + (5 * w + 42))) w9ξ))]) hx hb hEξ hwξ heffξ hrmξ (zX_ofw hWξ A Ml w9ξ 3) rfl (j := 7) rfl rfl (by decide +kernel) (zd_X12_day (78, .invokevirtual 188, 3, 0, []) (List.mem_of_getElem? (i := 45) rfl)) [(A 0 : Int), (w9ξ : Int), 3] rfl ⟨zp_o2 (zM_P hMlξ (List.mem_of_getElem? (i := 0) rfl)), zp_o0 (by omega) (by omega) (by omega) (by omega), zp_o0 (by decide) (by decide) (by decide) (by decide), trivial⟩ (Nat.le_of_ble_eq_true rfl) ⟨hMlξ, rfl, (show (w9ξ : Int) = ((w9ξ : Nat) : Int) by omega), rfl, (show -2147483648 ≤ Ml 3 (2000 + (5 * w9ξ + 42)) ∧ Ml 3 (2000 + (5 * w9ξ + 42)) ≤ 2147483647 by rw [((hVlξ 3 (2000 + (5 * w9ξ + 42)) (Or.inl (by decide))).trans (zp_set_ne (Or.inl (by decide))))]; omega)⟩ (fun al halξ rnf511ξ Pf511 Gf511 hextf511ξ hfrf511ξ hokf511ξ hcsf511ξ hpsif511ξ => ?_)
                obtain rfl := List.mem_singleton.mp halξ
                have hrf511ξ := zp_int (hokf511ξ _ rfl).1
                obtain ⟨hPef511ξ, hGef511ξ, htf511ξ⟩ := hpsif511ξ
                rw [hPef511ξ, hGef511ξ]
                clear hextf511ξ hfrf511ξ hcsf511ξ hPef511ξ hGef511ξ
                have htf511ξ : rnf511ξ = (V 3 (2000 + (5 * w9ξ + 42))) := (Eq.trans htf511ξ) (((hVlξ 3 (2000 + (5 * w9ξ + 42)) (Or.inl (by decide))).trans (zp_set_ne (Or.inl (by decide)))))
                have htf511ξ := (Eq.symm htf511ξ)
                subst htf511ξ
                refine zp_goto (tgt := 85) (pc := 81) hx hb (zd_X12_day (81, .goto 4, 3, 0, []) (List.mem_of_getElem? (i := 46) rfl)) rfl ?_
                refine zp_add (n := ((zc_wt (zd_X V n1ξ npξ Lwξ p1ξ) (fun w => V 3 (2000 + (5 * w + 41))) (fun w => V 3 (2000 + (5 * w + 42))) w9ξ) + (V 3 (2000 + (5 * w9ξ + 42))))) (pc := 85) hx hb (zd_X12_day (85, .iadd, 1, 0, []) (List.mem_of_getElem? (i := 48) rfl)) (by omega) (zp_r0 (by omega) (by omega)) ?_
                refine zp_store (L' := [(3, 0, ((zc_wt (zd_X V n1ξ npξ Lwξ p1ξ) (fun w => V 3 (2000 + (5 * w + 41))) (fun w => V 3 (2000 + (5 * w + 42))) w9ξ) + (V 3 (2000 + (5 * w9ξ + 42))))), (5, 0, (w9ξ : Int)), (4, 0, (zc_md (zd_X V n1ξ npξ Lwξ p1ξ) (fun w => V 3 (2000 + (5 * w + 40))) w9ξ)), (0, 2, (A 0 : Int)), (1, 0, p1ξ), (2, 0, p2ξ)]) (pc := 86) hx hb hnLξ (zd_X12_day (86, .istore_n 3, 1, 0, []) (List.mem_of_getElem? (i := 49) rfl)) rfl rfl rfl ?_
                refine zp_load (pc := 87) hx hb (zd_X12_day (87, .iload 4, 2, 0, []) (List.mem_of_getElem? (i := 50) rfl)) rfl (j := 2) rfl ?_
                refine zp_load (pc := 89) hx hb (zd_X12_day (89, .aload_n 0, 1, 0, []) (List.mem_of_getElem? (i := 51) rfl)) rfl (j := 3) rfl ?_
                refine zp_getf (n := (A 44 : Int)) (pc := 90) hx hb hEξ hwξ (zd_X12_day (90, .getfield 119, 3, 0, []) (List.mem_of_getElem? (i := 52) rfl)) (j := 62) rfl rfl rfl (zM_P hMlξ (List.mem_of_getElem? (i := 0) rfl)) ((zM_G hMlξ (List.mem_of_getElem? (i := 0) rfl) 44).trans (zM_F hMlξ (List.mem_of_getElem? (i := 23) rfl))) ?_
                refine zp_load (pc := 93) hx hb (zd_X12_day (93, .iload 5, 2, 0, []) (List.mem_of_getElem? (i := 53) rfl)) rfl (j := 1) rfl ?_
                refine zp_iald (j := w9ξ) (v := ((zd_X V n1ξ npξ Lwξ p1ξ).1 w9ξ)) (pc := 95) hx hb hwξ (zd_X12_day (95, .iaload, 1, 0, []) (List.mem_of_getElem? (i := 54) rfl)) (show zp_ia 1 81 = some (10, 0, 0, (-2147483648), 2147483647) from rfl) (zM_P hMlξ (List.mem_of_getElem? (i := 24) rfl)) (by omega) (by omega) ((zM_G hMlξ (List.mem_of_getElem? (i := 24) rfl) (2000 + w9ξ)).trans (hxlξ w9ξ (by omega)).1) (fun hk512ξ => ?_)
                have hk512bξ := zp_int hk512ξ
                clear hk512ξ
                refine zp_if (pc := 96) (tgt := 123) hx hb (zd_X12_day (96, .ifCond .le 27, 3, 0, []) (List.mem_of_getElem? (i := 55) rfl)) rfl (fun (hc513ξ : ((zd_X V n1ξ npξ Lwξ p1ξ).1 w9ξ) ≤ 0) => ?_) (fun (hc513ξ : ¬ (((zd_X V n1ξ npξ Lwξ p1ξ).1 w9ξ) ≤ 0)) => ?_)
                · refine zp_const (pc := 123) hx hb (zd_X12_day (123, .iconst 0, 1, 0, []) (List.mem_of_getElem? (i := 69) rfl)) rfl rfl ?_
                  refine zp_binx (o := 4) (n := (zw_or (zc_md (zd_X V n1ξ npξ Lwξ p1ξ) (fun w => V 3 (2000 + (5 * w + 40))) w9ξ) 0)) (pc := 124) hx hb (zd_X12_day (124, .ior, 1, 0, []) (List.mem_of_getElem? (i := 70) rfl)) rfl (by decide) rfl ?_
                  have hw514ξ := zw_orb (zc_md (zd_X V n1ξ npξ Lwξ p1ξ) (fun w => V 3 (2000 + (5 * w + 40))) w9ξ) 0
                  refine zp_store (L' := [(4, 0, (zw_or (zc_md (zd_X V n1ξ npξ Lwξ p1ξ) (fun w => V 3 (2000 + (5 * w + 40))) w9ξ) 0)), (3, 0, ((zc_wt (zd_X V n1ξ npξ Lwξ p1ξ) (fun w => V 3 (2000 + (5 * w + 41))) (fun w => V 3 (2000 + (5 * w + 42))) w9ξ) + (V 3 (2000 + (5 * w9ξ + 42))))), (5, 0, (w9ξ : Int)), (0, 2, (A 0 : Int)), (1, 0, p1ξ), (2, 0, p2ξ)]) (pc := 125) hx hb hnLξ (zd_X12_day (125, .istore 4, 2, 0, []) (List.mem_of_getElem? (i := 71) rfl)) rfl rfl rfl ?_
                  refine zp_iinc (L' := [(5, 0, ((w9ξ : Int) + 1)), (4, 0, (zw_or (zc_md (zd_X V n1ξ npξ Lwξ p1ξ) (fun w => V 3 (2000 + (5 * w + 40))) w9ξ) 0)), (3, 0, ((zc_wt (zd_X V n1ξ npξ Lwξ p1ξ) (fun w => V 3 (2000 + (5 * w + 41))) (fun w => V 3 (2000 + (5 * w + 42))) w9ξ) + (V 3 (2000 + (5 * w9ξ + 42))))), (0, 2, (A 0 : Int)), (1, 0, p1ξ), (2, 0, p2ξ)]) (n := ((w9ξ : Int) + 1)) (pc := 127) hx hb hnLξ (zd_X12_day (127, .iinc 5 1, 3, 0, []) (List.mem_of_getElem? (i := 72) rfl)) (j := 2) rfl (by omega) (zp_r0 (by omega) (by omega)) rfl rfl ?_
                  refine zp_goto (tgt := 53) (pc := 130) hx hb (zd_X12_day (130, .goto (-77), 3, 0, []) (List.mem_of_getElem? (i := 73) rfl)) rfl ?_
                  have ha9ξ : ((zc_wt (zd_X V n1ξ npξ Lwξ p1ξ) (fun w => V 3 (2000 + (5 * w + 41))) (fun w => V 3 (2000 + (5 * w + 42))) w9ξ) + (V 3 (2000 + (5 * w9ξ + 42)))) = (zc_wt (zd_X V n1ξ npξ Lwξ p1ξ) (fun w => V 3 (2000 + (5 * w + 41))) (fun w => V 3 (2000 + (5 * w + 42))) (w9ξ + 1)) := by
                    rw [zc_wt]
                    by_cases c9ξ : (zd_X V n1ξ npξ Lwξ p1ξ).2 w9ξ ≠ -1 ∧ (zd_X V n1ξ npξ Lwξ p1ξ).2 w9ξ ≤ (fun w => V 3 (2000 + (5 * w + 41))) w9ξ
                    · rw [if_pos c9ξ]
                      all_goals (have c8 := (Iff.mpr hte500ξ) c9ξ; omega)
                    · rw [if_neg c9ξ]
                      all_goals (have c8 : ¬ ((zd_X V n1ξ npξ Lwξ p1ξ).2 w9ξ ≠ -1 ∧ (zd_X V n1ξ npξ Lwξ p1ξ).2 w9ξ ≤ V 3 (2000 + (5 * w9ξ + 41))) := c9ξ; omega)
                  have hb9ξ : (zw_or (zc_md (zd_X V n1ξ npξ Lwξ p1ξ) (fun w => V 3 (2000 + (5 * w + 40))) w9ξ) 0) = (zc_md (zd_X V n1ξ npξ Lwξ p1ξ) (fun w => V 3 (2000 + (5 * w + 40))) (w9ξ + 1)) := by
                    rw [zc_md]
                    rw [zw_or0 zc_mdb, if_neg (by omega)]
                  rw [ha9ξ, hb9ξ]
                  refine zp_drop (L' := [(5, 0, ((w9ξ : Int) + 1)), (4, 0, (zc_md (zd_X V n1ξ npξ Lwξ p1ξ) (fun w => V 3 (2000 + (5 * w + 40))) (w9ξ + 1))), (3, 0, (zc_wt (zd_X V n1ξ npξ Lwξ p1ξ) (fun w => V 3 (2000 + (5 * w + 41))) (fun w => V 3 (2000 + (5 * w + 42))) (w9ξ + 1))), (0, 2, (A 0 : Int)), (1, 0, p1ξ), (2, 0, p2ξ)]) (by simp) ?_
                  exact ihd (w9ξ + 1) (by omega)
                · refine zp_load (pc := 99) hx hb (zd_X12_day (99, .aload_n 0, 1, 0, []) (List.mem_of_getElem? (i := 56) rfl)) rfl (j := 3) rfl ?_
                  refine zp_getf (n := (A 44 : Int)) (pc := 100) hx hb hEξ hwξ (zd_X12_day (100, .getfield 119, 3, 0, []) (List.mem_of_getElem? (i := 57) rfl)) (j := 62) rfl rfl rfl (zM_P hMlξ (List.mem_of_getElem? (i := 0) rfl)) ((zM_G hMlξ (List.mem_of_getElem? (i := 0) rfl) 44).trans (zM_F hMlξ (List.mem_of_getElem? (i := 23) rfl))) ?_
                  refine zp_load (pc := 103) hx hb (zd_X12_day (103, .iload 5, 2, 0, []) (List.mem_of_getElem? (i := 58) rfl)) rfl (j := 1) rfl ?_
                  refine zp_iald (j := w9ξ) (v := ((zd_X V n1ξ npξ Lwξ p1ξ).1 w9ξ)) (pc := 105) hx hb hwξ (zd_X12_day (105, .iaload, 1, 0, []) (List.mem_of_getElem? (i := 59) rfl)) (show zp_ia 1 81 = some (10, 0, 0, (-2147483648), 2147483647) from rfl) (zM_P hMlξ (List.mem_of_getElem? (i := 24) rfl)) (by omega) (by omega) ((zM_G hMlξ (List.mem_of_getElem? (i := 24) rfl) (2000 + w9ξ)).trans (hxlξ w9ξ (by omega)).1) (fun hk515ξ => ?_)
                  have hk515bξ := zp_int hk515ξ
                  clear hk515ξ
                  refine zp_load (pc := 106) hx hb (zd_X12_day (106, .aload_n 0, 1, 0, []) (List.mem_of_getElem? (i := 60) rfl)) rfl (j := 3) rfl ?_
                  refine zp_load (pc := 107) hx hb (zd_X12_day (107, .iload 5, 2, 0, []) (List.mem_of_getElem? (i := 61) rfl)) rfl (j := 1) rfl ?_
                  refine zp_const (pc := 109) hx hb (zd_X12_day (109, .iconst 1, 1, 0, []) (List.mem_of_getElem? (i := 62) rfl)) rfl rfl ?_
                  refine zp_call (pc := 110) (how := 0) (idx := 188) (mi := 196) (S := [(0, ((zd_X V n1ξ npξ Lwξ p1ξ).1 w9ξ)), (0, (zc_md (zd_X V n1ξ npξ Lwξ p1ξ) (fun w => V 3 (2000 + (5 * w + 40))) w9ξ))]) hx hb hEξ hwξ heffξ hrmξ (zX_ofw hWξ A Ml w9ξ 1) rfl (j := 7) rfl rfl (by decide +kernel) (zd_X12_day (110, .invokevirtual 188, 3, 0, []) (List.mem_of_getElem? (i := 63) rfl)) [(A 0 : Int), (w9ξ : Int), 1] rfl ⟨zp_o2 (zM_P hMlξ (List.mem_of_getElem? (i := 0) rfl)), zp_o0 (by omega) (by omega) (by omega) (by omega), zp_o0 (by decide) (by decide) (by decide) (by decide), trivial⟩ (Nat.le_of_ble_eq_true rfl) ⟨hMlξ, rfl, (show (w9ξ : Int) = ((w9ξ : Nat) : Int) by omega), rfl, (show -2147483648 ≤ Ml 3 (2000 + (5 * w9ξ + 40)) ∧ Ml 3 (2000 + (5 * w9ξ + 40)) ≤ 2147483647 by rw [((hVlξ 3 (2000 + (5 * w9ξ + 40)) (Or.inl (by decide))).trans (zp_set_ne (Or.inl (by decide))))]; omega)⟩ (fun al halξ rnf516ξ Pf516 Gf516 hextf516ξ hfrf516ξ hokf516ξ hcsf516ξ hpsif516ξ => ?_)
                  obtain rfl := List.mem_singleton.mp halξ
                  have hrf516ξ := zp_int (hokf516ξ _ rfl).1
                  obtain ⟨hPef516ξ, hGef516ξ, htf516ξ⟩ := hpsif516ξ
                  rw [hPef516ξ, hGef516ξ]
                  clear hextf516ξ hfrf516ξ hcsf516ξ hPef516ξ hGef516ξ
                  have htf516ξ : rnf516ξ = (V 3 (2000 + (5 * w9ξ + 40))) := (Eq.trans htf516ξ) (((hVlξ 3 (2000 + (5 * w9ξ + 40)) (Or.inl (by decide))).trans (zp_set_ne (Or.inl (by decide)))))
                  have htf516ξ := (Eq.symm htf516ξ)
                  subst htf516ξ
                  refine zp_icmp (pc := 113) (tgt := 123) hx hb (zd_X12_day (113, .if_icmp .ge 10, 3, 0, []) (List.mem_of_getElem? (i := 64) rfl)) rfl (fun (hc517ξ : (V 3 (2000 + (5 * w9ξ + 40))) ≤ ((zd_X V n1ξ npξ Lwξ p1ξ).1 w9ξ)) => ?_) (fun (hc517ξ : ¬ ((V 3 (2000 + (5 * w9ξ + 40))) ≤ ((zd_X V n1ξ npξ Lwξ p1ξ).1 w9ξ))) => ?_)
                  · refine zp_const (pc := 123) hx hb (zd_X12_day (123, .iconst 0, 1, 0, []) (List.mem_of_getElem? (i := 69) rfl)) rfl rfl ?_
                    refine zp_binx (o := 4) (n := (zw_or (zc_md (zd_X V n1ξ npξ Lwξ p1ξ) (fun w => V 3 (2000 + (5 * w + 40))) w9ξ) 0)) (pc := 124) hx hb (zd_X12_day (124, .ior, 1, 0, []) (List.mem_of_getElem? (i := 70) rfl)) rfl (by decide) rfl ?_
                    have hw518ξ := zw_orb (zc_md (zd_X V n1ξ npξ Lwξ p1ξ) (fun w => V 3 (2000 + (5 * w + 40))) w9ξ) 0
                    refine zp_store (L' := [(4, 0, (zw_or (zc_md (zd_X V n1ξ npξ Lwξ p1ξ) (fun w => V 3 (2000 + (5 * w + 40))) w9ξ) 0)), (3, 0, ((zc_wt (zd_X V n1ξ npξ Lwξ p1ξ) (fun w => V 3 (2000 + (5 * w + 41))) (fun w => V 3 (2000 + (5 * w + 42))) w9ξ) + (V 3 (2000 + (5 * w9ξ + 42))))), (5, 0, (w9ξ : Int)), (0, 2, (A 0 : Int)), (1, 0, p1ξ), (2, 0, p2ξ)]) (pc := 125) hx hb hnLξ (zd_X12_day (125, .istore 4, 2, 0, []) (List.mem_of_getElem? (i := 71) rfl)) rfl rfl rfl ?_
                    refine zp_iinc (L' := [(5, 0, ((w9ξ : Int) + 1)), (4, 0, (zw_or (zc_md (zd_X V n1ξ npξ Lwξ p1ξ) (fun w => V 3 (2000 + (5 * w + 40))) w9ξ) 0)), (3, 0, ((zc_wt (zd_X V n1ξ npξ Lwξ p1ξ) (fun w => V 3 (2000 + (5 * w + 41))) (fun w => V 3 (2000 + (5 * w + 42))) w9ξ) + (V 3 (2000 + (5 * w9ξ + 42))))), (0, 2, (A 0 : Int)), (1, 0, p1ξ), (2, 0, p2ξ)]) (n := ((w9ξ : Int) + 1)) (pc := 127) hx hb hnLξ (zd_X12_day (127, .iinc 5 1, 3, 0, []) (List.mem_of_getElem? (i := 72) rfl)) (j := 2) rfl (by omega) (zp_r0 (by omega) (by omega)) rfl rfl ?_
                    refine zp_goto (tgt := 53) (pc := 130) hx hb (zd_X12_day (130, .goto (-77), 3, 0, []) (List.mem_of_getElem? (i := 73) rfl)) rfl ?_
                    have ha9ξ : ((zc_wt (zd_X V n1ξ npξ Lwξ p1ξ) (fun w => V 3 (2000 + (5 * w + 41))) (fun w => V 3 (2000 + (5 * w + 42))) w9ξ) + (V 3 (2000 + (5 * w9ξ + 42)))) = (zc_wt (zd_X V n1ξ npξ Lwξ p1ξ) (fun w => V 3 (2000 + (5 * w + 41))) (fun w => V 3 (2000 + (5 * w + 42))) (w9ξ + 1)) := by
                      rw [zc_wt]
                      by_cases c9ξ : (zd_X V n1ξ npξ Lwξ p1ξ).2 w9ξ ≠ -1 ∧ (zd_X V n1ξ npξ Lwξ p1ξ).2 w9ξ ≤ (fun w => V 3 (2000 + (5 * w + 41))) w9ξ
                      · rw [if_pos c9ξ]
                        all_goals (have c8 := (Iff.mpr hte500ξ) c9ξ; omega)
                      · rw [if_neg c9ξ]
                        all_goals (have c8 : ¬ ((zd_X V n1ξ npξ Lwξ p1ξ).2 w9ξ ≠ -1 ∧ (zd_X V n1ξ npξ Lwξ p1ξ).2 w9ξ ≤ V 3 (2000 + (5 * w9ξ + 41))) := c9ξ; omega)
                    have hb9ξ : (zw_or (zc_md (zd_X V n1ξ npξ Lwξ p1ξ) (fun w => V 3 (2000 + (5 * w + 40))) w9ξ) 0) = (zc_md (zd_X V n1ξ npξ Lwξ p1ξ) (fun w => V 3 (2000 + (5 * w + 40))) (w9ξ + 1)) := by
                      rw [zc_md]
                      rw [zw_or0 zc_mdb, if_neg (by omega)]
                    rw [ha9ξ, hb9ξ]
                    refine zp_drop (L' := [(5, 0, ((w9ξ : Int) + 1)), (4, 0, (zc_md (zd_X V n1ξ npξ Lwξ p1ξ) (fun w => V 3 (2000 + (5 * w + 40))) (w9ξ + 1))), (3, 0, (zc_wt (zd_X V n1ξ npξ Lwξ p1ξ) (fun w => V 3 (2000 + (5 * w + 41))) (fun w => V 3 (2000 + (5 * w + 42))) (w9ξ + 1))), (0, 2, (A 0 : Int)), (1, 0, p1ξ), (2, 0, p2ξ)]) (by simp) ?_
                    exact ihd (w9ξ + 1) (by omega)
                  · refine zp_const (pc := 116) hx hb (zd_X12_day (116, .iconst 1, 1, 0, []) (List.mem_of_getElem? (i := 65) rfl)) rfl rfl ?_
                    refine zp_load (pc := 117) hx hb (zd_X12_day (117, .iload 5, 2, 0, []) (List.mem_of_getElem? (i := 66) rfl)) rfl (j := 1) rfl ?_
                    refine zp_binx (o := 6) (n := (zw_shl 1 (w9ξ : Int))) (pc := 119) hx hb (zd_X12_day (119, .ishl, 1, 0, []) (List.mem_of_getElem? (i := 67) rfl)) rfl (by decide) rfl ?_
                    have hw519ξ := zw_shlb 1 (w9ξ : Int)
                    refine zp_goto (tgt := 124) (pc := 120) hx hb (zd_X12_day (120, .goto 4, 3, 0, []) (List.mem_of_getElem? (i := 68) rfl)) rfl ?_
                    refine zp_binx (o := 4) (n := (zw_or (zc_md (zd_X V n1ξ npξ Lwξ p1ξ) (fun w => V 3 (2000 + (5 * w + 40))) w9ξ) (zw_shl 1 (w9ξ : Int)))) (pc := 124) hx hb (zd_X12_day (124, .ior, 1, 0, []) (List.mem_of_getElem? (i := 70) rfl)) rfl (by decide) rfl ?_
                    have hw520ξ := zw_orb (zc_md (zd_X V n1ξ npξ Lwξ p1ξ) (fun w => V 3 (2000 + (5 * w + 40))) w9ξ) (zw_shl 1 (w9ξ : Int))
                    refine zp_store (L' := [(4, 0, (zw_or (zc_md (zd_X V n1ξ npξ Lwξ p1ξ) (fun w => V 3 (2000 + (5 * w + 40))) w9ξ) (zw_shl 1 (w9ξ : Int)))), (3, 0, ((zc_wt (zd_X V n1ξ npξ Lwξ p1ξ) (fun w => V 3 (2000 + (5 * w + 41))) (fun w => V 3 (2000 + (5 * w + 42))) w9ξ) + (V 3 (2000 + (5 * w9ξ + 42))))), (5, 0, (w9ξ : Int)), (0, 2, (A 0 : Int)), (1, 0, p1ξ), (2, 0, p2ξ)]) (pc := 125) hx hb hnLξ (zd_X12_day (125, .istore 4, 2, 0, []) (List.mem_of_getElem? (i := 71) rfl)) rfl rfl rfl ?_
                    refine zp_iinc (L' := [(5, 0, ((w9ξ : Int) + 1)), (4, 0, (zw_or (zc_md (zd_X V n1ξ npξ Lwξ p1ξ) (fun w => V 3 (2000 + (5 * w + 40))) w9ξ) (zw_shl 1 (w9ξ : Int)))), (3, 0, ((zc_wt (zd_X V n1ξ npξ Lwξ p1ξ) (fun w => V 3 (2000 + (5 * w + 41))) (fun w => V 3 (2000 + (5 * w + 42))) w9ξ) + (V 3 (2000 + (5 * w9ξ + 42))))), (0, 2, (A 0 : Int)), (1, 0, p1ξ), (2, 0, p2ξ)]) (n := ((w9ξ : Int) + 1)) (pc := 127) hx hb hnLξ (zd_X12_day (127, .iinc 5 1, 3, 0, []) (List.mem_of_getElem? (i := 72) rfl)) (j := 2) rfl (by omega) (zp_r0 (by omega) (by omega)) rfl rfl ?_
                    refine zp_goto (tgt := 53) (pc := 130) hx hb (zd_X12_day (130, .goto (-77), 3, 0, []) (List.mem_of_getElem? (i := 73) rfl)) rfl ?_
                    have ha9ξ : ((zc_wt (zd_X V n1ξ npξ Lwξ p1ξ) (fun w => V 3 (2000 + (5 * w + 41))) (fun w => V 3 (2000 + (5 * w + 42))) w9ξ) + (V 3 (2000 + (5 * w9ξ + 42)))) = (zc_wt (zd_X V n1ξ npξ Lwξ p1ξ) (fun w => V 3 (2000 + (5 * w + 41))) (fun w => V 3 (2000 + (5 * w + 42))) (w9ξ + 1)) := by
                      rw [zc_wt]
                      by_cases c9ξ : (zd_X V n1ξ npξ Lwξ p1ξ).2 w9ξ ≠ -1 ∧ (zd_X V n1ξ npξ Lwξ p1ξ).2 w9ξ ≤ (fun w => V 3 (2000 + (5 * w + 41))) w9ξ
                      · rw [if_pos c9ξ]
                        all_goals (have c8 := (Iff.mpr hte500ξ) c9ξ; omega)
                      · rw [if_neg c9ξ]
                        all_goals (have c8 : ¬ ((zd_X V n1ξ npξ Lwξ p1ξ).2 w9ξ ≠ -1 ∧ (zd_X V n1ξ npξ Lwξ p1ξ).2 w9ξ ≤ V 3 (2000 + (5 * w9ξ + 41))) := c9ξ; omega)
                    have hb9ξ : (zw_or (zc_md (zd_X V n1ξ npξ Lwξ p1ξ) (fun w => V 3 (2000 + (5 * w + 40))) w9ξ) (zw_shl 1 (w9ξ : Int))) = (zc_md (zd_X V n1ξ npξ Lwξ p1ξ) (fun w => V 3 (2000 + (5 * w + 40))) (w9ξ + 1)) := by
                      rw [zc_md]
                      rw [if_pos ⟨by omega, by omega⟩]
                    rw [ha9ξ, hb9ξ]
                    refine zp_drop (L' := [(5, 0, ((w9ξ : Int) + 1)), (4, 0, (zc_md (zd_X V n1ξ npξ Lwξ p1ξ) (fun w => V 3 (2000 + (5 * w + 40))) (w9ξ + 1))), (3, 0, (zc_wt (zd_X V n1ξ npξ Lwξ p1ξ) (fun w => V 3 (2000 + (5 * w + 41))) (fun w => V 3 (2000 + (5 * w + 42))) (w9ξ + 1))), (0, 2, (A 0 : Int)), (1, 0, p1ξ), (2, 0, p2ξ)]) (by simp) ?_
                    exact ihd (w9ξ + 1) (by omega)
        refine zp_drop (L' := [(5, 0, 0), (4, 0, 0), (3, 0, 0), (0, 2, (A 0 : Int)), (1, 0, p1ξ), (2, 0, p2ξ)]) (by simp) ?_
        exact loopd n1ξ 0 (by omega)
      · refine zp_load (pc := 40) hx hb (zd_X12_day (40, .aload_n 0, 1, 0, []) (List.mem_of_getElem? (i := 22) rfl)) rfl (j := 0) rfl ?_
        refine zp_call (pc := 41) (how := 0) (idx := 462) (mi := 255) (S := []) hx hb hEξ hwξ heffξ hrmξ (zX_sfr hWξ A Ml npξ) rfl (j := 52) rfl rfl (by decide +kernel) (zd_X12_day (41, .invokevirtual 462, 3, 0, []) (List.mem_of_getElem? (i := 23) rfl)) [(A 0 : Int)] rfl ⟨zp_o2 (zM_P hMlξ (List.mem_of_getElem? (i := 0) rfl)), trivial⟩ (Nat.le_of_ble_eq_true rfl) ⟨hMlξ, rfl, ((hVlξ 3 (2000 + 0) (Or.inl (by decide))).trans ((zp_set_ne (Or.inl (by decide))).trans (hnpξ))), hnp6ξ⟩ (fun al halξ rnf Pf Gf hextfξ hfrfξ hokfξ hcsfξ hpsifξ => ?_)
        obtain rfl := List.mem_singleton.mp halξ
        have hrfξ := zp_int (hokfξ _ rfl).1
        obtain ⟨hPefξ, hGefξ, htfξ⟩ := hpsifξ
        rw [hPefξ, hGefξ]
        clear hextfξ hfrfξ hcsfξ hPefξ hGefξ
        have htfξ : rnf = (zc_sf (fun h p => zd_sp (zRw V) Lwξ p1ξ (zd_pw (zd_ru (zRw V) Lwξ p1ξ) p1ξ h) h p) npξ 24) := Eq.trans htfξ (zc_sf_c (fun h p hhξ hpξ => hDlξ.1 h p hhξ hpξ))
        have hsbξ := zc_sfb (sp := (fun h p => zd_sp (zRw V) Lwξ p1ξ (zd_pw (zd_ru (zRw V) Lwξ p1ξ) p1ξ h) h p)) (npξ := npξ) (h := 24)
        subst htfξ
        refine zp_iret (pc := 44) (n := (zc_sf (fun h p => zd_sp (zRw V) Lwξ p1ξ (zd_pw (zd_ru (zRw V) Lwξ p1ξ) p1ξ h) h p) npξ 24)) hx hb hEξ hQξ hU5ξ rfl (by decide) (zd_X12_day (44, .ireturn, 1, 0, []) (List.mem_of_getElem? (i := 24) rfl)) (j := 0) rfl (zp_o0 (by omega) (by omega) (by omega) (by omega)) ?_
        rw [hpsξ]
        refine ⟨rfl, ?_⟩
        have hffξ : zf_dyr V n1ξ npξ Lwξ p1ξ p2ξ = ((zc_sf (fun h p => zd_sp (zRw V) Lwξ p1ξ (zd_pw (zd_ru (zRw V) Lwξ p1ξ) p1ξ h) h p) npξ 24), (zp_set V 0 0 0)) := by
          unfold zf_dyr
          rw [if_pos ((Iff.mp htn486ξ) (by omega)), if_pos ((Iff.mp htn490ξ) (by omega)), if_neg hc494ξ]
        show zMVr A (zf_dyr V n1ξ npξ Lwξ p1ξ p2ξ).2 u.1 Gl ∧ (zc_sf (fun h p => zd_sp (zRw V) Lwξ p1ξ (zd_pw (zd_ru (zRw V) Lwξ p1ξ) p1ξ h) h p) npξ 24) = (zf_dyr V n1ξ npξ Lwξ p1ξ p2ξ).1
        rw [hffξ]
        exact ⟨⟨Ml, hMlξ, hVlξ, hSlξ⟩, rfl⟩
    · have hbf493ξ : ¬ (0 ≤ p2ξ ∧ p2ξ ≤ 2) := fun h9ξ => absurd ((Iff.mpr htn490ξ) h9ξ) (by omega)
      refine zp_const (pc := 29) hx hb (zd_X12_day (29, .iconst (-1), 1, 0, []) (List.mem_of_getElem? (i := 15) rfl)) rfl rfl ?_
      refine zp_iret (pc := 30) (n := (-1)) hx hb hEξ hQξ hU5ξ rfl (by decide) (zd_X12_day (30, .ireturn, 1, 0, []) (List.mem_of_getElem? (i := 16) rfl)) (j := 0) rfl (zp_o0 (by omega) (by omega) (by omega) (by omega)) ?_
      rw [hpsξ]
      refine ⟨rfl, ?_⟩
      have hffξ : zf_dyr V n1ξ npξ Lwξ p1ξ p2ξ = ((-1), (zp_set V 0 0 0)) := by
        unfold zf_dyr
        rw [if_pos ((Iff.mp htn486ξ) (by omega)), if_neg (fun h9ξ => absurd ((Iff.mpr htn490ξ) h9ξ) (by omega))]
      show zMVr A (zf_dyr V n1ξ npξ Lwξ p1ξ p2ξ).2 u.1 (zp_set (zp_n u.2.1) (A 0) 0 0) ∧ (-1) = (zf_dyr V n1ξ npξ Lwξ p1ξ p2ξ).1
      rw [hffξ]
      exact ⟨⟨(zp_set M 0 0 0), (zM_set hMξ (List.mem_of_getElem? (i := 0) rfl) (by decide)), (zV_set hVξ), (zSb_set (by decide) hSbξ)⟩, rfl⟩