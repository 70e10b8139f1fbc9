/-! part lr: the reference over logical cells: little -/
/-- off one place -/
noncomputable def zOf (at9 : Nat) (V V' : Nat → Nat → Int) : Prop := ∀ o k, ¬ (o = 3 ∧ k = 2000 + at9) → V' o k = V o k
theorem zOf_R {at9 : Nat} {V V' : Nat → Nat → Int} {v : Int} (h : zOf at9 V V') : zRw (zp_set V' 3 (2000 + at9) v) = yu (zRw V) at9 v := by
  funext j
  by_cases e : j = at9
  · subst e
    rw [yu_at]
    exact zp_set_self
  · rw [yu_ne e]
    exact (zp_set_ne (Or.inr (by omega))).trans (h _ _ (by omega))
theorem zOf_b {at9 : Nat} {V V' : Nat → Nat → Int} {v : Int} (h : zOf at9 V V') (hvξ : v = V 3 (2000 + at9)) : zp_set V' 3 (2000 + at9) v = V := by
  funext o k
  by_cases e : o = 3 ∧ k = 2000 + at9
  · rw [e.1, e.2, zp_set_self, hvξ]
  · rw [zp_set_ne (by omega)]
    exact h o k e
theorem zOf_s {at9 : Nat} {V V' : Nat → Nat → Int} {v : Int} (h : zOf at9 V V') : zOf at9 V (zp_set V' 3 (2000 + at9) v) := fun o k hkξ => (zp_set_ne (by omega)).trans (h o k hkξ)
theorem zLV_of {at9 : Nat} {V V' : Nat → Nat → Int} {L : List yK} {v : Int} (h : zOf at9 V V') (h1ξ : at9 < 180) (h4ξ : at9 ≠ 4) (hvξ : -2147483648 ≤ v ∧ v ≤ 2147483647) (hLξ : zLV V L) : zLV (zp_set V' 3 (2000 + at9) v) L := by
  have e : zp_set V' 3 (2000 + at9) v = zp_set V 3 (2000 + at9) v := by
    funext o k
    by_cases e : o = 3 ∧ k = 2000 + at9
    · rw [e.1, e.2, zp_set_self, zp_set_self]
    · rw [zp_set_ne (by omega), zp_set_ne (by omega)]
      exact h o k e
  rw [e]
  exact zLV_3 h1ξ h4ξ hvξ hLξ
noncomputable def zK_lit : zk_K := (zt_mn 262, prog_14_method_87_code, 7, (Option.some Jvm.ClassFile.FieldType.int), 1, 12, [(2, 13, 0, 0), (0, 0, (-2147483648), 2147483647), (0, 0, (-2147483648), 2147483647)], [(some (0, 0, (-2147483648), 2147483647), [])], zUE, (6, 380, 0, 0))
noncomputable def zφ_lit (A : Nat → Nat) (V : Nat → Nat → Int) (n1ξ npξ : Nat) (Lwξ : List yK) : (Nat → Option Nat) → (Nat → Nat → Int) → List Int → Prop := fun P G ps => zMVr A V P G ∧ ps.getD 0 0 = (A 0 : Int) ∧ zLV V Lwξ ∧ zd_ok (zRw V) n1ξ npξ ∧ V 0 47 = -1 ∧ (∀ w, w < n1ξ → zRw V (w + 29) ≤ zRw V (5 * w + 40)) ∧ zOwn (zRw V) n1ξ npξ
noncomputable def zψ_lit (A : Nat → Nat) (V : Nat → Nat → Int) (n1ξ npξ : Nat) (Lwξ : List yK) : (Nat → Option Nat) → (Nat → Nat → Int) → List Int → (Nat → Option Nat) → (Nat → Nat → Int) → Int → Prop := fun P G ps P' G' rn => P' = P ∧ zMVr A (zp_set V 0 0 0) P' G' ∧ rn = (if (0 ≤ (ps.getD 1 0) ∧ (ps.getD 1 0) < (n1ξ : Int)) ∧ 0 ≤ (ps.getD 2 0) ∧ (ps.getD 2 0) ≤ 12 then zv_li (zRw V) n1ξ npξ Lwξ (ps.getD 1 0).toNat (ps.getD 2 0) else -1)
theorem zX_lit {l : Launch} {w : zk_W} (hWξ : zh_W w) (A : Nat → Nat) (V : Nat → Nat → Int) (n1ξ npξ : Nat) (Lwξ : List yK) : zk_metX l w zt_dv zt_TB zK_lit (zp_A (zφ_lit A V n1ξ npξ Lwξ)) (zp_B (zψ_lit A V n1ξ npξ Lwξ)) ∧ zk_cok w zt_TB zK_lit := by
  refine zp_methX (cn := "WoundTownModel") zp_lkall hWξ (pl := 1900) rfl (by decide +kernel) (fun p e R s m args below meth c Q u hx hb hEξ hQξ hU5ξ heffξ hnLξ hokξ hφ => ?_)
  have hwξ := hWξ.1
  obtain ⟨p0ξ, p1ξ, p2ξ, hpsξ, tk0, tk1, tk2⟩ := zp_ps3 hokξ
  have hrmξ : zk_Kr (zk_ev (zt_types, zp_lk, zt_dv, [], [], zp_lc, zK_lit)) = zk_Kr zK_lit := rfl
  rw [hpsξ] at hφ ⊢
  have hφ : zMVr A V u.1 (zp_n u.2.1) ∧ p0ξ = (A 0 : Int) ∧ zLV V Lwξ ∧ zd_ok (zRw V) n1ξ npξ ∧ V 0 47 = -1 ∧ (∀ w, w < n1ξ → zRw V (w + 29) ≤ zRw V (5 * w + 40)) ∧ zOwn (zRw V) n1ξ npξ := hφ
  obtain ⟨⟨M, hMξ, hVξ, hSbξ⟩, rfl, hLVξ, hDξ, h47ξ, hdmξ, howξ⟩ := hφ
  have hi1ξ := zp_int tk1
  have hi2ξ := zp_int tk2
  show zp_J p l e R s m args below meth c Q w u [] 0 [(0, 2, (A 0 : Int)), (1, 0, p1ξ), (2, 0, p2ξ)] [] u.1 (zp_n u.2.1)
  have hDkξ := hDξ
  obtain ⟨hn10ξ, hnp6ξ, hn1ξ, hnpξ, hDwξ, hDpξ⟩ := hDξ
  have hn1ξ : V 3 (2000 + 1) = (n1ξ : Int) := hn1ξ
  have hnpξ : V 3 (2000 + 0) = (npξ : Int) := hnpξ
  have hRξ := hLVξ.1
  refine zp_load (pc := 0) hx hb (zd_X12_little (0, .aload_n 0, 1, 0, []) (List.mem_of_getElem? (i := 0) rfl)) rfl (j := 0) rfl ?_
  refine zp_const (pc := 1) hx hb (zd_X12_little (1, .iconst 0, 1, 0, []) (List.mem_of_getElem? (i := 1) rfl)) rfl rfl ?_
  refine zp_putf (pc := 2) hx hb hEξ hwξ heffξ (zd_X12_little (2, .putfield 161, 3, 0, []) (List.mem_of_getElem? (i := 2) rfl)) (j := 18) rfl rfl rfl (zM_P hMξ (List.mem_of_getElem? (i := 0) rfl)) (zp_o0 (by decide) (by decide) (by decide) (by decide)) ?_
  refine zp_load (pc := 5) hx hb (zd_X12_little (5, .aload_n 0, 1, 0, []) (List.mem_of_getElem? (i := 3) rfl)) rfl (j := 0) rfl ?_
  refine zp_load (pc := 6) hx hb (zd_X12_little (6, .iload_n 1, 1, 0, []) (List.mem_of_getElem? (i := 4) rfl)) rfl (j := 1) rfl ?_
  refine zp_call (pc := 7) (how := 0) (idx := 217) (mi := 200) (S := []) hx hb hEξ hwξ heffξ hrmξ (zX_isw hWξ A (zp_set M 0 0 0)) rfl (j := 10) rfl rfl (by decide +kernel) (zd_X12_little (7, .invokevirtual 217, 3, 0, []) (List.mem_of_getElem? (i := 5) rfl)) [(A 0 : Int), p1ξ] rfl ⟨zp_o2 (zM_P hMξ (List.mem_of_getElem? (i := 0) rfl)), zp_o0 (by omega) (by omega) (by omega) (by omega), trivial⟩ (Nat.le_of_ble_eq_true rfl) ⟨(zM_set hMξ (List.mem_of_getElem? (i := 0) rfl) (by decide)), rfl, (show -2147483647 ≤ (zp_set M 0 0 0) 3 (2000 + 1) ∧ (zp_set M 0 0 0) 3 (2000 + 1) ≤ 2147483647 by rw [((zp_set_ne (Or.inl (by decide))).trans (((hVξ 3 (2000 + 1) (Or.inl (by decide))).trans hn1ξ)))]; omega)⟩ (fun al halξ rni593ξ Pi593 Gi593 hexti593ξ hfri593ξ hoki593ξ hcsi593ξ hpsii593ξ => ?_)
  obtain rfl := List.mem_singleton.mp halξ
  have hri593ξ := zp_int (hoki593ξ _ rfl).1
  obtain ⟨hPei593ξ, hGei593ξ, hti593ξ⟩ := hpsii593ξ
  rw [hPei593ξ, hGei593ξ]
  clear hexti593ξ hfri593ξ hcsi593ξ hPei593ξ hGei593ξ
  have hti593ξ : rni593ξ = 1 ↔ 0 ≤ p1ξ ∧ p1ξ < (n1ξ : Int) := by
    have h9ξ : rni593ξ = 1 ↔ 0 ≤ p1ξ ∧ p1ξ < (zp_set M 0 0 0) 3 (2000 + 1) := hti593ξ
    rw [((zp_set_ne (Or.inl (by decide))).trans (((hVξ 3 (2000 + 1) (Or.inl (by decide))).trans hn1ξ)))] at h9ξ
    exact h9ξ
  refine zp_if (pc := 10) (tgt := 33) hx hb (zd_X12_little (10, .ifCond .eq 23, 3, 0, []) (List.mem_of_getElem? (i := 6) rfl)) rfl (fun (hc594ξ : rni593ξ = 0) => ?_) (fun (hc594ξ : ¬ (rni593ξ = 0)) => ?_)
  · have hbf595ξ : ¬ (0 ≤ p1ξ ∧ p1ξ < (n1ξ : Int)) := fun h9ξ => absurd ((Iff.mpr hti593ξ) h9ξ) (by omega)
    refine zp_const (pc := 33) hx hb (zd_X12_little (33, .iconst (-1), 1, 0, []) (List.mem_of_getElem? (i := 17) rfl)) rfl rfl ?_
    refine zp_iret (pc := 34) (n := (-1)) hx hb hEξ hQξ hU5ξ rfl (by decide) (zd_X12_little (34, .ireturn, 1, 0, []) (List.mem_of_getElem? (i := 18) rfl)) (j := 0) rfl (zp_o0 (by omega) (by omega) (by omega) (by omega)) ?_
    rw [hpsξ]
    refine ⟨rfl, ?_⟩
    refine ⟨⟨(zp_set M 0 0 0), (zM_set hMξ (List.mem_of_getElem? (i := 0) rfl) (by decide)), (zV_set hVξ), (zSb_set (by decide) hSbξ)⟩, ?_⟩
    show (-1) = (if (0 ≤ p1ξ ∧ p1ξ < (n1ξ : Int)) ∧ 0 ≤ p2ξ ∧ p2ξ ≤ 12 then zv_li (zRw V) n1ξ npξ Lwξ p1ξ.toNat p2ξ else -1)
    rw [if_neg (by omega)]
  · have hbt596ξ := (Iff.mp hti593ξ) (by omega)
    refine zp_load (pc := 13) hx hb (zd_X12_little (13, .iload_n 2, 1, 0, []) (List.mem_of_getElem? (i := 7) rfl)) rfl (j := 2) rfl ?_
    refine zp_i2l (pc := 14) hx hb (zd_X12_little (14, .i2l, 1, 0, []) (List.mem_of_getElem? (i := 8) rfl)) ?_
    refine zp_const (pc := 15) hx hb (zd_X12_little (15, .lconst 0, 1, 0, []) (List.mem_of_getElem? (i := 9) rfl)) rfl rfl ?_
    refine zp_ldc2 (pc := 16) hx hb hEξ (zd_X12_little (16, .ldc2_w 431, 3, 0, []) (List.mem_of_getElem? (i := 10) rfl)) (j := 105) rfl ?_
    refine zp_call (pc := 19) (how := 1) (idx := 181) (mi := 186) (S := []) hx hb hEξ hwξ heffξ hrmξ (zX_in2 hWξ) rfl (j := 2) rfl rfl (by decide +kernel) (zd_X12_little (19, .invokestatic 181, 3, 0, []) (List.mem_of_getElem? (i := 11) rfl)) [p2ξ, 0, 12] rfl ⟨zp_o1 (by first | assumption | exact zp_r1 (by omega) (by omega)), zp_o1 (by first | assumption | exact zp_r1 (by omega) (by omega)), zp_o1 (by first | assumption | exact zp_r1 (by omega) (by omega)), trivial⟩ (Nat.le_of_ble_eq_true rfl) trivial (fun al halξ rnn597ξ Pn597 Gn597 hextn597ξ hfrn597ξ hokn597ξ hcsn597ξ hpsin597ξ => ?_)
    obtain rfl := List.mem_singleton.mp halξ
    have hrn597ξ := zp_int (hokn597ξ _ rfl).1
    obtain ⟨hPen597ξ, hGen597ξ, htn597ξ⟩ := hpsin597ξ
    rw [hPen597ξ, hGen597ξ]
    clear hextn597ξ hfrn597ξ hcsn597ξ hPen597ξ hGen597ξ
    have htn597ξ : rnn597ξ = 1 ↔ 0 ≤ p2ξ ∧ p2ξ ≤ 12 := htn597ξ
    refine zp_if (pc := 22) (tgt := 33) hx hb (zd_X12_little (22, .ifCond .eq 11, 3, 0, []) (List.mem_of_getElem? (i := 12) rfl)) rfl (fun (hc598ξ : rnn597ξ = 0) => ?_) (fun (hc598ξ : ¬ (rnn597ξ = 0)) => ?_)
    · have hbf599ξ : ¬ (0 ≤ p2ξ ∧ p2ξ ≤ 12) := fun h9ξ => absurd ((Iff.mpr htn597ξ) h9ξ) (by omega)
      refine zp_const (pc := 33) hx hb (zd_X12_little (33, .iconst (-1), 1, 0, []) (List.mem_of_getElem? (i := 17) rfl)) rfl rfl ?_
      refine zp_iret (pc := 34) (n := (-1)) hx hb hEξ hQξ hU5ξ rfl (by decide) (zd_X12_little (34, .ireturn, 1, 0, []) (List.mem_of_getElem? (i := 18) rfl)) (j := 0) rfl (zp_o0 (by omega) (by omega) (by omega) (by omega)) ?_
      rw [hpsξ]
      refine ⟨rfl, ?_⟩
      refine ⟨⟨(zp_set M 0 0 0), (zM_set hMξ (List.mem_of_getElem? (i := 0) rfl) (by decide)), (zV_set hVξ), (zSb_set (by decide) hSbξ)⟩, ?_⟩
      show (-1) = (if (0 ≤ p1ξ ∧ p1ξ < (n1ξ : Int)) ∧ 0 ≤ p2ξ ∧ p2ξ ≤ 12 then zv_li (zRw V) n1ξ npξ Lwξ p1ξ.toNat p2ξ else -1)
      rw [if_neg (by omega)]
    · have hbt600ξ := (Iff.mp htn597ξ) (by omega)
      refine zp_load (pc := 25) hx hb (zd_X12_little (25, .aload_n 0, 1, 0, []) (List.mem_of_getElem? (i := 13) rfl)) rfl (j := 0) rfl ?_
      refine zp_load (pc := 26) hx hb (zd_X12_little (26, .iload_n 1, 1, 0, []) (List.mem_of_getElem? (i := 14) rfl)) rfl (j := 1) rfl ?_
      refine zp_call (pc := 27) (how := 0) (idx := 210) (mi := 197) (S := []) hx hb hEξ hwξ heffξ hrmξ (zX_iov hWξ A (zp_set M 0 0 0) p1ξ.toNat) rfl (j := 8) rfl rfl (by decide +kernel) (zd_X12_little (27, .invokevirtual 210, 3, 0, []) (List.mem_of_getElem? (i := 15) rfl)) [(A 0 : Int), p1ξ] rfl ⟨zp_o2 (zM_P hMξ (List.mem_of_getElem? (i := 0) rfl)), zp_o0 (by omega) (by omega) (by omega) (by omega), trivial⟩ (Nat.le_of_ble_eq_true rfl) ⟨(zM_set hMξ (List.mem_of_getElem? (i := 0) rfl) (by decide)), rfl, (show (p1ξ : Int) = ((p1ξ.toNat : Nat) : Int) by omega), by omega, (by rw [((zp_set_ne (Or.inl (by decide))).trans ((hVξ 3 (2000 + (p1ξ.toNat + 29)) (Or.inl (by decide)))))]; exact hRξ (p1ξ.toNat + 29) (by omega)), (by rw [((zp_set_ne (Or.inl (by decide))).trans ((hVξ 3 (2000 + (5 * p1ξ.toNat + 40)) (Or.inl (by decide)))))]; exact hRξ (5 * p1ξ.toNat + 40) (by omega))⟩ (fun al halξ rno601ξ Po601 Go601 hexto601ξ hfro601ξ hoko601ξ hcso601ξ hpsio601ξ => ?_)
      obtain rfl := List.mem_singleton.mp halξ
      have hro601ξ := zp_int (hoko601ξ _ rfl).1
      obtain ⟨hPeo601ξ, hGeo601ξ, hto601ξ⟩ := hpsio601ξ
      rw [hPeo601ξ, hGeo601ξ]
      clear hexto601ξ hfro601ξ hcso601ξ hPeo601ξ hGeo601ξ
      have hto601ξ : rno601ξ = 1 ↔ (V 3 (2000 + (p1ξ.toNat + 29))) = (V 3 (2000 + (5 * p1ξ.toNat + 40))) := by
        have h9ξ : rno601ξ = 1 ↔ (zp_set M 0 0 0) 3 (2000 + (p1ξ.toNat + 29)) = (zp_set M 0 0 0) 3 (2000 + (5 * p1ξ.toNat + 40)) := hto601ξ
        rw [((zp_set_ne (Or.inl (by decide))).trans ((hVξ 3 (2000 + (p1ξ.toNat + 29)) (Or.inl (by decide))))), ((zp_set_ne (Or.inl (by decide))).trans ((hVξ 3 (2000 + (5 * p1ξ.toNat + 40)) (Or.inl (by decide)))))] at h9ξ
        exact h9ξ
      refine zp_if (pc := 30) (tgt := 35) hx hb (zd_X12_little (30, .ifCond .eq 5, 3, 0, []) (List.mem_of_getElem? (i := 16) rfl)) rfl (fun (hc602ξ : rno601ξ = 0) => ?_) (fun (hc602ξ : ¬ (rno601ξ = 0)) => ?_)
      · refine zp_const (pc := 35) hx hb (zd_X12_little (35, .bipush 11, 2, 0, []) (List.mem_of_getElem? (i := 19) rfl)) rfl rfl ?_
        refine zp_const (pc := 37) hx hb (zd_X12_little (37, .iconst 3, 1, 0, []) (List.mem_of_getElem? (i := 20) rfl)) rfl rfl ?_
        refine zp_load (pc := 38) hx hb (zd_X12_little (38, .aload_n 0, 1, 0, []) (List.mem_of_getElem? (i := 21) rfl)) rfl (j := 0) rfl ?_
        refine zp_load (pc := 39) hx hb (zd_X12_little (39, .iload_n 1, 1, 0, []) (List.mem_of_getElem? (i := 22) rfl)) rfl (j := 1) rfl ?_
        refine zp_const (pc := 40) hx hb (zd_X12_little (40, .iconst 0, 1, 0, []) (List.mem_of_getElem? (i := 23) rfl)) rfl rfl ?_
        have how9ξ := howξ p1ξ.toNat (by omega)
        have how9ξ : 0 ≤ (V 3 (2000 + (5 * p1ξ.toNat + 39))) ∧ (V 3 (2000 + (5 * p1ξ.toNat + 39))) < (npξ : Int) := how9ξ
        refine zp_call (pc := 41) (how := 0) (idx := 188) (mi := 196) (S := [(0, 3), (0, 11)]) hx hb hEξ hwξ heffξ hrmξ (zX_ofw hWξ A (zp_set M 0 0 0) p1ξ.toNat 0) rfl (j := 7) rfl rfl (by decide +kernel) (zd_X12_little (41, .invokevirtual 188, 3, 0, []) (List.mem_of_getElem? (i := 24) rfl)) [(A 0 : Int), p1ξ, 0] rfl ⟨zp_o2 (zM_P hMξ (List.mem_of_getElem? (i := 0) rfl)), zp_o0 (by omega) (by omega) (by omega) (by omega), zp_o0 (by decide) (by decide) (by decide) (by decide), trivial⟩ (Nat.le_of_ble_eq_true rfl) ⟨(zM_set hMξ (List.mem_of_getElem? (i := 0) rfl) (by decide)), rfl, (show p1ξ = ((p1ξ.toNat : Nat) : Int) by omega), rfl, (show -2147483648 ≤ (zp_set M 0 0 0) 3 (2000 + (5 * p1ξ.toNat + 39)) ∧ (zp_set M 0 0 0) 3 (2000 + (5 * p1ξ.toNat + 39)) ≤ 2147483647 by rw [((zp_set_ne (Or.inl (by decide))).trans ((hVξ 3 (2000 + (5 * p1ξ.toNat + 39)) (Or.inl (by decide)))))]; omega)⟩ (fun al halξ rnf603ξ Pf603 Gf603 hextf603ξ hfrf603ξ hokf603ξ hcsf603ξ hpsif603ξ => ?_)
        obtain rfl := List.mem_singleton.mp halξ
        have hrf603ξ := zp_int (hokf603ξ _ rfl).1
        obtain ⟨hPef603ξ, hGef603ξ, htf603ξ⟩ := hpsif603ξ
        rw [hPef603ξ, hGef603ξ]
        clear hextf603ξ hfrf603ξ hcsf603ξ hPef603ξ hGef603ξ
        have htf603ξ : rnf603ξ = (V 3 (2000 + (5 * p1ξ.toNat + 39))) := (Eq.trans htf603ξ) (((zp_set_ne (Or.inl (by decide))).trans ((hVξ 3 (2000 + (5 * p1ξ.toNat + 39)) (Or.inl (by decide))))))
        have htf603ξ := (Eq.symm htf603ξ)
        subst htf603ξ
        have hli9ξ := hDpξ (V 3 (2000 + (5 * p1ξ.toNat + 39))).toNat (by omega)
        have hli9ξ : 0 ≤ (V 3 (2000 + (3 * (V 3 (2000 + (5 * p1ξ.toNat + 39))).toNat + 13))) ∧ (V 3 (2000 + (3 * (V 3 (2000 + (5 * p1ξ.toNat + 39))).toNat + 13))) ≤ 9 := hli9ξ
        refine zp_mul (n := (3 * (V 3 (2000 + (5 * p1ξ.toNat + 39))))) (pc := 44) hx hb (zd_X12_little (44, .imul, 1, 0, []) (List.mem_of_getElem? (i := 25) rfl)) (by omega) (zp_r0 (by omega) (by omega)) ?_
        refine zp_add (n := (11 + (3 * (V 3 (2000 + (5 * p1ξ.toNat + 39)))))) (pc := 45) hx hb (zd_X12_little (45, .iadd, 1, 0, []) (List.mem_of_getElem? (i := 26) rfl)) (by omega) (zp_r0 (by omega) (by omega)) ?_
        refine zp_const (pc := 46) hx hb (zd_X12_little (46, .iconst 2, 1, 0, []) (List.mem_of_getElem? (i := 27) rfl)) rfl rfl ?_
        refine zp_add (n := ((11 + (3 * (V 3 (2000 + (5 * p1ξ.toNat + 39))))) + 2)) (pc := 47) hx hb (zd_X12_little (47, .iadd, 1, 0, []) (List.mem_of_getElem? (i := 28) rfl)) (by omega) (zp_r0 (by omega) (by omega)) ?_
        refine zp_store (L' := [(3, 0, ((11 + (3 * (V 3 (2000 + (5 * p1ξ.toNat + 39))))) + 2)), (0, 2, (A 0 : Int)), (1, 0, p1ξ), (2, 0, p2ξ)]) (pc := 48) hx hb hnLξ (zd_X12_little (48, .istore_n 3, 1, 0, []) (List.mem_of_getElem? (i := 29) rfl)) rfl rfl rfl ?_
        refine zp_load (pc := 49) hx hb (zd_X12_little (49, .aload_n 0, 1, 0, []) (List.mem_of_getElem? (i := 30) rfl)) rfl (j := 1) rfl ?_
        refine zp_getf (n := (A 3 : Int)) (pc := 50) hx hb hEξ hwξ (zd_X12_little (50, .getfield 13, 3, 0, []) (List.mem_of_getElem? (i := 31) rfl)) (j := 21) rfl rfl rfl (zM_P hMξ (List.mem_of_getElem? (i := 0) rfl)) ((zp_set_ne (Or.inr (by decide))).trans (((zM_G hMξ (List.mem_of_getElem? (i := 0) rfl) 3).trans (zM_F hMξ (List.mem_of_getElem? (i := 1) rfl))))) ?_
        refine zp_load (pc := 53) hx hb (zd_X12_little (53, .iload_n 3, 1, 0, []) (List.mem_of_getElem? (i := 32) rfl)) rfl (j := 0) rfl ?_
        refine zp_ialdT (j := (((11 + (3 * (V 3 (2000 + (5 * p1ξ.toNat + 39))))) + 2)).toNat) (v := (V 3 (2000 + (((11 + (3 * (V 3 (2000 + (5 * p1ξ.toNat + 39))))) + 2)).toNat))) (pc := 54) hx hb hwξ (zd_X12_little (54, .iaload, 1, 0, []) (List.mem_of_getElem? (i := 33) rfl)) zl_T59 rfl (zl_kd ((((11 + (3 * (V 3 (2000 + (5 * p1ξ.toNat + 39))))) + 2)).toNat)) (zM_P hMξ (List.mem_of_getElem? (i := 2) rfl)) (by omega) (show (((11 + (3 * (V 3 (2000 + (5 * p1ξ.toNat + 39))))) + 2)).toNat < 5580 by omega) ((zp_set_ne (Or.inl (zM_ne hMξ (List.mem_of_getElem? (i := 2) rfl) (List.mem_of_getElem? (i := 0) rfl) (by decide)))).trans (((zM_G hMξ (List.mem_of_getElem? (i := 2) rfl) (2000 + (((11 + (3 * (V 3 (2000 + (5 * p1ξ.toNat + 39))))) + 2)).toNat)).trans (hVξ 3 (2000 + (((11 + (3 * (V 3 (2000 + (5 * p1ξ.toNat + 39))))) + 2)).toNat) (Or.inl (by decide)))))) (fun _ => ?_)
        refine zp_store (L' := [(4, 0, (V 3 (2000 + (((11 + (3 * (V 3 (2000 + (5 * p1ξ.toNat + 39))))) + 2)).toNat))), (3, 0, ((11 + (3 * (V 3 (2000 + (5 * p1ξ.toNat + 39))))) + 2)), (0, 2, (A 0 : Int)), (1, 0, p1ξ), (2, 0, p2ξ)]) (pc := 55) hx hb hnLξ (zd_X12_little (55, .istore 4, 2, 0, []) (List.mem_of_getElem? (i := 34) rfl)) rfl rfl rfl ?_
        refine zp_const (pc := 57) hx hb (zd_X12_little (57, .iconst (-1), 1, 0, []) (List.mem_of_getElem? (i := 35) rfl)) rfl rfl ?_
        refine zp_store (L' := [(5, 0, (-1)), (4, 0, (V 3 (2000 + (((11 + (3 * (V 3 (2000 + (5 * p1ξ.toNat + 39))))) + 2)).toNat))), (3, 0, ((11 + (3 * (V 3 (2000 + (5 * p1ξ.toNat + 39))))) + 2)), (0, 2, (A 0 : Int)), (1, 0, p1ξ), (2, 0, p2ξ)]) (pc := 58) hx hb hnLξ (zd_X12_little (58, .istore 5, 2, 0, []) (List.mem_of_getElem? (i := 36) rfl)) rfl rfl rfl ?_
        refine zp_const (pc := 60) hx hb (zd_X12_little (60, .iconst 0, 1, 0, []) (List.mem_of_getElem? (i := 37) rfl)) rfl rfl ?_
        refine zp_store (L' := [(6, 0, 0), (5, 0, (-1)), (4, 0, (V 3 (2000 + (((11 + (3 * (V 3 (2000 + (5 * p1ξ.toNat + 39))))) + 2)).toNat))), (3, 0, ((11 + (3 * (V 3 (2000 + (5 * p1ξ.toNat + 39))))) + 2)), (0, 2, (A 0 : Int)), (1, 0, p1ξ), (2, 0, p2ξ)]) (pc := 61) hx hb hnLξ (zd_X12_little (61, .istore 6, 2, 0, []) (List.mem_of_getElem? (i := 38) rfl)) rfl rfl rfl ?_
        obtain ⟨V0, hV0ξ⟩ : ∃ V0 : Nat → Nat → Int, V0 = V := ⟨V, rfl⟩
        subst hV0ξ
        obtain ⟨V, hVdξ⟩ : ∃ V : Nat → Nat → Int, V = (zp_set V0 0 0 0) := ⟨_, rfl⟩
        have hRzξ : zRw V = zRw V0 := by
          rw [hVdξ]
          exact funext fun j => zp_set_ne (Or.inl (by decide))
        have hLVξ : zLV V Lwξ := by
          rw [hVdξ]
          exact zLV_o (by decide) (Or.inr (by decide)) hLVξ
        have hDkξ : zd_ok (zRw V) n1ξ npξ := by rw [hRzξ]; exact hDkξ
        have h47ξ : V 0 47 = -1 := by
          rw [hVdξ]
          exact (zp_set_ne (Or.inr (by decide))).trans h47ξ
        have hn1ξ : V 3 (2000 + 1) = (n1ξ : Int) := hDkξ.2.2.1
        have hnpξ : V 3 (2000 + 0) = (npξ : Int) := hDkξ.2.2.2.1
        have hRξ := hLVξ.1
        have hV9ξ : ∀ o k, zNs o k → (zp_set M 0 0 0) o k = V o k := by
          rw [hVdξ]
          exact (zV_set hVξ)
        have hdmξ : ∀ w, w < n1ξ → zRw V (w + 29) ≤ zRw V (5 * w + 40) := by rw [hRzξ]; exact hdmξ
        have hvoξ : ∀ k, V 3 k = V0 3 k := fun k => by
          rw [hVdξ]
          exact zp_set_ne (Or.inl (by decide))
        obtain ⟨ow9, how8ξ⟩ : ∃ ow9 : Nat, (V0 3 (2000 + (5 * p1ξ.toNat + 39))) = (ow9 : Int) := zp_nat (by omega)
        have hp9ξ : ow9 < npξ := by omega
        rw [how8ξ]
        rw [how8ξ, Int.toNat_natCast] at hli9ξ
        have hat9ξ : ((11 + (3 * (ow9 : Int))) + 2).toNat = 3 * ow9 + 13 := by omega
        rw [hat9ξ]
        obtain ⟨l9ξ, hl9ξ⟩ : ∃ l9ξ : Int, l9ξ = V0 3 (2000 + (3 * ow9 + 13)) := ⟨_, rfl⟩
        rw [← hl9ξ] at hli9ξ ⊢
        have hlVξ : zRw V (3 * ow9 + 13) = l9ξ := (hvoξ _).trans (Eq.symm hl9ξ)
        have hoVξ : zRw V (5 * p1ξ.toNat + 39) = (ow9 : Int) := (hvoξ _).trans how8ξ
        have hvalξ : (if (0 ≤ p1ξ ∧ p1ξ < (n1ξ : Int)) ∧ 0 ≤ p2ξ ∧ p2ξ ≤ 12 then zv_li (zRw V) n1ξ npξ Lwξ p1ξ.toNat p2ξ else -1) = zq_li (zRw V) n1ξ npξ Lwξ p2ξ p1ξ.toNat ow9 (10 - l9ξ).toNat 0 := by
          rw [if_pos ⟨by omega, by omega⟩]
          unfold zv_li
          rw [hoVξ, Int.toNat_natCast, hlVξ, if_pos]
          show V 3 (2000 + (p1ξ.toNat + 29)) < V 3 (2000 + (5 * p1ξ.toNat + 40))
          rw [hvoξ, hvoξ]
          have hdm9ξ := hdmξ p1ξ.toNat (by omega)
          have hdm9ξ : V 3 (2000 + (p1ξ.toNat + 29)) ≤ V 3 (2000 + (5 * p1ξ.toNat + 40)) := hdm9ξ
          rw [hvoξ, hvoξ] at hdm9ξ
          omega
        obtain ⟨V1, hV1ξ⟩ : ∃ V1 : Nat → Nat → Int, V1 = V := ⟨V, rfl⟩
        subst hV1ξ
        have loop : ∀ (r9ξ k9ξ : Nat) (b9ξ : Int) (V M : Nat → Nat → Int) (G : Nat → Nat → Int), (r9ξ : Int) + (k9ξ : Int) = 10 - l9ξ → zM A zYr zFr M u.1 G → (∀ o k, zNs o k → M o k = V o k) → zSb M → zOf (3 * ow9 + 13) V1 V → ((b9ξ = -1 ∧ zq_li (zRw V1) n1ξ npξ Lwξ p2ξ p1ξ.toNat ow9 (10 - l9ξ).toNat 0 = zq_li (zRw V1) n1ξ npξ Lwξ p2ξ p1ξ.toNat ow9 r9ξ k9ξ) ∨ (0 ≤ b9ξ ∧ b9ξ ≤ 9 ∧ b9ξ = zq_li (zRw V1) n1ξ npξ Lwξ p2ξ p1ξ.toNat ow9 (10 - l9ξ).toNat 0)) → zp_J p l e R s m args below meth c Q w u [] 63 [(6, 0, (k9ξ : Int)), (5, 0, b9ξ), (4, 0, l9ξ), (3, 0, ((11 + (3 * (ow9 : Int))) + 2)), (0, 2, (A 0 : Int)), (1, 0, p1ξ), (2, 0, p2ξ)] [] u.1 G := by
          clear hV9ξ
          intro r9ξ
          induction r9ξ with
          | zero =>
            intro k9ξ b9ξ V M G hrξ hMξ hVξ hSbξ hPξ hbsξ
            have hbbξ : -1 ≤ b9ξ ∧ b9ξ ≤ 9 := by omega
            have hk10ξ : (k9ξ : Int) ≤ 10 := by omega
            refine zp_load (pc := 63) hx hb (zd_X12_little (63, .iload 4, 2, 0, []) (List.mem_of_getElem? (i := 39) rfl)) rfl (j := 2) rfl ?_
            refine zp_load (pc := 65) hx hb (zd_X12_little (65, .iload 6, 2, 0, []) (List.mem_of_getElem? (i := 40) rfl)) rfl (j := 0) rfl ?_
            refine zp_add (n := (l9ξ + (k9ξ : Int))) (pc := 67) hx hb (zd_X12_little (67, .iadd, 1, 0, []) (List.mem_of_getElem? (i := 41) rfl)) (by omega) (zp_r0 (by omega) (by omega)) ?_
            refine zp_const (pc := 68) hx hb (zd_X12_little (68, .bipush 10, 2, 0, []) (List.mem_of_getElem? (i := 42) rfl)) rfl rfl ?_
            refine zp_icmp (pc := 70) (tgt := 117) hx hb (zd_X12_little (70, .if_icmp .ge 47, 3, 0, []) (List.mem_of_getElem? (i := 43) rfl)) rfl (fun (hc605ξ : 10 ≤ (l9ξ + (k9ξ : Int))) => ?_) (fun (hc605ξ : ¬ (10 ≤ (l9ξ + (k9ξ : Int)))) => ?_)
            · refine zp_load (pc := 117) hx hb (zd_X12_little (117, .aload_n 0, 1, 0, []) (List.mem_of_getElem? (i := 67) rfl)) rfl (j := 4) rfl ?_
              refine zp_getf (n := (A 3 : Int)) (pc := 118) hx hb hEξ hwξ (zd_X12_little (118, .getfield 13, 3, 0, []) (List.mem_of_getElem? (i := 68) rfl)) (j := 21) rfl rfl rfl (zM_P hMξ (List.mem_of_getElem? (i := 0) rfl)) ((zM_G hMξ (List.mem_of_getElem? (i := 0) rfl) 3).trans (zM_F hMξ (List.mem_of_getElem? (i := 1) rfl))) ?_
              refine zp_load (pc := 121) hx hb (zd_X12_little (121, .iload_n 3, 1, 0, []) (List.mem_of_getElem? (i := 69) rfl)) rfl (j := 3) rfl ?_
              refine zp_load (pc := 122) hx hb (zd_X12_little (122, .iload 4, 2, 0, []) (List.mem_of_getElem? (i := 70) rfl)) rfl (j := 2) rfl ?_
              refine zp_iastR (j := (3 * ow9 + 13)) (pc := 124) hx hb hwξ heffξ (zd_X12_little (124, .iastore, 1, 0, []) (List.mem_of_getElem? (i := 71) rfl)) (zM_P hMξ (List.mem_of_getElem? (i := 2) rfl)) (by omega) (show (3 * ow9 + 13) < 180 by omega) (zr_st (lo := 0) (hi := 9) (zr_l ow9 (by omega)) (by omega) (by omega) (by omega) (by omega)) ⟨1002, rfl, zp_1002 (by omega)⟩ ?_
              refine zp_load (pc := 125) hx hb (zd_X12_little (125, .iload 5, 2, 0, []) (List.mem_of_getElem? (i := 72) rfl)) rfl (j := 1) rfl ?_
              refine zp_iret (pc := 127) (n := b9ξ) hx hb hEξ hQξ hU5ξ rfl (by decide) (zd_X12_little (127, .ireturn, 1, 0, []) (List.mem_of_getElem? (i := 73) rfl)) (j := 0) rfl (zp_o0 (by omega) (by omega) (by omega) (by omega)) ?_
              rw [hpsξ]
              refine ⟨rfl, ?_⟩
              rw [← hVdξ, ← hRzξ]
              refine ⟨zMV_cg ⟨(zp_set M 3 (2000 + (3 * ow9 + 13)) l9ξ), (zM_setE hMξ (List.mem_of_getElem? (i := 2) rfl)), (zV_set hVξ), (zSb_set (by decide) hSbξ)⟩ (zOf_b hPξ (Eq.symm hlVξ)), ?_⟩
              show b9ξ = (if (0 ≤ p1ξ ∧ p1ξ < (n1ξ : Int)) ∧ 0 ≤ p2ξ ∧ p2ξ ≤ 12 then zv_li (zRw V1) n1ξ npξ Lwξ p1ξ.toNat p2ξ else -1)
              rw [hvalξ]
              rcases hbsξ with ⟨e1, e2⟩ | ⟨-, -, e1⟩
              · rw [e1, e2]
                rfl
              · exact e1
            · exfalso
              omega
          | succ r9ξ ih =>
            intro k9ξ b9ξ V M G hrξ hMξ hVξ hSbξ hPξ hbsξ
            have hbbξ : -1 ≤ b9ξ ∧ b9ξ ≤ 9 := by omega
            have hk10ξ : (k9ξ : Int) ≤ 10 := by omega
            refine zp_load (pc := 63) hx hb (zd_X12_little (63, .iload 4, 2, 0, []) (List.mem_of_getElem? (i := 39) rfl)) rfl (j := 2) rfl ?_
            refine zp_load (pc := 65) hx hb (zd_X12_little (65, .iload 6, 2, 0, []) (List.mem_of_getElem? (i := 40) rfl)) rfl (j := 0) rfl ?_
            refine zp_add (n := (l9ξ + (k9ξ : Int))) (pc := 67) hx hb (zd_X12_little (67, .iadd, 1, 0, []) (List.mem_of_getElem? (i := 41) rfl)) (by omega) (zp_r0 (by omega) (by omega)) ?_
            refine zp_const (pc := 68) hx hb (zd_X12_little (68, .bipush 10, 2, 0, []) (List.mem_of_getElem? (i := 42) rfl)) rfl rfl ?_
            refine zp_icmp (pc := 70) (tgt := 117) hx hb (zd_X12_little (70, .if_icmp .ge 47, 3, 0, []) (List.mem_of_getElem? (i := 43) rfl)) rfl (fun (hc606ξ : 10 ≤ (l9ξ + (k9ξ : Int))) => ?_) (fun (hc606ξ : ¬ (10 ≤ (l9ξ + (k9ξ : Int)))) => ?_)
            · exfalso
              omega
            · refine zp_load (pc := 73) hx hb (zd_X12_little (73, .iload 5, 2, 0, []) (List.mem_of_getElem? (i := 44) rfl)) rfl (j := 1) rfl ?_
              refine zp_const (pc := 75) hx hb (zd_X12_little (75, .iconst (-1), 1, 0, []) (List.mem_of_getElem? (i := 45) rfl)) rfl rfl ?_
              refine zp_icmp (pc := 76) (tgt := 117) hx hb (zd_X12_little (76, .if_icmp .ne 41, 3, 0, []) (List.mem_of_getElem? (i := 46) rfl)) rfl (fun (hc607ξ : ¬ b9ξ = (-1)) => ?_) (fun (hc607ξ : ¬ (¬ b9ξ = (-1))) => ?_)
              · refine zp_load (pc := 117) hx hb (zd_X12_little (117, .aload_n 0, 1, 0, []) (List.mem_of_getElem? (i := 67) rfl)) rfl (j := 4) rfl ?_
                refine zp_getf (n := (A 3 : Int)) (pc := 118) hx hb hEξ hwξ (zd_X12_little (118, .getfield 13, 3, 0, []) (List.mem_of_getElem? (i := 68) rfl)) (j := 21) rfl rfl rfl (zM_P hMξ (List.mem_of_getElem? (i := 0) rfl)) ((zM_G hMξ (List.mem_of_getElem? (i := 0) rfl) 3).trans (zM_F hMξ (List.mem_of_getElem? (i := 1) rfl))) ?_
                refine zp_load (pc := 121) hx hb (zd_X12_little (121, .iload_n 3, 1, 0, []) (List.mem_of_getElem? (i := 69) rfl)) rfl (j := 3) rfl ?_
                refine zp_load (pc := 122) hx hb (zd_X12_little (122, .iload 4, 2, 0, []) (List.mem_of_getElem? (i := 70) rfl)) rfl (j := 2) rfl ?_
                refine zp_iastR (j := (3 * ow9 + 13)) (pc := 124) hx hb hwξ heffξ (zd_X12_little (124, .iastore, 1, 0, []) (List.mem_of_getElem? (i := 71) rfl)) (zM_P hMξ (List.mem_of_getElem? (i := 2) rfl)) (by omega) (show (3 * ow9 + 13) < 180 by omega) (zr_st (lo := 0) (hi := 9) (zr_l ow9 (by omega)) (by omega) (by omega) (by omega) (by omega)) ⟨1002, rfl, zp_1002 (by omega)⟩ ?_
                refine zp_load (pc := 125) hx hb (zd_X12_little (125, .iload 5, 2, 0, []) (List.mem_of_getElem? (i := 72) rfl)) rfl (j := 1) rfl ?_
                refine zp_iret (pc := 127) (n := b9ξ) hx hb hEξ hQξ hU5ξ rfl (by decide) (zd_X12_little (127, .ireturn, 1, 0, []) (List.mem_of_getElem? (i := 73) rfl)) (j := 0) rfl (zp_o0 (by omega) (by omega) (by omega) (by omega)) ?_
                rw [hpsξ]
                refine ⟨rfl, ?_⟩
                rw [← hVdξ, ← hRzξ]
                refine ⟨zMV_cg ⟨(zp_set M 3 (2000 + (3 * ow9 + 13)) l9ξ), (zM_setE hMξ (List.mem_of_getElem? (i := 2) rfl)), (zV_set hVξ), (zSb_set (by decide) hSbξ)⟩ (zOf_b hPξ (Eq.symm hlVξ)), ?_⟩
                show b9ξ = (if (0 ≤ p1ξ ∧ p1ξ < (n1ξ : Int)) ∧ 0 ≤ p2ξ ∧ p2ξ ≤ 12 then zv_li (zRw V1) n1ξ npξ Lwξ p1ξ.toNat p2ξ else -1)
                rw [hvalξ]
                rcases hbsξ with ⟨e1, e2⟩ | ⟨-, -, e1⟩
                · omega
                · exact e1
              · refine zp_load (pc := 79) hx hb (zd_X12_little (79, .aload_n 0, 1, 0, []) (List.mem_of_getElem? (i := 47) rfl)) rfl (j := 4) rfl ?_
                refine zp_getf (n := (A 3 : Int)) (pc := 80) hx hb hEξ hwξ (zd_X12_little (80, .getfield 13, 3, 0, []) (List.mem_of_getElem? (i := 48) rfl)) (j := 21) rfl rfl rfl (zM_P hMξ (List.mem_of_getElem? (i := 0) rfl)) ((zM_G hMξ (List.mem_of_getElem? (i := 0) rfl) 3).trans (zM_F hMξ (List.mem_of_getElem? (i := 1) rfl))) ?_
                refine zp_load (pc := 83) hx hb (zd_X12_little (83, .iload_n 3, 1, 0, []) (List.mem_of_getElem? (i := 49) rfl)) rfl (j := 3) rfl ?_
                refine zp_load (pc := 84) hx hb (zd_X12_little (84, .iload 4, 2, 0, []) (List.mem_of_getElem? (i := 50) rfl)) rfl (j := 2) rfl ?_
                refine zp_load (pc := 86) hx hb (zd_X12_little (86, .iload 6, 2, 0, []) (List.mem_of_getElem? (i := 51) rfl)) rfl (j := 0) rfl ?_
                refine zp_add (n := (l9ξ + (k9ξ : Int))) (pc := 88) hx hb (zd_X12_little (88, .iadd, 1, 0, []) (List.mem_of_getElem? (i := 52) rfl)) (by omega) (zp_r0 (by omega) (by omega)) ?_
                refine zp_iastR (j := (3 * ow9 + 13)) (pc := 89) hx hb hwξ heffξ (zd_X12_little (89, .iastore, 1, 0, []) (List.mem_of_getElem? (i := 53) rfl)) (zM_P hMξ (List.mem_of_getElem? (i := 2) rfl)) (by omega) (show (3 * ow9 + 13) < 180 by omega) (zr_st (lo := 0) (hi := 9) (zr_l ow9 (by omega)) (by omega) (by omega) (by omega) (by omega)) ⟨1002, rfl, zp_1002 (by omega)⟩ ?_
                refine zp_load (pc := 90) hx hb (zd_X12_little (90, .aload_n 0, 1, 0, []) (List.mem_of_getElem? (i := 54) rfl)) rfl (j := 4) rfl ?_
                refine zp_load (pc := 91) hx hb (zd_X12_little (91, .iload_n 2, 1, 0, []) (List.mem_of_getElem? (i := 55) rfl)) rfl (j := 6) rfl ?_
                have hb1ξ : b9ξ = -1 := by omega
                have hLVnξ : zLV (zp_set V 3 (2000 + (3 * ow9 + 13)) (l9ξ + (k9ξ : Int))) Lwξ := zLV_of hPξ (by omega) (by omega) ⟨by omega, by omega⟩ hLVξ
                have hRnξ : zRw (zp_set V 3 (2000 + (3 * ow9 + 13)) (l9ξ + (k9ξ : Int))) = yu (zRw V1) (3 * ow9 + 13) (l9ξ + (k9ξ : Int)) := zOf_R hPξ
                have hDnξ : zd_ok (zRw (zp_set V 3 (2000 + (3 * ow9 + 13)) (l9ξ + (k9ξ : Int)))) n1ξ npξ := by
                  rw [hRnξ]
                  exact zd_ok_l (by omega) ⟨by omega, by omega⟩ hDkξ
                have h47nξ : (zp_set V 3 (2000 + (3 * ow9 + 13)) (l9ξ + (k9ξ : Int))) 0 47 = -1 := (zp_set_ne (Or.inl (by decide))).trans ((hPξ 0 47 (by omega)).trans h47ξ)
                have hPnξ : zOf (3 * ow9 + 13) V1 (zp_set V 3 (2000 + (3 * ow9 + 13)) (l9ξ + (k9ξ : Int))) := zOf_s hPξ
                obtain ⟨Vn, hVnξ⟩ : ∃ Vn, Vn = (zp_set V 3 (2000 + (3 * ow9 + 13)) (l9ξ + (k9ξ : Int))) := ⟨_, rfl⟩
                have hVmξ : ∀ o k, zNs o k → (zp_set M 3 (2000 + (3 * ow9 + 13)) (l9ξ + (k9ξ : Int))) o k = Vn o k := by
                  rw [hVnξ]
                  exact (zV_set hVξ)
                rw [← hVnξ] at hLVnξ hRnξ hDnξ h47nξ hPnξ
                refine zp_call (pc := 92) (how := 0) (idx := 457) (mi := 248) (S := []) hx hb hEξ hwξ heffξ hrmξ (zX_lay hWξ A (zp_set M 3 (2000 + (3 * ow9 + 13)) (l9ξ + (k9ξ : Int))) n1ξ npξ (zRw Vn) Lwξ) rfl (j := 47) rfl rfl (by decide +kernel) (zd_X12_little (92, .invokevirtual 457, 3, 0, []) (List.mem_of_getElem? (i := 56) rfl)) [(A 0 : Int), p2ξ] rfl ⟨zp_o2 (zM_P hMξ (List.mem_of_getElem? (i := 0) rfl)), zp_o0 (by omega) (by omega) (by omega) (by omega), trivial⟩ (Nat.le_of_ble_eq_true rfl) ⟨(zM_setE hMξ (List.mem_of_getElem? (i := 2) rfl)), rfl, (hVmξ 0 47 (Or.inr (by decide))).trans h47nξ, (hVmξ 0 20 (Or.inr (by decide))).trans hLVnξ.2.2.2.2, hDnξ, fun j => hVmξ 3 _ (Or.inl (by decide)), hLVnξ.1, hLVnξ.2.1, hLVnξ.2.2.1, (zSb_set (by decide) hSbξ), (show (0 : Int) ≤ p2ξ by omega), (show (p2ξ : Int) ≤ 12 by omega)⟩ (fun al halξ rnl Pl Gl hextlξ hfrlξ hoklξ hcslξ hpsilξ => ?_)
                obtain rfl := List.mem_singleton.mp halξ
                obtain ⟨hPelξ, Ml, hMlξ, htlξ⟩ := hpsilξ
                subst hPelξ
                obtain ⟨hNlξ, hSlξ, hDlξ, hxlξ⟩ := htlξ
                have hVlξ : ∀ o k, zNs o k → Ml o k = Vn o k := fun o k hkξ => (hNlξ o k hkξ).trans (hVmξ o k hkξ)
                have hRlξ : ∀ j, j < 5580 → -2147483648 ≤ Ml 3 (2000 + j) ∧ Ml 3 (2000 + j) ≤ 2147483647 := fun j hjξ => by rw [hVlξ 3 _ (Or.inl (by decide))]; exact hLVnξ.1 j hjξ
                refine zp_load (pc := 95) hx hb (zd_X12_little (95, .aload_n 0, 1, 0, []) (List.mem_of_getElem? (i := 57) rfl)) rfl (j := 4) rfl ?_
                refine zp_load (pc := 96) hx hb (zd_X12_little (96, .iload_n 1, 1, 0, []) (List.mem_of_getElem? (i := 58) rfl)) rfl (j := 5) rfl ?_
                refine zp_call (pc := 97) (how := 0) (idx := 465) (mi := 256) (S := []) hx hb hEξ hwξ heffξ hrmξ (zX_iitx hWξ A Ml p1ξ.toNat) rfl (j := 53) rfl rfl (by decide +kernel) (zd_X12_little (97, .invokevirtual 465, 3, 0, []) (List.mem_of_getElem? (i := 59) rfl)) [(A 0 : Int), p1ξ] rfl ⟨zp_o2 (zM_P hMlξ (List.mem_of_getElem? (i := 0) rfl)), zp_o0 (by omega) (by omega) (by omega) (by omega), trivial⟩ (Nat.le_of_ble_eq_true rfl) ⟨hMlξ, rfl, (show p1ξ = ((p1ξ.toNat : Nat) : Int) by omega), by omega, hRlξ⟩ (fun al halξ rne Pe Ge hexteξ hfreξ hokeξ hcseξ hpsieξ => ?_)
                obtain rfl := List.mem_singleton.mp halξ
                have hreξ := zp_int (hokeξ _ rfl).1
                obtain ⟨hPeeξ, hGeeξ, hteξ⟩ := hpsieξ
                rw [hPeeξ, hGeeξ]
                clear hexteξ hfreξ hcseξ hPeeξ hGeeξ
                have h41ξ : Ml 3 (2000 + (5 * p1ξ.toNat + 41)) = (zRw V1 (5 * p1ξ.toNat + 41)) := by
                  rw [hVlξ 3 _ (Or.inl (by decide))]
                  have h9ξ : zRw Vn (5 * p1ξ.toNat + 41) = yu (zRw V1) (3 * ow9 + 13) (l9ξ + (k9ξ : Int)) (5 * p1ξ.toNat + 41) := congrFun hRnξ _
                  exact (Eq.trans h9ξ) (yu_ne (by omega))
                have h45ξ : Ml 45 (2000 + p1ξ.toNat) = (zq_X (yu (zRw V1) (3 * ow9 + 13) (l9ξ + (k9ξ : Int))) n1ξ npξ Lwξ p2ξ).2 p1ξ.toNat := by
                  rw [← hRnξ]
                  exact (hxlξ p1ξ.toNat (by omega)).2
                have hte9ξ : rne = 1 ↔ ((zq_X (yu (zRw V1) (3 * ow9 + 13) (l9ξ + (k9ξ : Int))) n1ξ npξ Lwξ p2ξ).2 p1ξ.toNat ≠ -1 ∧ (zq_X (yu (zRw V1) (3 * ow9 + 13) (l9ξ + (k9ξ : Int))) n1ξ npξ Lwξ p2ξ).2 p1ξ.toNat ≤ (zRw V1 (5 * p1ξ.toNat + 41))) := by
                  have h9ξ : rne = 1 ↔ (Ml 45 (2000 + p1ξ.toNat) ≠ -1 ∧ Ml 45 (2000 + p1ξ.toNat) ≤ Ml 3 (2000 + (5 * p1ξ.toNat + 41))) := hteξ
                  rw [h41ξ, h45ξ] at h9ξ
                  exact h9ξ
                refine zp_if (pc := 100) (tgt := 108) hx hb (zd_X12_little (100, .ifCond .eq 8, 3, 0, []) (List.mem_of_getElem? (i := 60) rfl)) rfl (fun (hc608ξ : rne = 0) => ?_) (fun (hc608ξ : ¬ (rne = 0)) => ?_)
                · refine zp_const (pc := 108) hx hb (zd_X12_little (108, .iconst (-1), 1, 0, []) (List.mem_of_getElem? (i := 63) rfl)) rfl rfl ?_
                  refine zp_store (L' := [(5, 0, (-1)), (6, 0, (k9ξ : Int)), (4, 0, l9ξ), (3, 0, ((11 + (3 * (ow9 : Int))) + 2)), (0, 2, (A 0 : Int)), (1, 0, p1ξ), (2, 0, p2ξ)]) (pc := 109) hx hb hnLξ (zd_X12_little (109, .istore 5, 2, 0, []) (List.mem_of_getElem? (i := 64) rfl)) rfl rfl rfl ?_
                  refine zp_iinc (L' := [(6, 0, ((k9ξ : Int) + 1)), (5, 0, (-1)), (4, 0, l9ξ), (3, 0, ((11 + (3 * (ow9 : Int))) + 2)), (0, 2, (A 0 : Int)), (1, 0, p1ξ), (2, 0, p2ξ)]) (n := ((k9ξ : Int) + 1)) (pc := 111) hx hb hnLξ (zd_X12_little (111, .iinc 6 1, 3, 0, []) (List.mem_of_getElem? (i := 65) rfl)) (j := 1) rfl (by omega) (zp_r0 (by omega) (by omega)) rfl rfl ?_
                  refine zp_goto (tgt := 63) (pc := 114) hx hb (zd_X12_little (114, .goto (-51), 3, 0, []) (List.mem_of_getElem? (i := 66) rfl)) rfl ?_
                  refine zp_drop (L' := [(6, 0, ((k9ξ : Int) + 1)), (5, 0, (-1)), (4, 0, l9ξ), (3, 0, ((11 + (3 * (ow9 : Int))) + 2)), (0, 2, (A 0 : Int)), (1, 0, p1ξ), (2, 0, p2ξ)]) (by simp) ?_
                  refine ih (k9ξ + 1) (-1) Vn Ml Gl (by omega) hMlξ hVlξ hSlξ hPnξ ?_
                  have hstξ : zq_li (zRw V1) n1ξ npξ Lwξ p2ξ p1ξ.toNat ow9 (r9ξ + 1) k9ξ = (if ((zq_X (yu (zRw V1) (3 * ow9 + 13) (l9ξ + (k9ξ : Int))) n1ξ npξ Lwξ p2ξ).2 p1ξ.toNat ≠ -1 ∧ (zq_X (yu (zRw V1) (3 * ow9 + 13) (l9ξ + (k9ξ : Int))) n1ξ npξ Lwξ p2ξ).2 p1ξ.toNat ≤ (zRw V1 (5 * p1ξ.toNat + 41))) then (k9ξ : Int) else zq_li (zRw V1) n1ξ npξ Lwξ p2ξ p1ξ.toNat ow9 r9ξ (k9ξ + 1)) := by
                    rw [zq_li, hlVξ]
                  have hb2ξ : zq_li (zRw V1) n1ξ npξ Lwξ p2ξ p1ξ.toNat ow9 (10 - l9ξ).toNat 0 = zq_li (zRw V1) n1ξ npξ Lwξ p2ξ p1ξ.toNat ow9 (r9ξ + 1) k9ξ := by
                    rcases hbsξ with ⟨-, e2⟩ | ⟨e1, -⟩
                    · exact e2
                    · omega
                  refine Or.inl ⟨rfl, ?_⟩
                  rw [hb2ξ, hstξ, if_neg (fun h9ξ => by have h8ξ := (Iff.mpr hte9ξ) h9ξ; omega)]
                · refine zp_load (pc := 103) hx hb (zd_X12_little (103, .iload 6, 2, 0, []) (List.mem_of_getElem? (i := 61) rfl)) rfl (j := 0) rfl ?_
                  refine zp_goto (tgt := 109) (pc := 105) hx hb (zd_X12_little (105, .goto 4, 3, 0, []) (List.mem_of_getElem? (i := 62) rfl)) rfl ?_
                  refine zp_store (L' := [(5, 0, (k9ξ : Int)), (6, 0, (k9ξ : Int)), (4, 0, l9ξ), (3, 0, ((11 + (3 * (ow9 : Int))) + 2)), (0, 2, (A 0 : Int)), (1, 0, p1ξ), (2, 0, p2ξ)]) (pc := 109) hx hb hnLξ (zd_X12_little (109, .istore 5, 2, 0, []) (List.mem_of_getElem? (i := 64) rfl)) rfl rfl rfl ?_
                  refine zp_iinc (L' := [(6, 0, ((k9ξ : Int) + 1)), (5, 0, (k9ξ : Int)), (4, 0, l9ξ), (3, 0, ((11 + (3 * (ow9 : Int))) + 2)), (0, 2, (A 0 : Int)), (1, 0, p1ξ), (2, 0, p2ξ)]) (n := ((k9ξ : Int) + 1)) (pc := 111) hx hb hnLξ (zd_X12_little (111, .iinc 6 1, 3, 0, []) (List.mem_of_getElem? (i := 65) rfl)) (j := 1) rfl (by omega) (zp_r0 (by omega) (by omega)) rfl rfl ?_
                  refine zp_goto (tgt := 63) (pc := 114) hx hb (zd_X12_little (114, .goto (-51), 3, 0, []) (List.mem_of_getElem? (i := 66) rfl)) rfl ?_
                  refine zp_drop (L' := [(6, 0, ((k9ξ : Int) + 1)), (5, 0, (k9ξ : Int)), (4, 0, l9ξ), (3, 0, ((11 + (3 * (ow9 : Int))) + 2)), (0, 2, (A 0 : Int)), (1, 0, p1ξ), (2, 0, p2ξ)]) (by simp) ?_
                  refine ih (k9ξ + 1) (k9ξ : Int) Vn Ml Gl (by omega) hMlξ hVlξ hSlξ hPnξ ?_
                  have hstξ : zq_li (zRw V1) n1ξ npξ Lwξ p2ξ p1ξ.toNat ow9 (r9ξ + 1) k9ξ = (if ((zq_X (yu (zRw V1) (3 * ow9 + 13) (l9ξ + (k9ξ : Int))) n1ξ npξ Lwξ p2ξ).2 p1ξ.toNat ≠ -1 ∧ (zq_X (yu (zRw V1) (3 * ow9 + 13) (l9ξ + (k9ξ : Int))) n1ξ npξ Lwξ p2ξ).2 p1ξ.toNat ≤ (zRw V1 (5 * p1ξ.toNat + 41))) then (k9ξ : Int) else zq_li (zRw V1) n1ξ npξ Lwξ p2ξ p1ξ.toNat ow9 r9ξ (k9ξ + 1)) := by
                    rw [zq_li, hlVξ]
                  have hb2ξ : zq_li (zRw V1) n1ξ npξ Lwξ p2ξ p1ξ.toNat ow9 (10 - l9ξ).toNat 0 = zq_li (zRw V1) n1ξ npξ Lwξ p2ξ p1ξ.toNat ow9 (r9ξ + 1) k9ξ := by
                    rcases hbsξ with ⟨-, e2⟩ | ⟨e1, -⟩
                    · exact e2
                    · omega
                  refine Or.inr ⟨by omega, by omega, ?_⟩
                  rw [hb2ξ, hstξ, if_pos ((Iff.mp hte9ξ) (by omega))]
        refine zp_drop (L' := [(6, 0, 0), (5, 0, (-1)), (4, 0, l9ξ), (3, 0, ((11 + (3 * (ow9 : Int))) + 2)), (0, 2, (A 0 : Int)), (1, 0, p1ξ), (2, 0, p2ξ)]) (by simp) ?_
        refine loop (10 - l9ξ).toNat 0 (-1) V1 (zp_set M 0 0 0) (zp_set (zp_n u.2.1) (A 0) 0 0) (by omega) (zM_set hMξ (List.mem_of_getElem? (i := 0) rfl) (by decide)) hV9ξ (zSb_set (by decide) hSbξ) (fun _ _ _ => rfl) (Or.inl ⟨rfl, rfl⟩)
      · refine zp_const (pc := 33) hx hb (zd_X12_little (33, .iconst (-1), 1, 0, []) (List.mem_of_getElem? (i := 17) rfl)) rfl rfl ?_
        refine zp_iret (pc := 34) (n := (-1)) hx hb hEξ hQξ hU5ξ rfl (by decide) (zd_X12_little (34, .ireturn, 1, 0, []) (List.mem_of_getElem? (i := 18) rfl)) (j := 0) rfl (zp_o0 (by omega) (by omega) (by omega) (by omega)) ?_
        rw [hpsξ]
        refine ⟨rfl, ?_⟩
        refine ⟨⟨(zp_set M 0 0 0), (zM_set hMξ (List.mem_of_getElem? (i := 0) rfl) (by decide)), (zV_set hVξ), (zSb_set (by decide) hSbξ)⟩, ?_⟩
        show (-1) = (if (0 ≤ p1ξ ∧ p1ξ < (n1ξ : Int)) ∧ 0 ≤ p2ξ ∧ p2ξ ≤ 12 then zv_li (zRw V) n1ξ npξ Lwξ p1ξ.toNat p2ξ else -1)
        rw [if_pos ⟨by omega, by omega⟩]
        unfold zv_li
        have hdm9ξ := hdmξ p1ξ.toNat (by omega)
        have hdm9ξ : V 3 (2000 + (p1ξ.toNat + 29)) ≤ V 3 (2000 + (5 * p1ξ.toNat + 40)) := hdm9ξ
        rw [if_neg (show ¬ zRw V (p1ξ.toNat + 29) < zRw V (5 * p1ξ.toNat + 40) from (show ¬ V 3 (2000 + (p1ξ.toNat + 29)) < V 3 (2000 + (5 * p1ξ.toNat + 40)) by omega))]
