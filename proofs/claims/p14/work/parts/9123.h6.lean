/-! part h6ξ: the reference over logical cells: what the law tells; doings -/
noncomputable def zyB (L : List yK) : Prop := ∀ K ∈ L, K.1 = 4 → K.2.1 = none
theorem yw_ba {en : Int → Int → Int} : ∀ {L : List yK} {v : Int}, zyB L → yw en 4 L = some v → v = 1
  | [], _, _, h => by cases h
  | K :: r, v, hBξ, h => by
    unfold yw at h
    split at h
    · rename_i v' hvξ
      cases h
      exact yw_ba (fun K' hK' => hBξ K' (List.mem_cons_of_mem _ hK')) hvξ
    · unfold yw_1 at h
      split at h
      · rename_i hcξ
        unfold yw_s at h
        rw [hBξ K List.mem_cons_self hcξ.1] at h
        cases h
        rfl
      · cases h
/-- the row holdsξ the law in force -/
noncomputable def zLV (V : Nat → Nat → Int) (L : List yK) : Prop := (∀ j, j < 5580 → -2147483648 ≤ V 3 (2000 + j) ∧ V 3 (2000 + j) ≤ 2147483647) ∧ zgLw (fun j => V 3 (2000 + j)) L ∧ zyL L ∧ zyB L ∧ V 0 20 = 0
theorem zgLw_c {R R' : Nat → Int} {L : List yK} (h4ξ : R' 4 = R 4) (hcξ : ∀ j, 180 ≤ j → R' j = R j) (h : zgLw R L) : zgLw R' L := by
  rcases h with ⟨h1ξ, h2ξ⟩ | ⟨i, h1ξ, h2ξ, h3ξ, h5ξ, h6ξ⟩
  · exact Or.inl ⟨(Eq.trans h4ξ) h1ξ, h2ξ⟩
  · refine Or.inr ⟨i, h1ξ, (Eq.trans h4ξ) h2ξ, (hcξ _ (by omega)).trans h3ξ, h5ξ, ?_⟩
    have e1 : zg_cl R' (900 * i + 180) = zg_cl R (900 * i + 180) := funext fun j => hcξ _ (by omega)
    have e2 : zg_op R' (900 * i + 180) = zg_op R (900 * i + 180) := funext fun j => hcξ _ (by omega)
    have e3 : zg_ar R' (900 * i + 180) = zg_ar R (900 * i + 180) := funext fun j => hcξ _ (by omega)
    rw [e1, e2, e3]
    exact h6ξ
theorem zLV_e {V V' : Nat → Nat → Int} {L : List yK} (h3ξ : ∀ k, V' 3 k = V 3 k) (h20ξ : V' 0 20 = V 0 20) (h : zLV V L) : zLV V' L := by
  obtain ⟨h1ξ, h2ξ, h4ξ, h5ξ, h6ξ⟩ := h
  refine ⟨fun j hjξ => by rw [h3ξ]; exact h1ξ j hjξ, ?_, h4ξ, h5ξ, (Eq.trans h20ξ) h6ξ⟩
  rw [show (fun j => V' 3 (2000 + j)) = fun j => V 3 (2000 + j) from funext fun j => h3ξ _]
  exact h2ξ
theorem zLV_o {V : Nat → Nat → Int} {L : List yK} {o k : Nat} {v : Int} (hoξ : o ≠ 3) (hkξ : o ≠ 0 ∨ k ≠ 20) (h : zLV V L) : zLV (zp_set V o k v) L :=
  zLV_e (fun k' => zp_set_ne (Or.inl (fun e => hoξ e.symm))) (zp_set_ne (by omega)) h
theorem zLV_3 {V : Nat → Nat → Int} {L : List yK} {j : Nat} {v : Int} (hjξ : j < 180) (h4ξ : j ≠ 4) (hvξ : -2147483648 ≤ v ∧ v ≤ 2147483647) (h : zLV V L) : zLV (zp_set V 3 (2000 + j) v) L := by
  obtain ⟨h1ξ, h2ξ, h5ξ, h6ξ, h7ξ⟩ := h
  refine ⟨fun i hi => ?_, zgLw_c (zp_set_ne (Or.inr (by omega))) (fun i hi => zp_set_ne (Or.inr (by omega))) h2ξ, h5ξ, h6ξ, (zp_set_ne (Or.inl (by decide))).trans h7ξ⟩
  by_cases e : i = j
  · rw [e, zp_set_self]
    exact hvξ
  · rw [zp_set_ne (Or.inr (by omega))]
    exact h1ξ i hi
noncomputable def zd_we (V : Nat → Nat → Int) (L : List yK) (t : Int) : Int := zy_we (zg_ew (fun j => V 3 (2000 + j)) zd_S0 t (-1) (-1) (-1)) L t
noncomputable def zd_sn (V : Nat → Nat → Int) (L : List yK) (t : Int) : Int := zy_sn (zg_ew (fun j => V 3 (2000 + j)) zd_S0 t (-1) (-1) (-1)) L t
theorem zd_web {V : Nat → Nat → Int} {L : List yK} {t : Int} (h1ξ : 0 ≤ t) (h2ξ : t ≤ 31) : 0 ≤ zd_we V L t ∧ zd_we V L t ≤ 999 := by
  have hsξ := zg_sq31 ⟨h1ξ, h2ξ⟩
  unfold zd_we zy_we
  split <;> omega
theorem zd_snb {V : Nat → Nat → Int} {L : List yK} {t : Int} : 0 ≤ zd_sn V L t ∧ zd_sn V L t ≤ 100 := by
  unfold zd_sn zy_sn
  split <;> omega
noncomputable def zf_ask (V : Nat → Nat → Int) (Lwξ : List yK) (p1ξ : Int) (p2ξ : Int) : Int × (Nat → Nat → Int) := if 0 ≤ p1ξ ∧ p1ξ ≤ 12 then if 0 ≤ p2ξ ∧ p2ξ ≤ 1 then if ¬ p2ξ = 0 then ((zd_sn (zp_set V 0 0 0) Lwξ p1ξ), (zp_set V 0 0 0)) else ((zd_we (zp_set V 0 0 0) Lwξ p1ξ), (zp_set V 0 0 0)) else ((-1), (zp_set V 0 0 0)) else ((-1), (zp_set V 0 0 0))
noncomputable def zK_ask : zk_K := (zt_mn 237, prog_14_method_74_code, 3, (Option.some Jvm.ClassFile.FieldType.int), 1, 12, [(2, 13, 0, 0), (0, 0, (-2147483648), 2147483647), (0, 0, (-2147483648), 2147483647)], [(some (0, 0, (-2147483648), 2147483647), [])], zUE, (5, 260, 0, 0))
noncomputable def zφ_ask (A : Nat → Nat) (V : Nat → Nat → Int) (Lwξ : List yK) : (Nat → Option Nat) → (Nat → Nat → Int) → List Int → Prop := fun P G ps => zMVr A V P G ∧ ps.getD 0 0 = (A 0 : Int) ∧ zLV V Lwξ
noncomputable def zψ_ask (A : Nat → Nat) (V : Nat → Nat → Int) (Lwξ : List yK) : (Nat → Option Nat) → (Nat → Nat → Int) → List Int → (Nat → Option Nat) → (Nat → Nat → Int) → Int → Prop := fun P G ps P' G' rn => P' = P ∧ zMVr A (zf_ask V Lwξ (ps.getD 1 0) (ps.getD 2 0)).2 P' G' ∧ rn = (zf_ask V Lwξ (ps.getD 1 0) (ps.getD 2 0)).1
theorem zX_ask {l : Launch} {w : zk_W} (hWξ : zh_W w) (A : Nat → Nat) (V : Nat → Nat → Int) (Lwξ : List yK) : zk_metX l w zt_dv zt_TB zK_ask (zp_A (zφ_ask A V Lwξ)) (zp_B (zψ_ask A V Lwξ)) ∧ zk_cok w zt_TB zK_ask := by
  refine zp_methX (cn := "WoundTownModel") zp_lkall hWξ (pl := 1796) rfl (by decide +kernel) (fun p e R s m args below meth c Q u hx hb hEξ hQξ hU5ξ heffξ hnLξ hokξ hφ => ?_)
  have hwξ := hWξ.1
  obtain ⟨p0ξ, p1ξ, p2ξ, hpsξ, tk0, tk1, tk2⟩ := zp_ps3 hokξ
  have hrmξ : zk_Kr (zk_ev (zt_types, zp_lk, zt_dv, [], [], zp_lc, zK_ask)) = zk_Kr zK_ask := rfl
  rw [hpsξ] at hφ ⊢
  have hφ : zMVr A V u.1 (zp_n u.2.1) ∧ p0ξ = (A 0 : Int) ∧ zLV V Lwξ := hφ
  obtain ⟨⟨M, hMξ, hVξ, hSbξ⟩, rfl, hLVξ⟩ := hφ
  have hi1ξ := zp_int tk1
  have hi2ξ := zp_int tk2
  show zp_J p l e R s m args below meth c Q w u [] 0 [(0, 2, (A 0 : Int)), (1, 0, p1ξ), (2, 0, p2ξ)] [] u.1 (zp_n u.2.1)
  refine zp_load (pc := 0) hx hb (zd_X12_asks (0, .aload_n 0, 1, 0, []) (List.mem_of_getElem? (i := 0) rfl)) rfl (j := 0) rfl ?_
  refine zp_const (pc := 1) hx hb (zd_X12_asks (1, .iconst 0, 1, 0, []) (List.mem_of_getElem? (i := 1) rfl)) rfl rfl ?_
  refine zp_putf (pc := 2) hx hb hEξ hwξ heffξ (zd_X12_asks (2, .putfield 161, 3, 0, []) (List.mem_of_getElem? (i := 2) rfl)) (j := 18) rfl rfl rfl (zM_P hMξ (List.mem_of_getElem? (i := 0) rfl)) (zp_o0 (by decide) (by decide) (by decide) (by decide)) ?_
  refine zp_load (pc := 5) hx hb (zd_X12_asks (5, .iload_n 1, 1, 0, []) (List.mem_of_getElem? (i := 3) rfl)) rfl (j := 1) rfl ?_
  refine zp_i2l (pc := 6) hx hb (zd_X12_asks (6, .i2l, 1, 0, []) (List.mem_of_getElem? (i := 4) rfl)) ?_
  refine zp_const (pc := 7) hx hb (zd_X12_asks (7, .lconst 0, 1, 0, []) (List.mem_of_getElem? (i := 5) rfl)) rfl rfl ?_
  refine zp_ldc2 (pc := 8) hx hb hEξ (zd_X12_asks (8, .ldc2_w 431, 3, 0, []) (List.mem_of_getElem? (i := 6) rfl)) (j := 105) rfl ?_
  refine zp_call (pc := 11) (how := 1) (idx := 181) (mi := 186) (S := []) hx hb hEξ hwξ heffξ hrmξ (zX_in2 hWξ) rfl (j := 2) rfl rfl (by decide +kernel) (zd_X12_asks (11, .invokestatic 181, 3, 0, []) (List.mem_of_getElem? (i := 7) rfl)) [p1ξ, 0, 12] rfl ⟨zp_o1 (by first | assumption | exact zp_r1 (by omega) (by omega)), zp_o1 (by first | assumption | exact zp_r1 (by omega) (by omega)), zp_o1 (by first | assumption | exact zp_r1 (by omega) (by omega)), trivial⟩ (Nat.le_of_ble_eq_true rfl) trivial (fun al halξ rnn251ξ Pn251 Gn251 hextn251ξ hfrn251ξ hokn251ξ hcsn251ξ hpsin251ξ => ?_)
  obtain rfl := List.mem_singleton.mp halξ
  have hrn251ξ := zp_int (hokn251ξ _ rfl).1
  obtain ⟨hPen251ξ, hGen251ξ, htn251ξ⟩ := hpsin251ξ
  rw [hPen251ξ, hGen251ξ]
  clear hextn251ξ hfrn251ξ hcsn251ξ hPen251ξ hGen251ξ
  have htn251ξ : rnn251ξ = 1 ↔ 0 ≤ p1ξ ∧ p1ξ ≤ 12 := htn251ξ
  refine zp_if (pc := 14) (tgt := 27) hx hb (zd_X12_asks (14, .ifCond .eq 13, 3, 0, []) (List.mem_of_getElem? (i := 8) rfl)) rfl (fun (hc252ξ : rnn251ξ = 0) => ?_) (fun (hc252ξ : ¬ (rnn251ξ = 0)) => ?_)
  · have hbf253ξ : ¬ (0 ≤ p1ξ ∧ p1ξ ≤ 12) := fun h9ξ => absurd ((Iff.mpr htn251ξ) h9ξ) (by omega)
    refine zp_const (pc := 27) hx hb (zd_X12_asks (27, .iconst (-1), 1, 0, []) (List.mem_of_getElem? (i := 15) rfl)) rfl rfl ?_
    refine zp_goto (tgt := 48) (pc := 28) hx hb (zd_X12_asks (28, .goto 20, 3, 0, []) (List.mem_of_getElem? (i := 16) rfl)) rfl ?_
    refine zp_iret (pc := 48) (n := (-1)) hx hb hEξ hQξ hU5ξ rfl (by decide) (zd_X12_asks (48, .ireturn, 1, 0, []) (List.mem_of_getElem? (i := 26) rfl)) (j := 0) rfl (zp_o0 (by omega) (by omega) (by omega) (by omega)) ?_
    rw [hpsξ]
    refine ⟨rfl, ?_⟩
    have hffξ : zf_ask V Lwξ p1ξ p2ξ = ((-1), (zp_set V 0 0 0)) := by
      unfold zf_ask
      rw [if_neg (fun h9ξ => absurd ((Iff.mpr htn251ξ) h9ξ) (by omega))]
    show zMVr A (zf_ask V Lwξ p1ξ p2ξ).2 u.1 (zp_set (zp_n u.2.1) (A 0) 0 0) ∧ (-1) = (zf_ask V Lwξ p1ξ p2ξ).1
    rw [hffξ]
    exact ⟨⟨(zp_set M 0 0 0), (zM_set hMξ (List.mem_of_getElem? (i := 0) rfl) (by decide)), (zV_set hVξ), (zSb_set (by decide) hSbξ)⟩, rfl⟩
  · have hbt254ξ := (Iff.mp htn251ξ) (by omega)
    refine zp_load (pc := 17) hx hb (zd_X12_asks (17, .iload_n 2, 1, 0, []) (List.mem_of_getElem? (i := 9) rfl)) rfl (j := 2) rfl ?_
    refine zp_i2l (pc := 18) hx hb (zd_X12_asks (18, .i2l, 1, 0, []) (List.mem_of_getElem? (i := 10) rfl)) ?_
    refine zp_const (pc := 19) hx hb (zd_X12_asks (19, .lconst 0, 1, 0, []) (List.mem_of_getElem? (i := 11) rfl)) rfl rfl ?_
    refine zp_const (pc := 20) hx hb (zd_X12_asks (20, .lconst 1, 1, 0, []) (List.mem_of_getElem? (i := 12) rfl)) rfl rfl ?_
    refine zp_call (pc := 21) (how := 1) (idx := 181) (mi := 186) (S := []) hx hb hEξ hwξ heffξ hrmξ (zX_in2 hWξ) rfl (j := 2) rfl rfl (by decide +kernel) (zd_X12_asks (21, .invokestatic 181, 3, 0, []) (List.mem_of_getElem? (i := 13) rfl)) [p2ξ, 0, 1] rfl ⟨zp_o1 (by first | assumption | exact zp_r1 (by omega) (by omega)), zp_o1 (by first | assumption | exact zp_r1 (by omega) (by omega)), zp_o1 (by first | assumption | exact zp_r1 (by omega) (by omega)), trivial⟩ (Nat.le_of_ble_eq_true rfl) trivial (fun al halξ rnn255ξ Pn255 Gn255 hextn255ξ hfrn255ξ hokn255ξ hcsn255ξ hpsin255ξ => ?_)
    obtain rfl := List.mem_singleton.mp halξ
    have hrn255ξ := zp_int (hokn255ξ _ rfl).1
    obtain ⟨hPen255ξ, hGen255ξ, htn255ξ⟩ := hpsin255ξ
    rw [hPen255ξ, hGen255ξ]
    clear hextn255ξ hfrn255ξ hcsn255ξ hPen255ξ hGen255ξ
    have htn255ξ : rnn255ξ = 1 ↔ 0 ≤ p2ξ ∧ p2ξ ≤ 1 := htn255ξ
    refine zp_if (pc := 24) (tgt := 31) hx hb (zd_X12_asks (24, .ifCond .ne 7, 3, 0, []) (List.mem_of_getElem? (i := 14) rfl)) rfl (fun (hc256ξ : ¬ rnn255ξ = 0) => ?_) (fun (hc256ξ : ¬ (¬ rnn255ξ = 0)) => ?_)
    · have hbt257ξ := (Iff.mp htn255ξ) (by omega)
      refine zp_load (pc := 31) hx hb (zd_X12_asks (31, .iload_n 2, 1, 0, []) (List.mem_of_getElem? (i := 17) rfl)) rfl (j := 2) rfl ?_
      refine zp_if (pc := 32) (tgt := 43) hx hb (zd_X12_asks (32, .ifCond .ne 11, 3, 0, []) (List.mem_of_getElem? (i := 18) rfl)) rfl (fun (hc259ξ : ¬ p2ξ = 0) => ?_) (fun (hc259ξ : ¬ (¬ p2ξ = 0)) => ?_)
      · refine zp_load (pc := 43) hx hb (zd_X12_asks (43, .aload_n 0, 1, 0, []) (List.mem_of_getElem? (i := 23) rfl)) rfl (j := 0) rfl ?_
        refine zp_load (pc := 44) hx hb (zd_X12_asks (44, .iload_n 1, 1, 0, []) (List.mem_of_getElem? (i := 24) rfl)) rfl (j := 1) rfl ?_
        have hMqa260ξ : zM A zYr zFr (zp_set M 0 0 0) u.1 (zp_set (zp_n u.2.1) (A 0) 0 0) := (zM_set hMξ (List.mem_of_getElem? (i := 0) rfl) (by decide))
        have hVqa260ξ : ∀ o k, zNs o k → (zp_set M 0 0 0) o k = (zp_set V 0 0 0) o k := (zV_set hVξ)
        have hSqa260ξ : zSb (zp_set M 0 0 0) := (zSb_set (by decide) hSbξ)
        have hLqa260ξ : zLV (zp_set V 0 0 0) Lwξ := (zLV_o (by decide) (Or.inr (by decide)) hLVξ)
        have htaa260ξ : 0 ≤ p1ξ ∧ p1ξ ≤ 31 := by omega
        refine zp_call (pc := 45) (how := 0) (idx := 436) (mi := 246) (S := []) hx hb hEξ hwξ heffξ hrmξ (zX_sno hWξ (A 3) (A 35) (A 37) (fun j => (zp_set V 0 0 0) 3 (2000 + j)) (fun j => (zp_set M 0 0 0) 35 (2000 + j)) Lwξ) rfl (j := 46) rfl rfl (by decide +kernel) (zd_X12_asks (45, .invokevirtual 436, 3, 0, []) (List.mem_of_getElem? (i := 25) rfl)) [(A 0 : Int), p1ξ] rfl ⟨zp_o2 (zM_P hMξ (List.mem_of_getElem? (i := 0) rfl)), zp_o0 (by omega) (by omega) (by omega) (by omega), trivial⟩ (Nat.le_of_ble_eq_true rfl) ⟨⟨⟨⟨(zM_G hMqa260ξ (List.mem_of_getElem? (i := 0) rfl) 20).trans ((hVqa260ξ 0 20 (Or.inr (by decide))).trans hLqa260ξ.2.2.2.2), (zM_G hMqa260ξ (List.mem_of_getElem? (i := 0) rfl) 3).trans (zM_F hMqa260ξ (List.mem_of_getElem? (i := 1) rfl)), (zM_G hMqa260ξ (List.mem_of_getElem? (i := 0) rfl) 35).trans (zM_F hMqa260ξ (List.mem_of_getElem? (i := 17) rfl)), (zM_G hMqa260ξ (List.mem_of_getElem? (i := 0) rfl) 37).trans (zM_F hMqa260ξ (List.mem_of_getElem? (i := 19) rfl)), fun j => (zM_G hMqa260ξ (List.mem_of_getElem? (i := 2) rfl) (2000 + j)).trans (hVqa260ξ 3 _ (Or.inl (by decide))), fun j => zM_G hMqa260ξ (List.mem_of_getElem? (i := 18) rfl) (2000 + j)⟩, zM_P hMqa260ξ (List.mem_of_getElem? (i := 2) rfl), zM_P hMqa260ξ (List.mem_of_getElem? (i := 18) rfl), zM_P hMqa260ξ (List.mem_of_getElem? (i := 20) rfl), hLqa260ξ.1, hSqa260ξ⟩, hLqa260ξ.2.1⟩, (show 0 ≤ p1ξ by omega), (show p1ξ ≤ _ by omega)⟩ (fun al halξ rna260ξ Pa260 Ga260 hexta260ξ hfra260ξ hoka260ξ hcsa260ξ hpsia260ξ => ?_)
        obtain rfl := List.mem_singleton.mp halξ
        have hra260ξ := zp_int (hoka260ξ _ rfl).1
        obtain ⟨hPea260ξ, hta260ξ⟩ := hpsia260ξ
        have hMa260ξ := zM_eff (eff := [(13, 34, 0), (75, 1001, 0), (13, 38, 0), (13, 39, 0), (13, 40, 0), (77, 1001, 0)]) hMqa260ξ hfra260ξ hexta260ξ (zM_fb (by decide +kernel))
        subst hPea260ξ
        obtain ⟨Ma260, hMa260ξ, hMfa260ξ⟩ := hMa260ξ
        have hVa260ξ : ∀ o k, zNs o k → Ma260 o k = (zp_set V 0 0 0) o k := fun o k hkξ => (zMf_s hMfa260ξ hkξ).trans (hVqa260ξ o k hkξ)
        clear hMfa260ξ hfra260ξ hexta260ξ hoka260ξ hcsa260ξ hVqa260ξ hMqa260ξ hSqa260ξ
        obtain ⟨hta260ξ, hSza260ξ⟩ := hta260ξ
        have hSba260ξ : zSb Ma260 := fun j hjξ => by rw [← zM_G hMa260ξ (List.mem_of_getElem? (i := 18) rfl) (2000 + j)]; exact hSza260ξ j hjξ
        have hta260ξ : rna260ξ = (zd_sn (zp_set V 0 0 0) Lwξ p1ξ) := Eq.trans hta260ξ (zy_sn_9 hLqa260ξ.2.2.1)
        have hta260ξ := (Eq.symm hta260ξ)
        subst hta260ξ
        have hba260ξ := zd_snb (V := (zp_set V 0 0 0)) (L := Lwξ) (t := p1ξ)
        refine zp_iret (pc := 48) (n := (zd_sn (zp_set V 0 0 0) Lwξ p1ξ)) hx hb hEξ hQξ hU5ξ rfl (by decide) (zd_X12_asks (48, .ireturn, 1, 0, []) (List.mem_of_getElem? (i := 26) rfl)) (j := 0) rfl (zp_o0 (by omega) (by omega) (by omega) (by omega)) ?_
        rw [hpsξ]
        refine ⟨rfl, ?_⟩
        have hffξ : zf_ask V Lwξ p1ξ p2ξ = ((zd_sn (zp_set V 0 0 0) Lwξ p1ξ), (zp_set V 0 0 0)) := by
          unfold zf_ask
          rw [if_pos ((Iff.mp htn251ξ) (by omega)), if_pos ((Iff.mp htn255ξ) (by omega)), if_pos hc259ξ]
        show zMVr A (zf_ask V Lwξ p1ξ p2ξ).2 u.1 Ga260 ∧ (zd_sn (zp_set V 0 0 0) Lwξ p1ξ) = (zf_ask V Lwξ p1ξ p2ξ).1
        rw [hffξ]
        exact ⟨⟨Ma260, hMa260ξ, hVa260ξ, hSba260ξ⟩, rfl⟩
      · refine zp_load (pc := 35) hx hb (zd_X12_asks (35, .aload_n 0, 1, 0, []) (List.mem_of_getElem? (i := 19) rfl)) rfl (j := 0) rfl ?_
        refine zp_load (pc := 36) hx hb (zd_X12_asks (36, .iload_n 1, 1, 0, []) (List.mem_of_getElem? (i := 20) rfl)) rfl (j := 1) rfl ?_
        have hMqa261ξ : zM A zYr zFr (zp_set M 0 0 0) u.1 (zp_set (zp_n u.2.1) (A 0) 0 0) := (zM_set hMξ (List.mem_of_getElem? (i := 0) rfl) (by decide))
        have hVqa261ξ : ∀ o k, zNs o k → (zp_set M 0 0 0) o k = (zp_set V 0 0 0) o k := (zV_set hVξ)
        have hSqa261ξ : zSb (zp_set M 0 0 0) := (zSb_set (by decide) hSbξ)
        have hLqa261ξ : zLV (zp_set V 0 0 0) Lwξ := (zLV_o (by decide) (Or.inr (by decide)) hLVξ)
        have htaa261ξ : 0 ≤ p1ξ ∧ p1ξ ≤ 31 := by omega
        refine zp_call (pc := 37) (how := 0) (idx := 433) (mi := 238) (S := []) hx hb hEξ hwξ heffξ hrmξ (zX_weo hWξ (A 3) (A 35) (A 37) (fun j => (zp_set V 0 0 0) 3 (2000 + j)) (fun j => (zp_set M 0 0 0) 35 (2000 + j)) Lwξ) rfl (j := 38) rfl rfl (by decide +kernel) (zd_X12_asks (37, .invokevirtual 433, 3, 0, []) (List.mem_of_getElem? (i := 21) rfl)) [(A 0 : Int), p1ξ] rfl ⟨zp_o2 (zM_P hMξ (List.mem_of_getElem? (i := 0) rfl)), zp_o0 (by omega) (by omega) (by omega) (by omega), trivial⟩ (Nat.le_of_ble_eq_true rfl) ⟨⟨⟨⟨(zM_G hMqa261ξ (List.mem_of_getElem? (i := 0) rfl) 20).trans ((hVqa261ξ 0 20 (Or.inr (by decide))).trans hLqa261ξ.2.2.2.2), (zM_G hMqa261ξ (List.mem_of_getElem? (i := 0) rfl) 3).trans (zM_F hMqa261ξ (List.mem_of_getElem? (i := 1) rfl)), (zM_G hMqa261ξ (List.mem_of_getElem? (i := 0) rfl) 35).trans (zM_F hMqa261ξ (List.mem_of_getElem? (i := 17) rfl)), (zM_G hMqa261ξ (List.mem_of_getElem? (i := 0) rfl) 37).trans (zM_F hMqa261ξ (List.mem_of_getElem? (i := 19) rfl)), fun j => (zM_G hMqa261ξ (List.mem_of_getElem? (i := 2) rfl) (2000 + j)).trans (hVqa261ξ 3 _ (Or.inl (by decide))), fun j => zM_G hMqa261ξ (List.mem_of_getElem? (i := 18) rfl) (2000 + j)⟩, zM_P hMqa261ξ (List.mem_of_getElem? (i := 2) rfl), zM_P hMqa261ξ (List.mem_of_getElem? (i := 18) rfl), zM_P hMqa261ξ (List.mem_of_getElem? (i := 20) rfl), hLqa261ξ.1, hSqa261ξ⟩, hLqa261ξ.2.1⟩, (show 0 ≤ p1ξ by omega), (show p1ξ ≤ _ by omega)⟩ (fun al halξ rna261ξ Pa261 Ga261 hexta261ξ hfra261ξ hoka261ξ hcsa261ξ hpsia261ξ => ?_)
        obtain rfl := List.mem_singleton.mp halξ
        have hra261ξ := zp_int (hoka261ξ _ rfl).1
        obtain ⟨hPea261ξ, hta261ξ⟩ := hpsia261ξ
        have hMa261ξ := zM_eff (eff := [(13, 34, 0), (75, 1001, 0), (13, 38, 0), (13, 39, 0), (13, 40, 0), (77, 1001, 0)]) hMqa261ξ hfra261ξ hexta261ξ (zM_fb (by decide +kernel))
        subst hPea261ξ
        obtain ⟨Ma261, hMa261ξ, hMfa261ξ⟩ := hMa261ξ
        have hVa261ξ : ∀ o k, zNs o k → Ma261 o k = (zp_set V 0 0 0) o k := fun o k hkξ => (zMf_s hMfa261ξ hkξ).trans (hVqa261ξ o k hkξ)
        clear hMfa261ξ hfra261ξ hexta261ξ hoka261ξ hcsa261ξ hVqa261ξ hMqa261ξ hSqa261ξ
        obtain ⟨hta261ξ, hSza261ξ⟩ := hta261ξ
        have hSba261ξ : zSb Ma261 := fun j hjξ => by rw [← zM_G hMa261ξ (List.mem_of_getElem? (i := 18) rfl) (2000 + j)]; exact hSza261ξ j hjξ
        have hta261ξ : rna261ξ = (zd_we (zp_set V 0 0 0) Lwξ p1ξ) := Eq.trans hta261ξ (zy_we_9 hLqa261ξ.2.2.1)
        have hta261ξ := (Eq.symm hta261ξ)
        subst hta261ξ
        have hba261ξ := zd_web (V := (zp_set V 0 0 0)) (L := Lwξ) htaa261ξ.1 htaa261ξ.2
        refine zp_goto (tgt := 48) (pc := 40) hx hb (zd_X12_asks (40, .goto 8, 3, 0, []) (List.mem_of_getElem? (i := 22) rfl)) rfl ?_
        refine zp_iret (pc := 48) (n := (zd_we (zp_set V 0 0 0) Lwξ p1ξ)) hx hb hEξ hQξ hU5ξ rfl (by decide) (zd_X12_asks (48, .ireturn, 1, 0, []) (List.mem_of_getElem? (i := 26) rfl)) (j := 0) rfl (zp_o0 (by omega) (by omega) (by omega) (by omega)) ?_
        rw [hpsξ]
        refine ⟨rfl, ?_⟩
        have hffξ : zf_ask V Lwξ p1ξ p2ξ = ((zd_we (zp_set V 0 0 0) Lwξ p1ξ), (zp_set V 0 0 0)) := by
          unfold zf_ask
          rw [if_pos ((Iff.mp htn251ξ) (by omega)), if_pos ((Iff.mp htn255ξ) (by omega)), if_neg hc259ξ]
        show zMVr A (zf_ask V Lwξ p1ξ p2ξ).2 u.1 Ga261 ∧ (zd_we (zp_set V 0 0 0) Lwξ p1ξ) = (zf_ask V Lwξ p1ξ p2ξ).1
        rw [hffξ]
        exact ⟨⟨Ma261, hMa261ξ, hVa261ξ, hSba261ξ⟩, rfl⟩
    · have hbf258ξ : ¬ (0 ≤ p2ξ ∧ p2ξ ≤ 1) := fun h9ξ => absurd ((Iff.mpr htn255ξ) h9ξ) (by omega)
      refine zp_const (pc := 27) hx hb (zd_X12_asks (27, .iconst (-1), 1, 0, []) (List.mem_of_getElem? (i := 15) rfl)) rfl rfl ?_
      refine zp_goto (tgt := 48) (pc := 28) hx hb (zd_X12_asks (28, .goto 20, 3, 0, []) (List.mem_of_getElem? (i := 16) rfl)) rfl ?_
      refine zp_iret (pc := 48) (n := (-1)) hx hb hEξ hQξ hU5ξ rfl (by decide) (zd_X12_asks (48, .ireturn, 1, 0, []) (List.mem_of_getElem? (i := 26) rfl)) (j := 0) rfl (zp_o0 (by omega) (by omega) (by omega) (by omega)) ?_
      rw [hpsξ]
      refine ⟨rfl, ?_⟩
      have hffξ : zf_ask V Lwξ p1ξ p2ξ = ((-1), (zp_set V 0 0 0)) := by
        unfold zf_ask
        rw [if_pos ((Iff.mp htn251ξ) (by omega)), if_neg (fun h9ξ => absurd ((Iff.mpr htn255ξ) h9ξ) (by omega))]
      show zMVr A (zf_ask V Lwξ p1ξ p2ξ).2 u.1 (zp_set (zp_n u.2.1) (A 0) 0 0) ∧ (-1) = (zf_ask V Lwξ p1ξ p2ξ).1
      rw [hffξ]
      exact ⟨⟨(zp_set M 0 0 0), (zM_set hMξ (List.mem_of_getElem? (i := 0) rfl) (by decide)), (zV_set hVξ), (zSb_set (by decide) hSbξ)⟩, rfl⟩
theorem zl_f8 : zk_fj zl_T 8 = (0, 9, 0, 9999) := by decide +kernel
noncomputable def zf_wea (V : Nat → Nat → Int) (Lwξ : List yK) (p1ξ : Int) : Int × (Nat → Nat → Int) := if ¬ (max 0 (min 9999 ((V 3 (2000 + 8)) - (zd_we V Lwξ p1ξ)))) = 0 then (0, (zp_set (zp_set (zp_set V 3 (2000 + 8) (max 0 (min 9999 ((V 3 (2000 + 8)) - (zd_we V Lwξ p1ξ))))) 3 (2000 + 9) 0) 3 (2000 + 10) p1ξ)) else (1, (zp_set (zp_set (zp_set V 3 (2000 + 8) (max 0 (min 9999 ((V 3 (2000 + 8)) - (zd_we V Lwξ p1ξ))))) 3 (2000 + 9) 1) 3 (2000 + 10) (-1)))
noncomputable def zK_wea : zk_K := (zt_mn 278, prog_14_method_98_code, 2, (Option.some Jvm.ClassFile.FieldType.boolean), 1, 12, [(2, 13, 0, 0), (0, 0, (-2147483648), 2147483647)], [(some (0, 0, 0, 1), [])], zUE, (5, 260, 0, 0))
noncomputable def zφ_wea (A : Nat → Nat) (V : Nat → Nat → Int) (Lwξ : List yK) : (Nat → Option Nat) → (Nat → Nat → Int) → List Int → Prop := fun P G ps => zMVr A V P G ∧ ps.getD 0 0 = (A 0 : Int) ∧ zLV V Lwξ ∧ 0 ≤ (ps.getD 1 0) ∧ (ps.getD 1 0) ≤ 12
noncomputable def zψ_wea (A : Nat → Nat) (V : Nat → Nat → Int) (Lwξ : List yK) : (Nat → Option Nat) → (Nat → Nat → Int) → List Int → (Nat → Option Nat) → (Nat → Nat → Int) → Int → Prop := fun P G ps P' G' rn => P' = P ∧ zMVr A (zf_wea V Lwξ (ps.getD 1 0)).2 P' G' ∧ rn = (zf_wea V Lwξ (ps.getD 1 0)).1
theorem zX_wea {l : Launch} {w : zk_W} (hWξ : zh_W w) (A : Nat → Nat) (V : Nat → Nat → Int) (Lwξ : List yK) : zk_metX l w zt_dv zt_TB zK_wea (zp_A (zφ_wea A V Lwξ)) (zp_B (zψ_wea A V Lwξ)) ∧ zk_cok w zt_TB zK_wea := by
  refine zp_methX (cn := "WoundTownModel") zp_lkall hWξ (pl := 1966) rfl (by decide +kernel) (fun p e R s m args below meth c Q u hx hb hEξ hQξ hU5ξ heffξ hnLξ hokξ hφ => ?_)
  have hwξ := hWξ.1
  obtain ⟨p0ξ, p1ξ, hpsξ, tk0, tk1⟩ := zp_ps2 hokξ
  have hrmξ : zk_Kr (zk_ev (zt_types, zp_lk, zt_dv, [], [], zp_lc, zK_wea)) = zk_Kr zK_wea := rfl
  rw [hpsξ] at hφ ⊢
  have hφ : zMVr A V u.1 (zp_n u.2.1) ∧ p0ξ = (A 0 : Int) ∧ zLV V Lwξ ∧ 0 ≤ p1ξ ∧ p1ξ ≤ 12 := hφ
  obtain ⟨⟨M, hMξ, hVξ, hSbξ⟩, rfl, hLVξ, ht0ξ, ht12ξ⟩ := hφ
  have hi1ξ := zp_int tk1
  show zp_J p l e R s m args below meth c Q w u [] 0 [(0, 2, (A 0 : Int)), (1, 0, p1ξ)] [] u.1 (zp_n u.2.1)
  refine zp_load (pc := 0) hx hb (zd_X12_wear (0, .aload_n 0, 1, 0, []) (List.mem_of_getElem? (i := 0) rfl)) rfl (j := 0) rfl ?_
  refine zp_getf (n := (A 3 : Int)) (pc := 1) hx hb hEξ hwξ (zd_X12_wear (1, .getfield 13, 3, 0, []) (List.mem_of_getElem? (i := 1) rfl)) (j := 21) rfl rfl rfl (zM_P hMξ (List.mem_of_getElem? (i := 0) rfl)) ((zM_G hMξ (List.mem_of_getElem? (i := 0) rfl) 3).trans (zM_F hMξ (List.mem_of_getElem? (i := 1) rfl))) ?_
  refine zp_const (pc := 4) hx hb (zd_X12_wear (4, .bipush 8, 2, 0, []) (List.mem_of_getElem? (i := 2) rfl)) rfl rfl ?_
  refine zp_load (pc := 6) hx hb (zd_X12_wear (6, .aload_n 0, 1, 0, []) (List.mem_of_getElem? (i := 3) rfl)) rfl (j := 0) rfl ?_
  refine zp_getf (n := (A 3 : Int)) (pc := 7) hx hb hEξ hwξ (zd_X12_wear (7, .getfield 13, 3, 0, []) (List.mem_of_getElem? (i := 4) rfl)) (j := 21) rfl rfl rfl (zM_P hMξ (List.mem_of_getElem? (i := 0) rfl)) ((zM_G hMξ (List.mem_of_getElem? (i := 0) rfl) 3).trans (zM_F hMξ (List.mem_of_getElem? (i := 1) rfl))) ?_
  refine zp_const (pc := 10) hx hb (zd_X12_wear (10, .bipush 8, 2, 0, []) (List.mem_of_getElem? (i := 5) rfl)) rfl rfl ?_
  refine zp_ialdT (j := 8) (v := (V 3 (2000 + 8))) (pc := 12) hx hb hwξ (zd_X12_wear (12, .iaload, 1, 0, []) (List.mem_of_getElem? (i := 6) rfl)) zl_T59 rfl (zl_kd 8) (zM_P hMξ (List.mem_of_getElem? (i := 2) rfl)) (by omega) (show 8 < 5580 by omega) ((zM_G hMξ (List.mem_of_getElem? (i := 2) rfl) (2000 + 8)).trans (hVξ 3 (2000 + 8) (Or.inl (by decide)))) (fun hk262ξ => ?_)
  rw [zl_f8] at hk262ξ
  have hk262bξ := zp_int hk262ξ
  refine zp_load (pc := 13) hx hb (zd_X12_wear (13, .aload_n 0, 1, 0, []) (List.mem_of_getElem? (i := 7) rfl)) rfl (j := 0) rfl ?_
  refine zp_load (pc := 14) hx hb (zd_X12_wear (14, .iload_n 1, 1, 0, []) (List.mem_of_getElem? (i := 8) rfl)) rfl (j := 1) rfl ?_
  have hMqa263ξ : zM A zYr zFr M u.1 (zp_n u.2.1) := hMξ
  have hVqa263ξ : ∀ o k, zNs o k → M o k = V o k := hVξ
  have hSqa263ξ : zSb M := hSbξ
  have hLqa263ξ : zLV V Lwξ := hLVξ
  have htaa263ξ : 0 ≤ p1ξ ∧ p1ξ ≤ 31 := by omega
  refine zp_call (pc := 15) (how := 0) (idx := 433) (mi := 238) (S := [(0, (V 3 (2000 + 8))), (0, 8), (2, (A 3 : Int))]) hx hb hEξ hwξ heffξ hrmξ (zX_weo hWξ (A 3) (A 35) (A 37) (fun j => V 3 (2000 + j)) (fun j => M 35 (2000 + j)) Lwξ) rfl (j := 38) rfl rfl (by decide +kernel) (zd_X12_wear (15, .invokevirtual 433, 3, 0, []) (List.mem_of_getElem? (i := 9) rfl)) [(A 0 : Int), p1ξ] rfl ⟨zp_o2 (zM_P hMξ (List.mem_of_getElem? (i := 0) rfl)), zp_o0 (by omega) (by omega) (by omega) (by omega), trivial⟩ (Nat.le_of_ble_eq_true rfl) ⟨⟨⟨⟨(zM_G hMqa263ξ (List.mem_of_getElem? (i := 0) rfl) 20).trans ((hVqa263ξ 0 20 (Or.inr (by decide))).trans hLqa263ξ.2.2.2.2), (zM_G hMqa263ξ (List.mem_of_getElem? (i := 0) rfl) 3).trans (zM_F hMqa263ξ (List.mem_of_getElem? (i := 1) rfl)), (zM_G hMqa263ξ (List.mem_of_getElem? (i := 0) rfl) 35).trans (zM_F hMqa263ξ (List.mem_of_getElem? (i := 17) rfl)), (zM_G hMqa263ξ (List.mem_of_getElem? (i := 0) rfl) 37).trans (zM_F hMqa263ξ (List.mem_of_getElem? (i := 19) rfl)), fun j => (zM_G hMqa263ξ (List.mem_of_getElem? (i := 2) rfl) (2000 + j)).trans (hVqa263ξ 3 _ (Or.inl (by decide))), fun j => zM_G hMqa263ξ (List.mem_of_getElem? (i := 18) rfl) (2000 + j)⟩, zM_P hMqa263ξ (List.mem_of_getElem? (i := 2) rfl), zM_P hMqa263ξ (List.mem_of_getElem? (i := 18) rfl), zM_P hMqa263ξ (List.mem_of_getElem? (i := 20) rfl), hLqa263ξ.1, hSqa263ξ⟩, hLqa263ξ.2.1⟩, (show 0 ≤ p1ξ by omega), (show p1ξ ≤ _ by omega)⟩ (fun al halξ rna263ξ Pa263 Ga263 hexta263ξ hfra263ξ hoka263ξ hcsa263ξ hpsia263ξ => ?_)
  obtain rfl := List.mem_singleton.mp halξ
  have hra263ξ := zp_int (hoka263ξ _ rfl).1
  obtain ⟨hPea263ξ, hta263ξ⟩ := hpsia263ξ
  have hMa263ξ := zM_eff (eff := [(13, 34, 0), (75, 1001, 0), (13, 38, 0), (13, 39, 0), (13, 40, 0), (77, 1001, 0)]) hMqa263ξ hfra263ξ hexta263ξ (zM_fb (by decide +kernel))
  subst hPea263ξ
  obtain ⟨Ma263, hMa263ξ, hMfa263ξ⟩ := hMa263ξ
  have hVa263ξ : ∀ o k, zNs o k → Ma263 o k = V o k := fun o k hkξ => (zMf_s hMfa263ξ hkξ).trans (hVqa263ξ o k hkξ)
  clear hMfa263ξ hfra263ξ hexta263ξ hoka263ξ hcsa263ξ hVqa263ξ hMqa263ξ hSqa263ξ
  obtain ⟨hta263ξ, hSza263ξ⟩ := hta263ξ
  have hSba263ξ : zSb Ma263 := fun j hjξ => by rw [← zM_G hMa263ξ (List.mem_of_getElem? (i := 18) rfl) (2000 + j)]; exact hSza263ξ j hjξ
  have hta263ξ : rna263ξ = (zd_we V Lwξ p1ξ) := Eq.trans hta263ξ (zy_we_9 hLqa263ξ.2.2.1)
  have hta263ξ := (Eq.symm hta263ξ)
  subst hta263ξ
  have hba263ξ := zd_web (V := V) (L := Lwξ) htaa263ξ.1 htaa263ξ.2
  refine zp_sub (n := ((V 3 (2000 + 8)) - (zd_we V Lwξ p1ξ))) (pc := 18) hx hb (zd_X12_wear (18, .isub, 1, 0, []) (List.mem_of_getElem? (i := 10) rfl)) (by omega) (zp_r0 (by omega) (by omega)) ?_
  refine zp_i2l (pc := 19) hx hb (zd_X12_wear (19, .i2l, 1, 0, []) (List.mem_of_getElem? (i := 11) rfl)) ?_
  refine zp_const (pc := 20) hx hb (zd_X12_wear (20, .iconst 0, 1, 0, []) (List.mem_of_getElem? (i := 12) rfl)) rfl rfl ?_
  refine zp_const (pc := 21) hx hb (zd_X12_wear (21, .sipush 9999, 3, 0, []) (List.mem_of_getElem? (i := 13) rfl)) rfl rfl ?_
  refine zp_call (pc := 24) (how := 1) (idx := 427) (mi := 245) (S := [(0, 8), (2, (A 3 : Int))]) hx hb hEξ hwξ heffξ hrmξ (zX_wi hWξ) rfl (j := 45) rfl rfl (by decide +kernel) (zd_X12_wear (24, .invokestatic 427, 3, 0, []) (List.mem_of_getElem? (i := 14) rfl)) [((V 3 (2000 + 8)) - (zd_we V Lwξ p1ξ)), 0, 9999] rfl ⟨zp_o1 (zp_r1 (by omega) (by omega)), zp_o0 (by omega) (by omega) (by omega) (by omega), zp_o0 (by omega) (by omega) (by omega) (by omega), trivial⟩ (Nat.le_of_ble_eq_true rfl) (show 0 ≤ 9999 by omega) (fun al halξ rnv264ξ Pv264 Gv264 hextv264ξ hfrv264ξ hokv264ξ hcsv264ξ hpsiv264ξ => ?_)
  obtain rfl := List.mem_singleton.mp halξ
  have hrv264ξ := zp_int (hokv264ξ _ rfl).1
  obtain ⟨hPev264ξ, hGev264ξ, htv264ξ⟩ := hpsiv264ξ
  rw [hPev264ξ, hGev264ξ]
  clear hextv264ξ hfrv264ξ hcsv264ξ hPev264ξ hGev264ξ
  have htv264ξ : rnv264ξ = (max 0 (min 9999 ((V 3 (2000 + 8)) - (zd_we V Lwξ p1ξ)))) := htv264ξ
  have htv264ξ := (Eq.symm htv264ξ)
  subst htv264ξ
  have hxv264ξ : 0 ≤ (max 0 (min 9999 ((V 3 (2000 + 8)) - (zd_we V Lwξ p1ξ)))) ∧ (max 0 (min 9999 ((V 3 (2000 + 8)) - (zd_we V Lwξ p1ξ)))) ≤ 9999 := by omega
  refine zp_iastR (j := 8) (pc := 27) hx hb hwξ heffξ (zd_X12_wear (27, .iastore, 1, 0, []) (List.mem_of_getElem? (i := 15) rfl)) (zM_P hMa263ξ (List.mem_of_getElem? (i := 2) rfl)) (by omega) (show 8 < 180 by omega) (zr_st (lo := 0) (hi := 9999) ⟨rfl, rfl, rfl⟩ (by omega) (by omega) (by omega) (by omega)) ⟨1002, rfl, zp_1002 (by omega)⟩ ?_
  refine zp_load (pc := 28) hx hb (zd_X12_wear (28, .aload_n 0, 1, 0, []) (List.mem_of_getElem? (i := 16) rfl)) rfl (j := 0) rfl ?_
  refine zp_getf (n := (A 3 : Int)) (pc := 29) hx hb hEξ hwξ (zd_X12_wear (29, .getfield 13, 3, 0, []) (List.mem_of_getElem? (i := 17) rfl)) (j := 21) rfl rfl rfl (zM_P hMa263ξ (List.mem_of_getElem? (i := 0) rfl)) ((zp_set_ne (Or.inl (zM_ne hMa263ξ (List.mem_of_getElem? (i := 0) rfl) (List.mem_of_getElem? (i := 2) rfl) (by decide)))).trans (((zM_G hMa263ξ (List.mem_of_getElem? (i := 0) rfl) 3).trans (zM_F hMa263ξ (List.mem_of_getElem? (i := 1) rfl))))) ?_
  refine zp_const (pc := 32) hx hb (zd_X12_wear (32, .bipush 9, 2, 0, []) (List.mem_of_getElem? (i := 18) rfl)) rfl rfl ?_
  refine zp_load (pc := 34) hx hb (zd_X12_wear (34, .aload_n 0, 1, 0, []) (List.mem_of_getElem? (i := 19) rfl)) rfl (j := 0) rfl ?_
  refine zp_getf (n := (A 3 : Int)) (pc := 35) hx hb hEξ hwξ (zd_X12_wear (35, .getfield 13, 3, 0, []) (List.mem_of_getElem? (i := 20) rfl)) (j := 21) rfl rfl rfl (zM_P hMa263ξ (List.mem_of_getElem? (i := 0) rfl)) ((zp_set_ne (Or.inl (zM_ne hMa263ξ (List.mem_of_getElem? (i := 0) rfl) (List.mem_of_getElem? (i := 2) rfl) (by decide)))).trans (((zM_G hMa263ξ (List.mem_of_getElem? (i := 0) rfl) 3).trans (zM_F hMa263ξ (List.mem_of_getElem? (i := 1) rfl))))) ?_
  refine zp_const (pc := 38) hx hb (zd_X12_wear (38, .bipush 8, 2, 0, []) (List.mem_of_getElem? (i := 21) rfl)) rfl rfl ?_
  refine zp_ialdT (j := 8) (v := (max 0 (min 9999 ((V 3 (2000 + 8)) - (zd_we V Lwξ p1ξ))))) (pc := 40) hx hb hwξ (zd_X12_wear (40, .iaload, 1, 0, []) (List.mem_of_getElem? (i := 22) rfl)) zl_T59 rfl (zl_kd 8) (zM_P hMa263ξ (List.mem_of_getElem? (i := 2) rfl)) (by omega) (show 8 < 5580 by omega) zp_set_self (fun hk265ξ => ?_)
  refine zp_if (pc := 41) (tgt := 48) hx hb (zd_X12_wear (41, .ifCond .ne 7, 3, 0, []) (List.mem_of_getElem? (i := 23) rfl)) rfl (fun (hc266ξ : ¬ (max 0 (min 9999 ((V 3 (2000 + 8)) - (zd_we V Lwξ p1ξ)))) = 0) => ?_) (fun (hc266ξ : ¬ (¬ (max 0 (min 9999 ((V 3 (2000 + 8)) - (zd_we V Lwξ p1ξ)))) = 0)) => ?_)
  · refine zp_const (pc := 48) hx hb (zd_X12_wear (48, .iconst 0, 1, 0, []) (List.mem_of_getElem? (i := 26) rfl)) rfl rfl ?_
    refine zp_iastR (j := 9) (pc := 49) hx hb hwξ heffξ (zd_X12_wear (49, .iastore, 1, 0, []) (List.mem_of_getElem? (i := 27) rfl)) (zM_P hMa263ξ (List.mem_of_getElem? (i := 2) rfl)) (by omega) (show 9 < 180 by omega) (zr_st (lo := (-2147483648)) (hi := 2147483647) ⟨rfl, rfl, rfl⟩ (by omega) (by omega) (by omega) (by omega)) ⟨1002, rfl, zp_1002 (by omega)⟩ ?_
    refine zp_load (pc := 50) hx hb (zd_X12_wear (50, .aload_n 0, 1, 0, []) (List.mem_of_getElem? (i := 28) rfl)) rfl (j := 0) rfl ?_
    refine zp_getf (n := (A 3 : Int)) (pc := 51) hx hb hEξ hwξ (zd_X12_wear (51, .getfield 13, 3, 0, []) (List.mem_of_getElem? (i := 29) rfl)) (j := 21) rfl rfl rfl (zM_P hMa263ξ (List.mem_of_getElem? (i := 0) rfl)) ((zp_set_ne (Or.inl (zM_ne hMa263ξ (List.mem_of_getElem? (i := 0) rfl) (List.mem_of_getElem? (i := 2) rfl) (by decide)))).trans ((zp_set_ne (Or.inl (zM_ne hMa263ξ (List.mem_of_getElem? (i := 0) rfl) (List.mem_of_getElem? (i := 2) rfl) (by decide)))).trans (((zM_G hMa263ξ (List.mem_of_getElem? (i := 0) rfl) 3).trans (zM_F hMa263ξ (List.mem_of_getElem? (i := 1) rfl)))))) ?_
    refine zp_const (pc := 54) hx hb (zd_X12_wear (54, .bipush 10, 2, 0, []) (List.mem_of_getElem? (i := 30) rfl)) rfl rfl ?_
    refine zp_load (pc := 56) hx hb (zd_X12_wear (56, .aload_n 0, 1, 0, []) (List.mem_of_getElem? (i := 31) rfl)) rfl (j := 0) rfl ?_
    refine zp_getf (n := (A 3 : Int)) (pc := 57) hx hb hEξ hwξ (zd_X12_wear (57, .getfield 13, 3, 0, []) (List.mem_of_getElem? (i := 32) rfl)) (j := 21) rfl rfl rfl (zM_P hMa263ξ (List.mem_of_getElem? (i := 0) rfl)) ((zp_set_ne (Or.inl (zM_ne hMa263ξ (List.mem_of_getElem? (i := 0) rfl) (List.mem_of_getElem? (i := 2) rfl) (by decide)))).trans ((zp_set_ne (Or.inl (zM_ne hMa263ξ (List.mem_of_getElem? (i := 0) rfl) (List.mem_of_getElem? (i := 2) rfl) (by decide)))).trans (((zM_G hMa263ξ (List.mem_of_getElem? (i := 0) rfl) 3).trans (zM_F hMa263ξ (List.mem_of_getElem? (i := 1) rfl)))))) ?_
    refine zp_const (pc := 60) hx hb (zd_X12_wear (60, .bipush 8, 2, 0, []) (List.mem_of_getElem? (i := 33) rfl)) rfl rfl ?_
    refine zp_ialdT (j := 8) (v := (max 0 (min 9999 ((V 3 (2000 + 8)) - (zd_we V Lwξ p1ξ))))) (pc := 62) hx hb hwξ (zd_X12_wear (62, .iaload, 1, 0, []) (List.mem_of_getElem? (i := 34) rfl)) zl_T59 rfl (zl_kd 8) (zM_P hMa263ξ (List.mem_of_getElem? (i := 2) rfl)) (by omega) (show 8 < 5580 by omega) ((zp_set_ne (Or.inr (by omega))).trans (zp_set_self)) (fun hk267ξ => ?_)
    refine zp_if (pc := 63) (tgt := 70) hx hb (zd_X12_wear (63, .ifCond .ne 7, 3, 0, []) (List.mem_of_getElem? (i := 35) rfl)) rfl (fun (hc268ξ : ¬ (max 0 (min 9999 ((V 3 (2000 + 8)) - (zd_we V Lwξ p1ξ)))) = 0) => ?_) (fun (hc268ξ : ¬ (¬ (max 0 (min 9999 ((V 3 (2000 + 8)) - (zd_we V Lwξ p1ξ)))) = 0)) => ?_)
    · refine zp_load (pc := 70) hx hb (zd_X12_wear (70, .iload_n 1, 1, 0, []) (List.mem_of_getElem? (i := 38) rfl)) rfl (j := 1) rfl ?_
      refine zp_iastR (j := 10) (pc := 71) hx hb hwξ heffξ (zd_X12_wear (71, .iastore, 1, 0, []) (List.mem_of_getElem? (i := 39) rfl)) (zM_P hMa263ξ (List.mem_of_getElem? (i := 2) rfl)) (by omega) (show 10 < 180 by omega) (zr_st (lo := (-2147483648)) (hi := 2147483647) ⟨rfl, rfl, rfl⟩ (by omega) (by omega) (by omega) (by omega)) ⟨1002, rfl, zp_1002 (by omega)⟩ ?_
      refine zp_load (pc := 72) hx hb (zd_X12_wear (72, .aload_n 0, 1, 0, []) (List.mem_of_getElem? (i := 40) rfl)) rfl (j := 0) rfl ?_
      refine zp_getf (n := (A 3 : Int)) (pc := 73) hx hb hEξ hwξ (zd_X12_wear (73, .getfield 13, 3, 0, []) (List.mem_of_getElem? (i := 41) rfl)) (j := 21) rfl rfl rfl (zM_P hMa263ξ (List.mem_of_getElem? (i := 0) rfl)) ((zp_set_ne (Or.inl (zM_ne hMa263ξ (List.mem_of_getElem? (i := 0) rfl) (List.mem_of_getElem? (i := 2) rfl) (by decide)))).trans ((zp_set_ne (Or.inl (zM_ne hMa263ξ (List.mem_of_getElem? (i := 0) rfl) (List.mem_of_getElem? (i := 2) rfl) (by decide)))).trans ((zp_set_ne (Or.inl (zM_ne hMa263ξ (List.mem_of_getElem? (i := 0) rfl) (List.mem_of_getElem? (i := 2) rfl) (by decide)))).trans (((zM_G hMa263ξ (List.mem_of_getElem? (i := 0) rfl) 3).trans (zM_F hMa263ξ (List.mem_of_getElem? (i := 1) rfl))))))) ?_
      refine zp_const (pc := 76) hx hb (zd_X12_wear (76, .bipush 8, 2, 0, []) (List.mem_of_getElem? (i := 42) rfl)) rfl rfl ?_
      refine zp_ialdT (j := 8) (v := (max 0 (min 9999 ((V 3 (2000 + 8)) - (zd_we V Lwξ p1ξ))))) (pc := 78) hx hb hwξ (zd_X12_wear (78, .iaload, 1, 0, []) (List.mem_of_getElem? (i := 43) rfl)) zl_T59 rfl (zl_kd 8) (zM_P hMa263ξ (List.mem_of_getElem? (i := 2) rfl)) (by omega) (show 8 < 5580 by omega) ((zp_set_ne (Or.inr (by omega))).trans ((zp_set_ne (Or.inr (by omega))).trans (zp_set_self))) (fun hk269ξ => ?_)
      refine zp_if (pc := 79) (tgt := 86) hx hb (zd_X12_wear (79, .ifCond .ne 7, 3, 0, []) (List.mem_of_getElem? (i := 44) rfl)) rfl (fun (hc270ξ : ¬ (max 0 (min 9999 ((V 3 (2000 + 8)) - (zd_we V Lwξ p1ξ)))) = 0) => ?_) (fun (hc270ξ : ¬ (¬ (max 0 (min 9999 ((V 3 (2000 + 8)) - (zd_we V Lwξ p1ξ)))) = 0)) => ?_)
      · refine zp_const (pc := 86) hx hb (zd_X12_wear (86, .iconst 0, 1, 0, []) (List.mem_of_getElem? (i := 47) rfl)) rfl rfl ?_
        refine zp_zret (pc := 87) (n := 0) hx hb hEξ hQξ hU5ξ rfl (by decide) (zd_X12_wear (87, .ireturn, 1, 0, []) (List.mem_of_getElem? (i := 48) rfl)) (j := 0) rfl (zp_o0 (by omega) (by omega) (by omega) (by omega)) ?_
        rw [hpsξ]
        refine ⟨rfl, ?_⟩
        have hffξ : zf_wea V Lwξ p1ξ = (0, (zp_set (zp_set (zp_set V 3 (2000 + 8) (max 0 (min 9999 ((V 3 (2000 + 8)) - (zd_we V Lwξ p1ξ))))) 3 (2000 + 9) 0) 3 (2000 + 10) p1ξ)) := by
          unfold zf_wea
          rw [if_pos hc266ξ]
        show zMVr A (zf_wea V Lwξ p1ξ).2 u.1 (zp_set (zp_set (zp_set Ga263 (A 3) (2000 + 8) (max 0 (min 9999 ((V 3 (2000 + 8)) - (zd_we V Lwξ p1ξ))))) (A 3) (2000 + 9) 0) (A 3) (2000 + 10) p1ξ) ∧ 0 = (zf_wea V Lwξ p1ξ).1
        rw [hffξ]
        exact ⟨⟨(zp_set (zp_set (zp_set Ma263 3 (2000 + 8) (max 0 (min 9999 ((V 3 (2000 + 8)) - (zd_we V Lwξ p1ξ))))) 3 (2000 + 9) 0) 3 (2000 + 10) p1ξ), (zM_setE (zM_setE (zM_setE hMa263ξ (List.mem_of_getElem? (i := 2) rfl)) (List.mem_of_getElem? (i := 2) rfl)) (List.mem_of_getElem? (i := 2) rfl)), (zV_set (zV_set (zV_set hVa263ξ))), (zSb_set (by decide) (zSb_set (by decide) (zSb_set (by decide) hSba263ξ)))⟩, rfl⟩
      · exfalso
        omega
    · exfalso
      omega
  · refine zp_const (pc := 44) hx hb (zd_X12_wear (44, .iconst 1, 1, 0, []) (List.mem_of_getElem? (i := 24) rfl)) rfl rfl ?_
    refine zp_goto (tgt := 49) (pc := 45) hx hb (zd_X12_wear (45, .goto 4, 3, 0, []) (List.mem_of_getElem? (i := 25) rfl)) rfl ?_
    refine zp_iastR (j := 9) (pc := 49) hx hb hwξ heffξ (zd_X12_wear (49, .iastore, 1, 0, []) (List.mem_of_getElem? (i := 27) rfl)) (zM_P hMa263ξ (List.mem_of_getElem? (i := 2) rfl)) (by omega) (show 9 < 180 by omega) (zr_st (lo := (-2147483648)) (hi := 2147483647) ⟨rfl, rfl, rfl⟩ (by omega) (by omega) (by omega) (by omega)) ⟨1002, rfl, zp_1002 (by omega)⟩ ?_
    refine zp_load (pc := 50) hx hb (zd_X12_wear (50, .aload_n 0, 1, 0, []) (List.mem_of_getElem? (i := 28) rfl)) rfl (j := 0) rfl ?_
    refine zp_getf (n := (A 3 : Int)) (pc := 51) hx hb hEξ hwξ (zd_X12_wear (51, .getfield 13, 3, 0, []) (List.mem_of_getElem? (i := 29) rfl)) (j := 21) rfl rfl rfl (zM_P hMa263ξ (List.mem_of_getElem? (i := 0) rfl)) ((zp_set_ne (Or.inl (zM_ne hMa263ξ (List.mem_of_getElem? (i := 0) rfl) (List.mem_of_getElem? (i := 2) rfl) (by decide)))).trans ((zp_set_ne (Or.inl (zM_ne hMa263ξ (List.mem_of_getElem? (i := 0) rfl) (List.mem_of_getElem? (i := 2) rfl) (by decide)))).trans (((zM_G hMa263ξ (List.mem_of_getElem? (i := 0) rfl) 3).trans (zM_F hMa263ξ (List.mem_of_getElem? (i := 1) rfl)))))) ?_
    refine zp_const (pc := 54) hx hb (zd_X12_wear (54, .bipush 10, 2, 0, []) (List.mem_of_getElem? (i := 30) rfl)) rfl rfl ?_
    refine zp_load (pc := 56) hx hb (zd_X12_wear (56, .aload_n 0, 1, 0, []) (List.mem_of_getElem? (i := 31) rfl)) rfl (j := 0) rfl ?_
    refine zp_getf (n := (A 3 : Int)) (pc := 57) hx hb hEξ hwξ (zd_X12_wear (57, .getfield 13, 3, 0, []) (List.mem_of_getElem? (i := 32) rfl)) (j := 21) rfl rfl rfl (zM_P hMa263ξ (List.mem_of_getElem? (i := 0) rfl)) ((zp_set_ne (Or.inl (zM_ne hMa263ξ (List.mem_of_getElem? (i := 0) rfl) (List.mem_of_getElem? (i := 2) rfl) (by decide)))).trans ((zp_set_ne (Or.inl (zM_ne hMa263ξ (List.mem_of_getElem? (i := 0) rfl) (List.mem_of_getElem? (i := 2) rfl) (by decide)))).trans (((zM_G hMa263ξ (List.mem_of_getElem? (i := 0) rfl) 3).trans (zM_F hMa263ξ (List.mem_of_getElem? (i := 1) rfl)))))) ?_
    refine zp_const (pc := 60) hx hb (zd_X12_wear (60, .bipush 8, 2, 0, []) (List.mem_of_getElem? (i := 33) rfl)) rfl rfl ?_
    refine zp_ialdT (j := 8) (v := (max 0 (min 9999 ((V 3 (2000 + 8)) - (zd_we V Lwξ p1ξ))))) (pc := 62) hx hb hwξ (zd_X12_wear (62, .iaload, 1, 0, []) (List.mem_of_getElem? (i := 34) rfl)) zl_T59 rfl (zl_kd 8) (zM_P hMa263ξ (List.mem_of_getElem? (i := 2) rfl)) (by omega) (show 8 < 5580 by omega) ((zp_set_ne (Or.inr (by omega))).trans (zp_set_self)) (fun hk271ξ => ?_)
    refine zp_if (pc := 63) (tgt := 70) hx hb (zd_X12_wear (63, .ifCond .ne 7, 3, 0, []) (List.mem_of_getElem? (i := 35) rfl)) rfl (fun (hc272ξ : ¬ (max 0 (min 9999 ((V 3 (2000 + 8)) - (zd_we V Lwξ p1ξ)))) = 0) => ?_) (fun (hc272ξ : ¬ (¬ (max 0 (min 9999 ((V 3 (2000 + 8)) - (zd_we V Lwξ p1ξ)))) = 0)) => ?_)
    · exfalso
      omega
    · refine zp_const (pc := 66) hx hb (zd_X12_wear (66, .iconst (-1), 1, 0, []) (List.mem_of_getElem? (i := 36) rfl)) rfl rfl ?_
      refine zp_goto (tgt := 71) (pc := 67) hx hb (zd_X12_wear (67, .goto 4, 3, 0, []) (List.mem_of_getElem? (i := 37) rfl)) rfl ?_
      refine zp_iastR (j := 10) (pc := 71) hx hb hwξ heffξ (zd_X12_wear (71, .iastore, 1, 0, []) (List.mem_of_getElem? (i := 39) rfl)) (zM_P hMa263ξ (List.mem_of_getElem? (i := 2) rfl)) (by omega) (show 10 < 180 by omega) (zr_st (lo := (-2147483648)) (hi := 2147483647) ⟨rfl, rfl, rfl⟩ (by omega) (by omega) (by omega) (by omega)) ⟨1002, rfl, zp_1002 (by omega)⟩ ?_
      refine zp_load (pc := 72) hx hb (zd_X12_wear (72, .aload_n 0, 1, 0, []) (List.mem_of_getElem? (i := 40) rfl)) rfl (j := 0) rfl ?_
      refine zp_getf (n := (A 3 : Int)) (pc := 73) hx hb hEξ hwξ (zd_X12_wear (73, .getfield 13, 3, 0, []) (List.mem_of_getElem? (i := 41) rfl)) (j := 21) rfl rfl rfl (zM_P hMa263ξ (List.mem_of_getElem? (i := 0) rfl)) ((zp_set_ne (Or.inl (zM_ne hMa263ξ (List.mem_of_getElem? (i := 0) rfl) (List.mem_of_getElem? (i := 2) rfl) (by decide)))).trans ((zp_set_ne (Or.inl (zM_ne hMa263ξ (List.mem_of_getElem? (i := 0) rfl) (List.mem_of_getElem? (i := 2) rfl) (by decide)))).trans ((zp_set_ne (Or.inl (zM_ne hMa263ξ (List.mem_of_getElem? (i := 0) rfl) (List.mem_of_getElem? (i := 2) rfl) (by decide)))).trans (((zM_G hMa263ξ (List.mem_of_getElem? (i := 0) rfl) 3).trans (zM_F hMa263ξ (List.mem_of_getElem? (i := 1) rfl))))))) ?_
      refine zp_const (pc := 76) hx hb (zd_X12_wear (76, .bipush 8, 2, 0, []) (List.mem_of_getElem? (i := 42) rfl)) rfl rfl ?_
      refine zp_ialdT (j := 8) (v := (max 0 (min 9999 ((V 3 (2000 + 8)) - (zd_we V Lwξ p1ξ))))) (pc := 78) hx hb hwξ (zd_X12_wear (78, .iaload, 1, 0, []) (List.mem_of_getElem? (i := 43) rfl)) zl_T59 rfl (zl_kd 8) (zM_P hMa263ξ (List.mem_of_getElem? (i := 2) rfl)) (by omega) (show 8 < 5580 by omega) ((zp_set_ne (Or.inr (by omega))).trans ((zp_set_ne (Or.inr (by omega))).trans (zp_set_self))) (fun hk273ξ => ?_)
      refine zp_if (pc := 79) (tgt := 86) hx hb (zd_X12_wear (79, .ifCond .ne 7, 3, 0, []) (List.mem_of_getElem? (i := 44) rfl)) rfl (fun (hc274ξ : ¬ (max 0 (min 9999 ((V 3 (2000 + 8)) - (zd_we V Lwξ p1ξ)))) = 0) => ?_) (fun (hc274ξ : ¬ (¬ (max 0 (min 9999 ((V 3 (2000 + 8)) - (zd_we V Lwξ p1ξ)))) = 0)) => ?_)
      · exfalso
        omega
      · refine zp_const (pc := 82) hx hb (zd_X12_wear (82, .iconst 1, 1, 0, []) (List.mem_of_getElem? (i := 45) rfl)) rfl rfl ?_
        refine zp_goto (tgt := 87) (pc := 83) hx hb (zd_X12_wear (83, .goto 4, 3, 0, []) (List.mem_of_getElem? (i := 46) rfl)) rfl ?_
        refine zp_zret (pc := 87) (n := 1) hx hb hEξ hQξ hU5ξ rfl (by decide) (zd_X12_wear (87, .ireturn, 1, 0, []) (List.mem_of_getElem? (i := 48) rfl)) (j := 0) rfl (zp_o0 (by omega) (by omega) (by omega) (by omega)) ?_
        rw [hpsξ]
        refine ⟨rfl, ?_⟩
        have hffξ : zf_wea V Lwξ p1ξ = (1, (zp_set (zp_set (zp_set V 3 (2000 + 8) (max 0 (min 9999 ((V 3 (2000 + 8)) - (zd_we V Lwξ p1ξ))))) 3 (2000 + 9) 1) 3 (2000 + 10) (-1))) := by
          unfold zf_wea
          rw [if_neg hc266ξ]
        show zMVr A (zf_wea V Lwξ p1ξ).2 u.1 (zp_set (zp_set (zp_set Ga263 (A 3) (2000 + 8) (max 0 (min 9999 ((V 3 (2000 + 8)) - (zd_we V Lwξ p1ξ))))) (A 3) (2000 + 9) 1) (A 3) (2000 + 10) (-1)) ∧ 1 = (zf_wea V Lwξ p1ξ).1
        rw [hffξ]
        exact ⟨⟨(zp_set (zp_set (zp_set Ma263 3 (2000 + 8) (max 0 (min 9999 ((V 3 (2000 + 8)) - (zd_we V Lwξ p1ξ))))) 3 (2000 + 9) 1) 3 (2000 + 10) (-1)), (zM_setE (zM_setE (zM_setE hMa263ξ (List.mem_of_getElem? (i := 2) rfl)) (List.mem_of_getElem? (i := 2) rfl)) (List.mem_of_getElem? (i := 2) rfl)), (zV_set (zV_set (zV_set hVa263ξ))), (zSb_set (by decide) (zSb_set (by decide) (zSb_set (by decide) hSba263ξ)))⟩, rfl⟩
theorem zf_wea_f {V : Nat → Nat → Int} {Lwξ : List yK} {p1ξ : Int} {o k : Nat} (h9ξ : o ∉ ([3] : List Nat)) : (zf_wea V Lwξ p1ξ).2 o k = V o k := by
  unfold zf_wea
  by_cases hd2ξ : ¬ (max 0 (min 9999 ((V 3 (2000 + 8)) - (zd_we V Lwξ p1ξ)))) = 0
  · rw [if_pos hd2ξ]
    show (zp_set (zp_set (zp_set V 3 (2000 + 8) (max 0 (min 9999 ((V 3 (2000 + 8)) - (zd_we V Lwξ p1ξ))))) 3 (2000 + 9) 0) 3 (2000 + 10) p1ξ) o k = V o k
    exact ((zp_set_ne (Or.inl (zc_nin h9ξ (by decide)))).trans ((zp_set_ne (Or.inl (zc_nin h9ξ (by decide)))).trans (zp_set_ne (Or.inl (zc_nin h9ξ (by decide))))))
  · rw [if_neg hd2ξ]
    show (zp_set (zp_set (zp_set V 3 (2000 + 8) (max 0 (min 9999 ((V 3 (2000 + 8)) - (zd_we V Lwξ p1ξ))))) 3 (2000 + 9) 1) 3 (2000 + 10) (-1)) o k = V o k
    exact ((zp_set_ne (Or.inl (zc_nin h9ξ (by decide)))).trans ((zp_set_ne (Or.inl (zc_nin h9ξ (by decide)))).trans (zp_set_ne (Or.inl (zc_nin h9ξ (by decide))))))
theorem zMf_5 {M M' : Nat → Nat → Int} {o k : Nat} (h : ∀ o t k, (o, t) ∈ zYr → (zp_nfb [(75, 1001, 0)] t k = true ∨ zp_ncb [(75, 1001, 0)] t = true) → M' o k = M o k) (hkξ : zNs o k) : M' o k = M o k := by
  rcases hkξ with hkξ | ⟨rfl, hkξ⟩
  · exact zMf_l (L := zNl) (by decide +kernel) h hkξ
  · exact h 0 13 k (List.mem_of_getElem? (i := 0) rfl) (Or.inr (by decide))
noncomputable def zd_tu (V : Nat → Nat → Int) : Int := if V 3 (2000 + 10) = -1 then 0 else V 3 (2000 + 10)
noncomputable def zd_ba (V : Nat → Nat → Int) (L : List yK) (p li : Int) : Int := zy_ba (zg_en (zg_st (zg_sh zd_S0 (zd_tu V) (-1) (-1) p (zg_po (fun j => V 3 (2000 + j)) 0 p) li) (fun j => V 3 (2000 + j)))) L
theorem zy_ba_9' {R St : Nat → Int} {t pw h p q li : Int} {L : List yK} (hLξ : zyL L) : zy_ba (zg_en (zg_st (zg_sh St t pw h p q li) R)) L = zy_ba (zg_en (zg_st (zg_sh zd_S0 t pw h p q li) R)) L := by
  unfold zy_ba
  rw [hLξ (zg_en (zg_st (zg_sh St t pw h p q li) R)) (zg_en (zg_st (zg_sh zd_S0 t pw h p q li) R)) (fun o a h0ξ h9ξ => by
    unfold zg_en
    by_cases c0 : o = 0
    · rw [if_pos c0, if_pos c0]
    · rw [if_neg c0, if_neg c0]
      have hjξ : o.toNat = 1 ∨ o.toNat = 2 ∨ o.toNat = 3 ∨ o.toNat = 4 ∨ o.toNat = 5 ∨ o.toNat = 6 ∨ o.toNat = 7 ∨ o.toNat = 8 ∨ o.toNat = 9 := by omega
      rcases hjξ with e | e | e | e | e | e | e | e | e <;> rw [e] <;> rfl) 4]
theorem zT_rem_3 {V : Nat → Nat → Int} {s : Int} {n k : Nat} : zT_rem V s n 3 k = V 3 k := by
  unfold zT_rem
  split
  · rw [zp_set_ne (Or.inl (by decide)), zp_set_ne (Or.inl (by decide)), zc_cp_o (by decide), zp_set_ne (Or.inl (by decide)), zc_cp_o (by decide), zc_cp_o (by decide)]
  · rw [zp_set_ne (Or.inl (by decide)), zp_set_ne (Or.inl (by decide)), zc_cp_o (by decide)]
theorem zT_rem_0 {V : Nat → Nat → Int} {s : Int} {n k : Nat} (hkξ : k ≠ 8) : zT_rem V s n 0 k = V 0 k := by
  unfold zT_rem
  split
  · rw [zp_set_ne (Or.inr hkξ), zp_set_ne (Or.inl (by decide)), zc_cp_o (by decide), zp_set_ne (Or.inr hkξ), zc_cp_o (by decide), zc_cp_o (by decide)]
  · rw [zp_set_ne (Or.inr hkξ), zp_set_ne (Or.inl (by decide)), zc_cp_o (by decide)]
theorem zLV_rem {V : Nat → Nat → Int} {L : List yK} {s : Int} {n : Nat} (h : zLV V L) : zLV (zT_rem V s n) L := zLV_e (fun _ => zT_rem_3) (zT_rem_0 (by decide)) h
noncomputable def zK_isb : zk_K := (zt_mn 281, prog_14_method_73_code, 3, (Option.some Jvm.ClassFile.FieldType.boolean), 1, 12, [(2, 13, 0, 0), (0, 0, 0, 5), (0, 0, 0, 9)], [(some (0, 0, 0, 1), [])], zUE, (5, 260, 0, 0))
noncomputable def zφ_isb (A : Nat → Nat) (V : Nat → Nat → Int) (Lwξ : List yK) : (Nat → Option Nat) → (Nat → Nat → Int) → List Int → Prop := fun P G ps => zMVr A V P G ∧ ps.getD 0 0 = (A 0 : Int) ∧ zLV V Lwξ
noncomputable def zψ_isb (A : Nat → Nat) (V : Nat → Nat → Int) (Lwξ : List yK) : (Nat → Option Nat) → (Nat → Nat → Int) → List Int → (Nat → Option Nat) → (Nat → Nat → Int) → Int → Prop := fun P G ps P' G' rn => P' = P ∧ zMVr A V P' G' ∧ (rn = 1 ↔ zd_ba V Lwξ (ps.getD 1 0) (ps.getD 2 0) = 1)
theorem zX_isb {l : Launch} {w : zk_W} (hWξ : zh_W w) (A : Nat → Nat) (V : Nat → Nat → Int) (Lwξ : List yK) : zk_metX l w zt_dv zt_TB zK_isb (zp_A (zφ_isb A V Lwξ)) (zp_B (zψ_isb A V Lwξ)) ∧ zk_cok w zt_TB zK_isb := by
  refine zp_methX (cn := "WoundTownModel") zp_lkall hWξ (pl := 1978) rfl (by decide +kernel) (fun p e R s m args below meth c Q u hx hb hEξ hQξ hU5ξ heffξ hnLξ hokξ hφ => ?_)
  have hwξ := hWξ.1
  obtain ⟨p0ξ, p1ξ, p2ξ, hpsξ, tk0, tk1, tk2⟩ := zp_ps3 hokξ
  have hrmξ : zk_Kr (zk_ev (zt_types, zp_lk, zt_dv, [], [], zp_lc, zK_isb)) = zk_Kr zK_isb := rfl
  rw [hpsξ] at hφ ⊢
  have hφ : zMVr A V u.1 (zp_n u.2.1) ∧ p0ξ = (A 0 : Int) ∧ zLV V Lwξ := hφ
  obtain ⟨⟨M, hMξ, hVξ, hSbξ⟩, rfl, hLVξ⟩ := hφ
  have hi1ξ := zp_int tk1
  have hi2ξ := zp_int tk2
  show zp_J p l e R s m args below meth c Q w u [] 0 [(0, 2, (A 0 : Int)), (1, 0, p1ξ), (2, 0, p2ξ)] [] u.1 (zp_n u.2.1)
  refine zp_load (pc := 0) hx hb (zd_X12_isBarred (0, .aload_n 0, 1, 0, []) (List.mem_of_getElem? (i := 0) rfl)) rfl (j := 0) rfl ?_
  refine zp_load (pc := 1) hx hb (zd_X12_isBarred (1, .aload_n 0, 1, 0, []) (List.mem_of_getElem? (i := 1) rfl)) rfl (j := 0) rfl ?_
  refine zp_getf (n := (A 3 : Int)) (pc := 2) hx hb hEξ hwξ (zd_X12_isBarred (2, .getfield 13, 3, 0, []) (List.mem_of_getElem? (i := 2) rfl)) (j := 21) rfl rfl rfl (zM_P hMξ (List.mem_of_getElem? (i := 0) rfl)) ((zM_G hMξ (List.mem_of_getElem? (i := 0) rfl) 3).trans (zM_F hMξ (List.mem_of_getElem? (i := 1) rfl))) ?_
  refine zp_const (pc := 5) hx hb (zd_X12_isBarred (5, .bipush 10, 2, 0, []) (List.mem_of_getElem? (i := 3) rfl)) rfl rfl ?_
  refine zp_ialdT (j := 10) (v := (V 3 (2000 + 10))) (pc := 7) hx hb hwξ (zd_X12_isBarred (7, .iaload, 1, 0, []) (List.mem_of_getElem? (i := 4) rfl)) zl_T59 rfl (zl_kd 10) (zM_P hMξ (List.mem_of_getElem? (i := 2) rfl)) (by omega) (show 10 < 5580 by omega) ((zM_G hMξ (List.mem_of_getElem? (i := 2) rfl) (2000 + 10)).trans (hVξ 3 (2000 + 10) (Or.inl (by decide)))) (fun _ => ?_)
  have hr276ξ := hLVξ.1 10 (by omega)
  refine zp_const (pc := 8) hx hb (zd_X12_isBarred (8, .iconst (-1), 1, 0, []) (List.mem_of_getElem? (i := 5) rfl)) rfl rfl ?_
  refine zp_icmp (pc := 9) (tgt := 16) hx hb (zd_X12_isBarred (9, .if_icmp .ne 7, 3, 0, []) (List.mem_of_getElem? (i := 6) rfl)) rfl (fun (hc277ξ : ¬ (V 3 (2000 + 10)) = (-1)) => ?_) (fun (hc277ξ : ¬ (¬ (V 3 (2000 + 10)) = (-1))) => ?_)
  · refine zp_load (pc := 16) hx hb (zd_X12_isBarred (16, .aload_n 0, 1, 0, []) (List.mem_of_getElem? (i := 9) rfl)) rfl (j := 0) rfl ?_
    refine zp_getf (n := (A 3 : Int)) (pc := 17) hx hb hEξ hwξ (zd_X12_isBarred (17, .getfield 13, 3, 0, []) (List.mem_of_getElem? (i := 10) rfl)) (j := 21) rfl rfl rfl (zM_P hMξ (List.mem_of_getElem? (i := 0) rfl)) ((zM_G hMξ (List.mem_of_getElem? (i := 0) rfl) 3).trans (zM_F hMξ (List.mem_of_getElem? (i := 1) rfl))) ?_
    refine zp_const (pc := 20) hx hb (zd_X12_isBarred (20, .bipush 10, 2, 0, []) (List.mem_of_getElem? (i := 11) rfl)) rfl rfl ?_
    refine zp_ialdT (j := 10) (v := (V 3 (2000 + 10))) (pc := 22) hx hb hwξ (zd_X12_isBarred (22, .iaload, 1, 0, []) (List.mem_of_getElem? (i := 12) rfl)) zl_T59 rfl (zl_kd 10) (zM_P hMξ (List.mem_of_getElem? (i := 2) rfl)) (by omega) (show 10 < 5580 by omega) ((zM_G hMξ (List.mem_of_getElem? (i := 2) rfl) (2000 + 10)).trans (hVξ 3 (2000 + 10) (Or.inl (by decide)))) (fun _ => ?_)
    refine zp_const (pc := 23) hx hb (zd_X12_isBarred (23, .iconst (-1), 1, 0, []) (List.mem_of_getElem? (i := 13) rfl)) rfl rfl ?_
    refine zp_const (pc := 24) hx hb (zd_X12_isBarred (24, .iconst (-1), 1, 0, []) (List.mem_of_getElem? (i := 14) rfl)) rfl rfl ?_
    refine zp_load (pc := 25) hx hb (zd_X12_isBarred (25, .iload_n 1, 1, 0, []) (List.mem_of_getElem? (i := 15) rfl)) rfl (j := 1) rfl ?_
    have hSqzξ : ∀ j, j < 13 → -2147483648 ≤ (fun j => M 35 (2000 + j)) j ∧ (fun j => M 35 (2000 + j)) j ≤ 2147483648 := hSbξ
    have hMqhξ : zM A zYr zFr M u.1 (zp_n u.2.1) := hMξ
    have hVqhξ : ∀ o k, zNs o k → M o k = V o k := hVξ
    have hSqhξ : zSb M := hSbξ
    have hLqhξ : zLV V Lwξ := hLVξ
    refine zp_call (pc := 26) (how := 0) (idx := 417) (mi := 239) (S := []) hx hb hEξ hwξ heffξ hrmξ (zX_shr hWξ (A 3) (A 35) (fun j => V 3 (2000 + j)) (fun j => M 35 (2000 + j))) rfl (j := 39) rfl rfl (by decide +kernel) (zd_X12_isBarred (26, .invokevirtual 417, 3, 0, []) (List.mem_of_getElem? (i := 16) rfl)) [(A 0 : Int), (V 3 (2000 + 10)), (-1), (-1), p1ξ] rfl ⟨zp_o2 (zM_P hMξ (List.mem_of_getElem? (i := 0) rfl)), zp_o0 (by omega) (by omega) (by omega) (by omega), zp_o0 (by omega) (by omega) (by omega) (by omega), zp_o0 (by omega) (by omega) (by omega) (by omega), zp_o0 (by omega) (by omega) (by omega) (by omega), trivial⟩ (Nat.le_of_ble_eq_true rfl) ⟨⟨(zM_G hMqhξ (List.mem_of_getElem? (i := 0) rfl) 3).trans (zM_F hMqhξ (List.mem_of_getElem? (i := 1) rfl)), (zM_G hMqhξ (List.mem_of_getElem? (i := 0) rfl) 35).trans (zM_F hMqhξ (List.mem_of_getElem? (i := 17) rfl)), fun j => (zM_G hMqhξ (List.mem_of_getElem? (i := 2) rfl) (2000 + j)).trans (hVqhξ 3 _ (Or.inl (by decide))), fun j => zM_G hMqhξ (List.mem_of_getElem? (i := 18) rfl) (2000 + j)⟩, zM_P hMqhξ (List.mem_of_getElem? (i := 2) rfl), zM_P hMqhξ (List.mem_of_getElem? (i := 18) rfl), hLqhξ.1⟩ (fun al halξ rnh Ph Gh hexthξ hfrhξ hokhξ hcshξ hpsihξ => ?_)
    obtain rfl := List.mem_singleton.mp halξ
    obtain ⟨hPehξ, hthξ⟩ := hpsihξ
    have hMhξ := zM_eff (eff := [(75, 1001, 0)]) hMqhξ hfrhξ hexthξ (zM_fb (by decide +kernel))
    subst hPehξ
    obtain ⟨Mh, hMhξ, hMfhξ⟩ := hMhξ
    have hVhξ : ∀ o k, zNs o k → Mh o k = V o k := fun o k hkξ => (zMf_5 hMfhξ hkξ).trans (hVqhξ o k hkξ)
    clear hMfhξ hfrhξ hexthξ hokhξ hcshξ hVqhξ hMqhξ hSqhξ
    have hS9ξ : ∀ j, Mh 35 (2000 + j) = zg_sh (fun j => M 35 (2000 + j)) (V 3 (2000 + 10)) (-1) (-1) p1ξ (zg_po (fun j => V 3 (2000 + j)) 0 p1ξ) (zg_po (fun j => V 3 (2000 + j)) 2 p1ξ) j := fun j => (zM_G hMhξ (List.mem_of_getElem? (i := 18) rfl) (2000 + j)).symm.trans (hthξ j)
    have htuξ : (V 3 (2000 + 10)) = zd_tu V := by
      unfold zd_tu
      first | exact (if_pos (by omega)).symm | exact (if_neg (by omega)).symm
    have hSbhξ := zg_shb (t := (V 3 (2000 + 10))) (pw := -1) (h := -1) (p := p1ξ) (o := zg_po (fun j => V 3 (2000 + j)) 0 p1ξ) (l := p2ξ) hSqzξ (by omega) (by omega) (by omega) (by omega) (zg_pob hLqhξ.1 (by decide) (by omega)) (by omega)
    refine zp_load (pc := 29) hx hb (zd_X12_isBarred (29, .aload_n 0, 1, 0, []) (List.mem_of_getElem? (i := 17) rfl)) rfl (j := 0) rfl ?_
    refine zp_getf (n := (A 35 : Int)) (pc := 30) hx hb hEξ hwξ (zd_X12_isBarred (30, .getfield 101, 3, 0, []) (List.mem_of_getElem? (i := 18) rfl)) (j := 53) rfl rfl rfl (zM_P hMhξ (List.mem_of_getElem? (i := 0) rfl)) ((zM_G hMhξ (List.mem_of_getElem? (i := 0) rfl) 35).trans (zM_F hMhξ (List.mem_of_getElem? (i := 17) rfl))) ?_
    refine zp_const (pc := 33) hx hb (zd_X12_isBarred (33, .bipush 6, 2, 0, []) (List.mem_of_getElem? (i := 19) rfl)) rfl rfl ?_
    refine zp_load (pc := 35) hx hb (zd_X12_isBarred (35, .iload_n 2, 1, 0, []) (List.mem_of_getElem? (i := 20) rfl)) rfl (j := 2) rfl ?_
    refine zp_i2l (pc := 36) hx hb (zd_X12_isBarred (36, .i2l, 1, 0, []) (List.mem_of_getElem? (i := 21) rfl)) ?_
    refine zp_lasi (j := 6) (pc := 37) hx hb hwξ heffξ (zd_X12_isBarred (37, .lastore, 1, 0, []) (List.mem_of_getElem? (i := 22) rfl)) (show zp_ia 2 75 = some (13, 1, 0, (-2147483648), 2147483647) from rfl) (zM_P hMhξ (List.mem_of_getElem? (i := 18) rfl)) (by omega) (by omega) (by omega) rfl ?_
    refine zp_load (pc := 38) hx hb (zd_X12_isBarred (38, .aload_n 0, 1, 0, []) (List.mem_of_getElem? (i := 23) rfl)) rfl (j := 0) rfl ?_
    refine zp_const (pc := 39) hx hb (zd_X12_isBarred (39, .iconst 4, 1, 0, []) (List.mem_of_getElem? (i := 24) rfl)) rfl rfl ?_
    refine zp_const (pc := 40) hx hb (zd_X12_isBarred (40, .lconst 0, 1, 0, []) (List.mem_of_getElem? (i := 25) rfl)) rfl rfl ?_
    have hMtξ : zM A zYr zFr (zp_set Mh 35 (2000 + 6) p2ξ) u.1 (zp_set Gh (A 35) (2000 + 6) p2ξ) := (zM_setE hMhξ (List.mem_of_getElem? (i := 18) rfl))
    have hW9ξ : ∀ j, (zp_set Gh (A 35) (2000 + 6) p2ξ) (A 35) (2000 + j) = (zg_sh (fun j => M 35 (2000 + j)) (V 3 (2000 + 10)) (-1) (-1) p1ξ (zg_po (fun j => V 3 (2000 + j)) 0 p1ξ) p2ξ) j := fun j => by
      rw [zM_G hMtξ (List.mem_of_getElem? (i := 18) rfl) (2000 + j)]
      by_cases e6 : j = 6
      · rw [e6]
        exact zp_set_self
      · rw [zp_set_ne (Or.inr (by omega)), hS9ξ]
        unfold zg_sh
        rw [if_neg e6, if_neg e6]
    have hR9ξ : ∀ j, (zp_set Gh (A 35) (2000 + 6) p2ξ) (A 3) (2000 + j) = (fun j => V 3 (2000 + j)) j := fun j => (zM_G hMtξ (List.mem_of_getElem? (i := 2) rfl) (2000 + j)).trans ((zp_set_ne (Or.inl (by decide))).trans (hVhξ 3 _ (Or.inl (by decide))))
    have h209ξ : (zp_set Gh (A 35) (2000 + 6) p2ξ) (A 0) 20 = 0 := (zM_G hMtξ (List.mem_of_getElem? (i := 0) rfl) 20).trans ((zp_set_ne (Or.inl (by decide))).trans ((hVhξ 0 20 (Or.inr (by decide))).trans hLqhξ.2.2.2.2))
    have h39ξ : (zp_set Gh (A 35) (2000 + 6) p2ξ) (A 0) 3 = (A 3 : Int) := (zM_G hMtξ (List.mem_of_getElem? (i := 0) rfl) 3).trans (zM_F hMtξ (List.mem_of_getElem? (i := 1) rfl))
    have h359ξ : (zp_set Gh (A 35) (2000 + 6) p2ξ) (A 0) 35 = (A 35 : Int) := (zM_G hMtξ (List.mem_of_getElem? (i := 0) rfl) 35).trans (zM_F hMtξ (List.mem_of_getElem? (i := 17) rfl))
    have h379ξ : (zp_set Gh (A 35) (2000 + 6) p2ξ) (A 0) 37 = (A 37 : Int) := (zM_G hMtξ (List.mem_of_getElem? (i := 0) rfl) 37).trans (zM_F hMtξ (List.mem_of_getElem? (i := 19) rfl))
    have hE9ξ : zy_ba (zg_en (zg_st (zg_sh (fun j => M 35 (2000 + j)) (V 3 (2000 + 10)) (-1) (-1) p1ξ (zg_po (fun j => V 3 (2000 + j)) 0 p1ξ) p2ξ) (fun j => V 3 (2000 + j)))) Lwξ = zd_ba V Lwξ p1ξ p2ξ := by
      unfold zd_ba
      rw [← htuξ]
      exact zy_ba_9' hLqhξ.2.2.1
    rcases hLqhξ.2.1 with ⟨r4, hM0ξ⟩ | ⟨i, hi6ξ, r4, hM1ξ, hM12ξ, hMsξ⟩
    · refine zp_call (pc := 41) (how := 0) (idx := 423) (mi := 240) (S := []) hx hb hEξ hwξ heffξ hrmξ (zX_tl0 hWξ (A 3)) rfl (j := 40) rfl rfl (by decide +kernel) (zd_X12_isBarred (41, .invokevirtual 423, 3, 0, []) (List.mem_of_getElem? (i := 26) rfl)) [(A 0 : Int), 4, 0] rfl ⟨zp_o2 (zM_P hMhξ (List.mem_of_getElem? (i := 0) rfl)), zp_o0 (by decide) (by decide) (by decide) (by decide), zp_o1 (zp_r1 (by omega) (by omega)), trivial⟩ (Nat.le_of_ble_eq_true rfl) ⟨h39ξ, zM_P hMtξ (List.mem_of_getElem? (i := 2) rfl), (hR9ξ 4).trans r4⟩ (fun al halξ rnt Pt Gt hexttξ hfrtξ hoktξ hcstξ hpsitξ => ?_)
      obtain rfl := List.mem_singleton.mp halξ
      obtain ⟨hPtξ, hGtξ, hrtξ⟩ := hpsitξ
      have hrtξ : rnt = 0 := hrtξ
      subst hrtξ
      rw [hPtξ, hGtξ]
      have hz9ξ : zd_ba V Lwξ p1ξ p2ξ = 0 := by rw [← hE9ξ, hM0ξ]; rfl
      refine zp_const (pc := 44) hx hb (zd_X12_isBarred (44, .lconst 1, 1, 0, []) (List.mem_of_getElem? (i := 27) rfl)) rfl rfl ?_
      refine zp_lcmp (pc := 45) (tgt := 53) hx hb (zd_X12_isBarred (45, .lcmp, 1, 0, []) (List.mem_of_getElem? (i := 28) rfl)) (zd_X12_isBarred (46, .ifCond .ne 7, 3, 0, []) (List.mem_of_getElem? (i := 29) rfl)) rfl (fun (hc279ξ : ¬ (0 : Int) = 1) => ?_) (fun (hc279ξ : ¬ (¬ (0 : Int) = 1)) => ?_)
      · refine zp_const (pc := 53) hx hb (zd_X12_isBarred (53, .iconst 0, 1, 0, []) (List.mem_of_getElem? (i := 32) rfl)) rfl rfl ?_
        refine zp_zret (pc := 54) (n := 0) hx hb hEξ hQξ hU5ξ rfl (by decide) (zd_X12_isBarred (54, .ireturn, 1, 0, []) (List.mem_of_getElem? (i := 33) rfl)) (j := 0) rfl (zp_o0 (by omega) (by omega) (by omega) (by omega)) ?_
        rw [hpsξ]
        refine ⟨rfl, ?_⟩
        refine ⟨⟨_, hMtξ, fun o k hkξ => (zp_set_ne (zNs_ne hkξ (by decide))).trans (hVhξ o k hkξ), fun j hjξ => ?_⟩, (show (0 : Int) = 1 ↔ zd_ba V Lwξ p1ξ p2ξ = 1 by rw [hz9ξ])⟩
        rw [← zM_G hMtξ (List.mem_of_getElem? (i := 18) rfl) (2000 + j), hW9ξ]
        exact hSbhξ j hjξ
      · exfalso
        omega
    · refine zp_call (pc := 41) (how := 0) (idx := 423) (mi := 240) (S := []) hx hb hEξ hwξ heffξ hrmξ (zX_tel hWξ (A 3) (A 35) (A 37) i (fun j => V 3 (2000 + j)) (zg_sh (fun j => M 35 (2000 + j)) (V 3 (2000 + 10)) (-1) (-1) p1ξ (zg_po (fun j => V 3 (2000 + j)) 0 p1ξ) p2ξ) Lwξ) rfl (j := 40) rfl rfl (by decide +kernel) (zd_X12_isBarred (41, .invokevirtual 423, 3, 0, []) (List.mem_of_getElem? (i := 26) rfl)) [(A 0 : Int), 4, 0] rfl ⟨zp_o2 (zM_P hMhξ (List.mem_of_getElem? (i := 0) rfl)), zp_o0 (by decide) (by decide) (by decide) (by decide), zp_o1 (zp_r1 (by omega) (by omega)), trivial⟩ (Nat.le_of_ble_eq_true rfl) ⟨⟨h209ξ, h39ξ, h359ξ, h379ξ, hR9ξ, hW9ξ⟩, zM_P hMtξ (List.mem_of_getElem? (i := 2) rfl), zM_P hMtξ (List.mem_of_getElem? (i := 18) rfl), zM_P hMtξ (List.mem_of_getElem? (i := 20) rfl), hi6ξ, r4, hLqhξ.1, hSbhξ, hM1ξ, hM12ξ, hMsξ⟩ (fun al halξ rnt Pt Gt hexttξ hfrtξ hoktξ hcstξ hpsitξ => ?_)
      obtain rfl := List.mem_singleton.mp halξ
      obtain ⟨hPtξ, ⟨hvtξ, hntξ⟩, hWtξ⟩ := hpsitξ
      have hvtξ : ∀ v, yw (zg_en (zg_st (zg_sh (fun j => M 35 (2000 + j)) (V 3 (2000 + 10)) (-1) (-1) p1ξ (zg_po (fun j => V 3 (2000 + j)) 0 p1ξ) p2ξ) (fun j => V 3 (2000 + j)))) 4 Lwξ = some v → rnt = v ∧ -2147483648 ≤ v ∧ v ≤ 2147483648 := hvtξ
      have hntξ : yw (zg_en (zg_st (zg_sh (fun j => M 35 (2000 + j)) (V 3 (2000 + 10)) (-1) (-1) p1ξ (zg_po (fun j => V 3 (2000 + j)) 0 p1ξ) p2ξ) (fun j => V 3 (2000 + j)))) 4 Lwξ = none → rnt = 0 := hntξ
      have hMeξ := zM_eff (eff := [(13, 34, 0), (75, 1001, 0), (13, 38, 0), (13, 39, 0), (13, 40, 0), (77, 1001, 0)]) hMtξ hfrtξ hexttξ (zM_fb (by decide +kernel))
      subst hPtξ
      obtain ⟨Mt, hMt2ξ, hMftξ⟩ := hMeξ
      have hVtξ : ∀ o k, zNs o k → Mt o k = V o k := fun o k hkξ => (zMf_s hMftξ hkξ).trans ((fun o k hkξ => (zp_set_ne (zNs_ne hkξ (by decide))).trans (hVhξ o k hkξ)) o k hkξ)
      have hSt2ξ : zSb Mt := fun j hjξ => by
        rw [← zM_G hMt2ξ (List.mem_of_getElem? (i := 18) rfl) (2000 + j), hWtξ]
        exact zg_stb hLqhξ.1 hSbhξ j hjξ
      have hr9ξ : zk_rg 1 rnt := (hoktξ _ rfl).1.2.2
      have hz9ξ : (rnt = 1 ↔ zd_ba V Lwξ p1ξ p2ξ = 1) := by
        rw [← hE9ξ]
        cases hyξ : yw (zg_en (zg_st (zg_sh (fun j => M 35 (2000 + j)) (V 3 (2000 + 10)) (-1) (-1) p1ξ (zg_po (fun j => V 3 (2000 + j)) 0 p1ξ) p2ξ) (fun j => V 3 (2000 + j)))) 4 Lwξ with
        | none => rw [hntξ hyξ, zy_ba_n hyξ]
        | some v => rw [(hvtξ v hyξ).1, zy_ba_s hyξ, yw_ba hLqhξ.2.2.2.1 hyξ]
      refine zp_const (pc := 44) hx hb (zd_X12_isBarred (44, .lconst 1, 1, 0, []) (List.mem_of_getElem? (i := 27) rfl)) rfl rfl ?_
      refine zp_lcmp (pc := 45) (tgt := 53) hx hb (zd_X12_isBarred (45, .lcmp, 1, 0, []) (List.mem_of_getElem? (i := 28) rfl)) (zd_X12_isBarred (46, .ifCond .ne 7, 3, 0, []) (List.mem_of_getElem? (i := 29) rfl)) rfl (fun (hc280ξ : ¬ rnt = 1) => ?_) (fun (hc280ξ : ¬ (¬ rnt = 1)) => ?_)
      · refine zp_const (pc := 53) hx hb (zd_X12_isBarred (53, .iconst 0, 1, 0, []) (List.mem_of_getElem? (i := 32) rfl)) rfl rfl ?_
        refine zp_zret (pc := 54) (n := 0) hx hb hEξ hQξ hU5ξ rfl (by decide) (zd_X12_isBarred (54, .ireturn, 1, 0, []) (List.mem_of_getElem? (i := 33) rfl)) (j := 0) rfl (zp_o0 (by omega) (by omega) (by omega) (by omega)) ?_
        rw [hpsξ]
        refine ⟨rfl, ?_⟩
        refine ⟨⟨Mt, hMt2ξ, hVtξ, hSt2ξ⟩, ?_⟩
        show (0 : Int) = 1 ↔ zd_ba V Lwξ p1ξ p2ξ = 1
        rw [← hz9ξ]
        omega
      · refine zp_const (pc := 49) hx hb (zd_X12_isBarred (49, .iconst 1, 1, 0, []) (List.mem_of_getElem? (i := 30) rfl)) rfl rfl ?_
        refine zp_goto (tgt := 54) (pc := 50) hx hb (zd_X12_isBarred (50, .goto 4, 3, 0, []) (List.mem_of_getElem? (i := 31) rfl)) rfl ?_
        refine zp_zret (pc := 54) (n := 1) hx hb hEξ hQξ hU5ξ rfl (by decide) (zd_X12_isBarred (54, .ireturn, 1, 0, []) (List.mem_of_getElem? (i := 33) rfl)) (j := 0) rfl (zp_o0 (by omega) (by omega) (by omega) (by omega)) ?_
        rw [hpsξ]
        refine ⟨rfl, ?_⟩
        refine ⟨⟨Mt, hMt2ξ, hVtξ, hSt2ξ⟩, ?_⟩
        show (1 : Int) = 1 ↔ zd_ba V Lwξ p1ξ p2ξ = 1
        rw [← hz9ξ]
        omega
  · refine zp_const (pc := 12) hx hb (zd_X12_isBarred (12, .iconst 0, 1, 0, []) (List.mem_of_getElem? (i := 7) rfl)) rfl rfl ?_
    refine zp_goto (tgt := 23) (pc := 13) hx hb (zd_X12_isBarred (13, .goto 10, 3, 0, []) (List.mem_of_getElem? (i := 8) rfl)) rfl ?_
    refine zp_const (pc := 23) hx hb (zd_X12_isBarred (23, .iconst (-1), 1, 0, []) (List.mem_of_getElem? (i := 13) rfl)) rfl rfl ?_
    refine zp_const (pc := 24) hx hb (zd_X12_isBarred (24, .iconst (-1), 1, 0, []) (List.mem_of_getElem? (i := 14) rfl)) rfl rfl ?_
    refine zp_load (pc := 25) hx hb (zd_X12_isBarred (25, .iload_n 1, 1, 0, []) (List.mem_of_getElem? (i := 15) rfl)) rfl (j := 1) rfl ?_
    have hSqzξ : ∀ j, j < 13 → -2147483648 ≤ (fun j => M 35 (2000 + j)) j ∧ (fun j => M 35 (2000 + j)) j ≤ 2147483648 := hSbξ
    have hMqhξ : zM A zYr zFr M u.1 (zp_n u.2.1) := hMξ
    have hVqhξ : ∀ o k, zNs o k → M o k = V o k := hVξ
    have hSqhξ : zSb M := hSbξ
    have hLqhξ : zLV V Lwξ := hLVξ
    refine zp_call (pc := 26) (how := 0) (idx := 417) (mi := 239) (S := []) hx hb hEξ hwξ heffξ hrmξ (zX_shr hWξ (A 3) (A 35) (fun j => V 3 (2000 + j)) (fun j => M 35 (2000 + j))) rfl (j := 39) rfl rfl (by decide +kernel) (zd_X12_isBarred (26, .invokevirtual 417, 3, 0, []) (List.mem_of_getElem? (i := 16) rfl)) [(A 0 : Int), 0, (-1), (-1), p1ξ] rfl ⟨zp_o2 (zM_P hMξ (List.mem_of_getElem? (i := 0) rfl)), zp_o0 (by omega) (by omega) (by omega) (by omega), zp_o0 (by omega) (by omega) (by omega) (by omega), zp_o0 (by omega) (by omega) (by omega) (by omega), zp_o0 (by omega) (by omega) (by omega) (by omega), trivial⟩ (Nat.le_of_ble_eq_true rfl) ⟨⟨(zM_G hMqhξ (List.mem_of_getElem? (i := 0) rfl) 3).trans (zM_F hMqhξ (List.mem_of_getElem? (i := 1) rfl)), (zM_G hMqhξ (List.mem_of_getElem? (i := 0) rfl) 35).trans (zM_F hMqhξ (List.mem_of_getElem? (i := 17) rfl)), fun j => (zM_G hMqhξ (List.mem_of_getElem? (i := 2) rfl) (2000 + j)).trans (hVqhξ 3 _ (Or.inl (by decide))), fun j => zM_G hMqhξ (List.mem_of_getElem? (i := 18) rfl) (2000 + j)⟩, zM_P hMqhξ (List.mem_of_getElem? (i := 2) rfl), zM_P hMqhξ (List.mem_of_getElem? (i := 18) rfl), hLqhξ.1⟩ (fun al halξ rnh Ph Gh hexthξ hfrhξ hokhξ hcshξ hpsihξ => ?_)
    obtain rfl := List.mem_singleton.mp halξ
    obtain ⟨hPehξ, hthξ⟩ := hpsihξ
    have hMhξ := zM_eff (eff := [(75, 1001, 0)]) hMqhξ hfrhξ hexthξ (zM_fb (by decide +kernel))
    subst hPehξ
    obtain ⟨Mh, hMhξ, hMfhξ⟩ := hMhξ
    have hVhξ : ∀ o k, zNs o k → Mh o k = V o k := fun o k hkξ => (zMf_5 hMfhξ hkξ).trans (hVqhξ o k hkξ)
    clear hMfhξ hfrhξ hexthξ hokhξ hcshξ hVqhξ hMqhξ hSqhξ
    have hS9ξ : ∀ j, Mh 35 (2000 + j) = zg_sh (fun j => M 35 (2000 + j)) 0 (-1) (-1) p1ξ (zg_po (fun j => V 3 (2000 + j)) 0 p1ξ) (zg_po (fun j => V 3 (2000 + j)) 2 p1ξ) j := fun j => (zM_G hMhξ (List.mem_of_getElem? (i := 18) rfl) (2000 + j)).symm.trans (hthξ j)
    have htuξ : 0 = zd_tu V := by
      unfold zd_tu
      first | exact (if_pos (by omega)).symm | exact (if_neg (by omega)).symm
    have hSbhξ := zg_shb (t := 0) (pw := -1) (h := -1) (p := p1ξ) (o := zg_po (fun j => V 3 (2000 + j)) 0 p1ξ) (l := p2ξ) hSqzξ (by omega) (by omega) (by omega) (by omega) (zg_pob hLqhξ.1 (by decide) (by omega)) (by omega)
    refine zp_load (pc := 29) hx hb (zd_X12_isBarred (29, .aload_n 0, 1, 0, []) (List.mem_of_getElem? (i := 17) rfl)) rfl (j := 0) rfl ?_
    refine zp_getf (n := (A 35 : Int)) (pc := 30) hx hb hEξ hwξ (zd_X12_isBarred (30, .getfield 101, 3, 0, []) (List.mem_of_getElem? (i := 18) rfl)) (j := 53) rfl rfl rfl (zM_P hMhξ (List.mem_of_getElem? (i := 0) rfl)) ((zM_G hMhξ (List.mem_of_getElem? (i := 0) rfl) 35).trans (zM_F hMhξ (List.mem_of_getElem? (i := 17) rfl))) ?_
    refine zp_const (pc := 33) hx hb (zd_X12_isBarred (33, .bipush 6, 2, 0, []) (List.mem_of_getElem? (i := 19) rfl)) rfl rfl ?_
    refine zp_load (pc := 35) hx hb (zd_X12_isBarred (35, .iload_n 2, 1, 0, []) (List.mem_of_getElem? (i := 20) rfl)) rfl (j := 2) rfl ?_
    refine zp_i2l (pc := 36) hx hb (zd_X12_isBarred (36, .i2l, 1, 0, []) (List.mem_of_getElem? (i := 21) rfl)) ?_
    refine zp_lasi (j := 6) (pc := 37) hx hb hwξ heffξ (zd_X12_isBarred (37, .lastore, 1, 0, []) (List.mem_of_getElem? (i := 22) rfl)) (show zp_ia 2 75 = some (13, 1, 0, (-2147483648), 2147483647) from rfl) (zM_P hMhξ (List.mem_of_getElem? (i := 18) rfl)) (by omega) (by omega) (by omega) rfl ?_
    refine zp_load (pc := 38) hx hb (zd_X12_isBarred (38, .aload_n 0, 1, 0, []) (List.mem_of_getElem? (i := 23) rfl)) rfl (j := 0) rfl ?_
    refine zp_const (pc := 39) hx hb (zd_X12_isBarred (39, .iconst 4, 1, 0, []) (List.mem_of_getElem? (i := 24) rfl)) rfl rfl ?_
    refine zp_const (pc := 40) hx hb (zd_X12_isBarred (40, .lconst 0, 1, 0, []) (List.mem_of_getElem? (i := 25) rfl)) rfl rfl ?_
    have hMtξ : zM A zYr zFr (zp_set Mh 35 (2000 + 6) p2ξ) u.1 (zp_set Gh (A 35) (2000 + 6) p2ξ) := (zM_setE hMhξ (List.mem_of_getElem? (i := 18) rfl))
    have hW9ξ : ∀ j, (zp_set Gh (A 35) (2000 + 6) p2ξ) (A 35) (2000 + j) = (zg_sh (fun j => M 35 (2000 + j)) 0 (-1) (-1) p1ξ (zg_po (fun j => V 3 (2000 + j)) 0 p1ξ) p2ξ) j := fun j => by
      rw [zM_G hMtξ (List.mem_of_getElem? (i := 18) rfl) (2000 + j)]
      by_cases e6 : j = 6
      · rw [e6]
        exact zp_set_self
      · rw [zp_set_ne (Or.inr (by omega)), hS9ξ]
        unfold zg_sh
        rw [if_neg e6, if_neg e6]
    have hR9ξ : ∀ j, (zp_set Gh (A 35) (2000 + 6) p2ξ) (A 3) (2000 + j) = (fun j => V 3 (2000 + j)) j := fun j => (zM_G hMtξ (List.mem_of_getElem? (i := 2) rfl) (2000 + j)).trans ((zp_set_ne (Or.inl (by decide))).trans (hVhξ 3 _ (Or.inl (by decide))))
    have h209ξ : (zp_set Gh (A 35) (2000 + 6) p2ξ) (A 0) 20 = 0 := (zM_G hMtξ (List.mem_of_getElem? (i := 0) rfl) 20).trans ((zp_set_ne (Or.inl (by decide))).trans ((hVhξ 0 20 (Or.inr (by decide))).trans hLqhξ.2.2.2.2))
    have h39ξ : (zp_set Gh (A 35) (2000 + 6) p2ξ) (A 0) 3 = (A 3 : Int) := (zM_G hMtξ (List.mem_of_getElem? (i := 0) rfl) 3).trans (zM_F hMtξ (List.mem_of_getElem? (i := 1) rfl))
    have h359ξ : (zp_set Gh (A 35) (2000 + 6) p2ξ) (A 0) 35 = (A 35 : Int) := (zM_G hMtξ (List.mem_of_getElem? (i := 0) rfl) 35).trans (zM_F hMtξ (List.mem_of_getElem? (i := 17) rfl))
    have h379ξ : (zp_set Gh (A 35) (2000 + 6) p2ξ) (A 0) 37 = (A 37 : Int) := (zM_G hMtξ (List.mem_of_getElem? (i := 0) rfl) 37).trans (zM_F hMtξ (List.mem_of_getElem? (i := 19) rfl))
    have hE9ξ : zy_ba (zg_en (zg_st (zg_sh (fun j => M 35 (2000 + j)) 0 (-1) (-1) p1ξ (zg_po (fun j => V 3 (2000 + j)) 0 p1ξ) p2ξ) (fun j => V 3 (2000 + j)))) Lwξ = zd_ba V Lwξ p1ξ p2ξ := by
      unfold zd_ba
      rw [← htuξ]
      exact zy_ba_9' hLqhξ.2.2.1
    rcases hLqhξ.2.1 with ⟨r4, hM0ξ⟩ | ⟨i, hi6ξ, r4, hM1ξ, hM12ξ, hMsξ⟩
    · refine zp_call (pc := 41) (how := 0) (idx := 423) (mi := 240) (S := []) hx hb hEξ hwξ heffξ hrmξ (zX_tl0 hWξ (A 3)) rfl (j := 40) rfl rfl (by decide +kernel) (zd_X12_isBarred (41, .invokevirtual 423, 3, 0, []) (List.mem_of_getElem? (i := 26) rfl)) [(A 0 : Int), 4, 0] rfl ⟨zp_o2 (zM_P hMhξ (List.mem_of_getElem? (i := 0) rfl)), zp_o0 (by decide) (by decide) (by decide) (by decide), zp_o1 (zp_r1 (by omega) (by omega)), trivial⟩ (Nat.le_of_ble_eq_true rfl) ⟨h39ξ, zM_P hMtξ (List.mem_of_getElem? (i := 2) rfl), (hR9ξ 4).trans r4⟩ (fun al halξ rnt Pt Gt hexttξ hfrtξ hoktξ hcstξ hpsitξ => ?_)
      obtain rfl := List.mem_singleton.mp halξ
      obtain ⟨hPtξ, hGtξ, hrtξ⟩ := hpsitξ
      have hrtξ : rnt = 0 := hrtξ
      subst hrtξ
      rw [hPtξ, hGtξ]
      have hz9ξ : zd_ba V Lwξ p1ξ p2ξ = 0 := by rw [← hE9ξ, hM0ξ]; rfl
      refine zp_const (pc := 44) hx hb (zd_X12_isBarred (44, .lconst 1, 1, 0, []) (List.mem_of_getElem? (i := 27) rfl)) rfl rfl ?_
      refine zp_lcmp (pc := 45) (tgt := 53) hx hb (zd_X12_isBarred (45, .lcmp, 1, 0, []) (List.mem_of_getElem? (i := 28) rfl)) (zd_X12_isBarred (46, .ifCond .ne 7, 3, 0, []) (List.mem_of_getElem? (i := 29) rfl)) rfl (fun (hc281ξ : ¬ (0 : Int) = 1) => ?_) (fun (hc281ξ : ¬ (¬ (0 : Int) = 1)) => ?_)
      · refine zp_const (pc := 53) hx hb (zd_X12_isBarred (53, .iconst 0, 1, 0, []) (List.mem_of_getElem? (i := 32) rfl)) rfl rfl ?_
        refine zp_zret (pc := 54) (n := 0) hx hb hEξ hQξ hU5ξ rfl (by decide) (zd_X12_isBarred (54, .ireturn, 1, 0, []) (List.mem_of_getElem? (i := 33) rfl)) (j := 0) rfl (zp_o0 (by omega) (by omega) (by omega) (by omega)) ?_
        rw [hpsξ]
        refine ⟨rfl, ?_⟩
        refine ⟨⟨_, hMtξ, fun o k hkξ => (zp_set_ne (zNs_ne hkξ (by decide))).trans (hVhξ o k hkξ), fun j hjξ => ?_⟩, (show (0 : Int) = 1 ↔ zd_ba V Lwξ p1ξ p2ξ = 1 by rw [hz9ξ])⟩
        rw [← zM_G hMtξ (List.mem_of_getElem? (i := 18) rfl) (2000 + j), hW9ξ]
        exact hSbhξ j hjξ
      · exfalso
        omega
    · refine zp_call (pc := 41) (how := 0) (idx := 423) (mi := 240) (S := []) hx hb hEξ hwξ heffξ hrmξ (zX_tel hWξ (A 3) (A 35) (A 37) i (fun j => V 3 (2000 + j)) (zg_sh (fun j => M 35 (2000 + j)) 0 (-1) (-1) p1ξ (zg_po (fun j => V 3 (2000 + j)) 0 p1ξ) p2ξ) Lwξ) rfl (j := 40) rfl rfl (by decide +kernel) (zd_X12_isBarred (41, .invokevirtual 423, 3, 0, []) (List.mem_of_getElem? (i := 26) rfl)) [(A 0 : Int), 4, 0] rfl ⟨zp_o2 (zM_P hMhξ (List.mem_of_getElem? (i := 0) rfl)), zp_o0 (by decide) (by decide) (by decide) (by decide), zp_o1 (zp_r1 (by omega) (by omega)), trivial⟩ (Nat.le_of_ble_eq_true rfl) ⟨⟨h209ξ, h39ξ, h359ξ, h379ξ, hR9ξ, hW9ξ⟩, zM_P hMtξ (List.mem_of_getElem? (i := 2) rfl), zM_P hMtξ (List.mem_of_getElem? (i := 18) rfl), zM_P hMtξ (List.mem_of_getElem? (i := 20) rfl), hi6ξ, r4, hLqhξ.1, hSbhξ, hM1ξ, hM12ξ, hMsξ⟩ (fun al halξ rnt Pt Gt hexttξ hfrtξ hoktξ hcstξ hpsitξ => ?_)
      obtain rfl := List.mem_singleton.mp halξ
      obtain ⟨hPtξ, ⟨hvtξ, hntξ⟩, hWtξ⟩ := hpsitξ
      have hvtξ : ∀ v, yw (zg_en (zg_st (zg_sh (fun j => M 35 (2000 + j)) 0 (-1) (-1) p1ξ (zg_po (fun j => V 3 (2000 + j)) 0 p1ξ) p2ξ) (fun j => V 3 (2000 + j)))) 4 Lwξ = some v → rnt = v ∧ -2147483648 ≤ v ∧ v ≤ 2147483648 := hvtξ
      have hntξ : yw (zg_en (zg_st (zg_sh (fun j => M 35 (2000 + j)) 0 (-1) (-1) p1ξ (zg_po (fun j => V 3 (2000 + j)) 0 p1ξ) p2ξ) (fun j => V 3 (2000 + j)))) 4 Lwξ = none → rnt = 0 := hntξ
      have hMeξ := zM_eff (eff := [(13, 34, 0), (75, 1001, 0), (13, 38, 0), (13, 39, 0), (13, 40, 0), (77, 1001, 0)]) hMtξ hfrtξ hexttξ (zM_fb (by decide +kernel))
      subst hPtξ
      obtain ⟨Mt, hMt2ξ, hMftξ⟩ := hMeξ
      have hVtξ : ∀ o k, zNs o k → Mt o k = V o k := fun o k hkξ => (zMf_s hMftξ hkξ).trans ((fun o k hkξ => (zp_set_ne (zNs_ne hkξ (by decide))).trans (hVhξ o k hkξ)) o k hkξ)
      have hSt2ξ : zSb Mt := fun j hjξ => by
        rw [← zM_G hMt2ξ (List.mem_of_getElem? (i := 18) rfl) (2000 + j), hWtξ]
        exact zg_stb hLqhξ.1 hSbhξ j hjξ
      have hr9ξ : zk_rg 1 rnt := (hoktξ _ rfl).1.2.2
      have hz9ξ : (rnt = 1 ↔ zd_ba V Lwξ p1ξ p2ξ = 1) := by
        rw [← hE9ξ]
        cases hyξ : yw (zg_en (zg_st (zg_sh (fun j => M 35 (2000 + j)) 0 (-1) (-1) p1ξ (zg_po (fun j => V 3 (2000 + j)) 0 p1ξ) p2ξ) (fun j => V 3 (2000 + j)))) 4 Lwξ with
        | none => rw [hntξ hyξ, zy_ba_n hyξ]
        | some v => rw [(hvtξ v hyξ).1, zy_ba_s hyξ, yw_ba hLqhξ.2.2.2.1 hyξ]
      refine zp_const (pc := 44) hx hb (zd_X12_isBarred (44, .lconst 1, 1, 0, []) (List.mem_of_getElem? (i := 27) rfl)) rfl rfl ?_
      refine zp_lcmp (pc := 45) (tgt := 53) hx hb (zd_X12_isBarred (45, .lcmp, 1, 0, []) (List.mem_of_getElem? (i := 28) rfl)) (zd_X12_isBarred (46, .ifCond .ne 7, 3, 0, []) (List.mem_of_getElem? (i := 29) rfl)) rfl (fun (hc282ξ : ¬ rnt = 1) => ?_) (fun (hc282ξ : ¬ (¬ rnt = 1)) => ?_)
      · refine zp_const (pc := 53) hx hb (zd_X12_isBarred (53, .iconst 0, 1, 0, []) (List.mem_of_getElem? (i := 32) rfl)) rfl rfl ?_
        refine zp_zret (pc := 54) (n := 0) hx hb hEξ hQξ hU5ξ rfl (by decide) (zd_X12_isBarred (54, .ireturn, 1, 0, []) (List.mem_of_getElem? (i := 33) rfl)) (j := 0) rfl (zp_o0 (by omega) (by omega) (by omega) (by omega)) ?_
        rw [hpsξ]
        refine ⟨rfl, ?_⟩
        refine ⟨⟨Mt, hMt2ξ, hVtξ, hSt2ξ⟩, ?_⟩
        show (0 : Int) = 1 ↔ zd_ba V Lwξ p1ξ p2ξ = 1
        rw [← hz9ξ]
        omega
      · refine zp_const (pc := 49) hx hb (zd_X12_isBarred (49, .iconst 1, 1, 0, []) (List.mem_of_getElem? (i := 30) rfl)) rfl rfl ?_
        refine zp_goto (tgt := 54) (pc := 50) hx hb (zd_X12_isBarred (50, .goto 4, 3, 0, []) (List.mem_of_getElem? (i := 31) rfl)) rfl ?_
        refine zp_zret (pc := 54) (n := 1) hx hb hEξ hQξ hU5ξ rfl (by decide) (zd_X12_isBarred (54, .ireturn, 1, 0, []) (List.mem_of_getElem? (i := 33) rfl)) (j := 0) rfl (zp_o0 (by omega) (by omega) (by omega) (by omega)) ?_
        rw [hpsξ]
        refine ⟨rfl, ?_⟩
        refine ⟨⟨Mt, hMt2ξ, hVtξ, hSt2ξ⟩, ?_⟩
        show (1 : Int) = 1 ↔ zd_ba V Lwξ p1ξ p2ξ = 1
        rw [← hz9ξ]
        omega
theorem zf_wea_8 {V : Nat → Nat → Int} {L : List yK} {t : Int} : (zf_wea V L t).2 3 (2000 + 8) = max 0 (min 9999 (V 3 (2000 + 8) - zd_we V L t)) := by
  unfold zf_wea
  split <;> (dsimp only; rw [zp_set_ne (Or.inr (by decide)), zp_set_ne (Or.inr (by decide)), zp_set_self])
noncomputable def zf_wnn (V : Nat → Nat → Int) (nuξ : Nat) (Lwξ : List yK) (p1ξ : Int) : Int × (Nat → Nat → Int) := if 0 ≤ p1ξ ∧ p1ξ ≤ 12 then if ¬ (V 3 (2000 + 10)) = (-1) then ((-3), V) else if (V 3 (2000 + 9)) = 1 then ((-3), V) else if ¬ ((V 3 (2000 + 5)) % 7) = 6 then (((zf_wea (zT_rem V 0 nuξ) Lwξ p1ξ).2 3 (2000 + 8)), (zf_wea (zT_rem V 0 nuξ) Lwξ p1ξ).2) else if p1ξ ≤ (V 3 (2000 + 6)) then (((zf_wea (zT_rem V 0 nuξ) Lwξ p1ξ).2 3 (2000 + 8)), (zf_wea (zT_rem V 0 nuξ) Lwξ p1ξ).2) else ((-3), V) else ((-1), V)
noncomputable def zK_wnn : zk_K := (zt_mn 276, prog_14_method_99_code, 2, (Option.some Jvm.ClassFile.FieldType.int), 1, 12, [(2, 13, 0, 0), (0, 0, (-2147483648), 2147483647)], [(some (0, 0, (-2147483648), 2147483647), [])], zUE, (6, 340, 0, 0))
noncomputable def zφ_wnn (A : Nat → Nat) (V : Nat → Nat → Int) (nuξ : Nat) (Lwξ : List yK) : (Nat → Option Nat) → (Nat → Nat → Int) → List Int → Prop := fun P G ps => zMVr A V P G ∧ ps.getD 0 0 = (A 0 : Int) ∧ zLV V Lwξ ∧ V 0 8 = (nuξ : Int) ∧ nuξ ≤ 16 ∧ 0 ≤ V 3 (2000 + 5)
noncomputable def zψ_wnn (A : Nat → Nat) (V : Nat → Nat → Int) (nuξ : Nat) (Lwξ : List yK) : (Nat → Option Nat) → (Nat → Nat → Int) → List Int → (Nat → Option Nat) → (Nat → Nat → Int) → Int → Prop := fun P G ps P' G' rn => P' = P ∧ zMVr A (zf_wnn V nuξ Lwξ (ps.getD 1 0)).2 P' G' ∧ rn = (zf_wnn V nuξ Lwξ (ps.getD 1 0)).1
theorem zX_wnn {l : Launch} {w : zk_W} (hWξ : zh_W w) (A : Nat → Nat) (V : Nat → Nat → Int) (nuξ : Nat) (Lwξ : List yK) : zk_metX l w zt_dv zt_TB zK_wnn (zp_A (zφ_wnn A V nuξ Lwξ)) (zp_B (zψ_wnn A V nuξ Lwξ)) ∧ zk_cok w zt_TB zK_wnn := by
  refine zp_methX (cn := "WoundTownModel") zp_lkall hWξ (pl := 1958) rfl (by decide +kernel) (fun p e R s m args below meth c Q u hx hb hEξ hQξ hU5ξ heffξ hnLξ hokξ hφ => ?_)
  have hwξ := hWξ.1
  obtain ⟨p0ξ, p1ξ, hpsξ, tk0, tk1⟩ := zp_ps2 hokξ
  have hrmξ : zk_Kr (zk_ev (zt_types, zp_lk, zt_dv, [], [], zp_lc, zK_wnn)) = zk_Kr zK_wnn := rfl
  rw [hpsξ] at hφ ⊢
  have hφ : zMVr A V u.1 (zp_n u.2.1) ∧ p0ξ = (A 0 : Int) ∧ zLV V Lwξ ∧ V 0 8 = (nuξ : Int) ∧ nuξ ≤ 16 ∧ 0 ≤ V 3 (2000 + 5) := hφ
  obtain ⟨⟨M, hMξ, hVξ, hSbξ⟩, rfl, hLVξ, h8ξ, hn16ξ, hd0ξ⟩ := hφ
  have hi1ξ := zp_int tk1
  show zp_J p l e R s m args below meth c Q w u [] 0 [(0, 2, (A 0 : Int)), (1, 0, p1ξ)] [] u.1 (zp_n u.2.1)
  have hdayξ := hd0ξ
  refine zp_load (pc := 0) hx hb (zd_X12_windNow (0, .iload_n 1, 1, 0, []) (List.mem_of_getElem? (i := 0) rfl)) rfl (j := 1) rfl ?_
  refine zp_i2l (pc := 1) hx hb (zd_X12_windNow (1, .i2l, 1, 0, []) (List.mem_of_getElem? (i := 1) rfl)) ?_
  refine zp_const (pc := 2) hx hb (zd_X12_windNow (2, .lconst 0, 1, 0, []) (List.mem_of_getElem? (i := 2) rfl)) rfl rfl ?_
  refine zp_ldc2 (pc := 3) hx hb hEξ (zd_X12_windNow (3, .ldc2_w 431, 3, 0, []) (List.mem_of_getElem? (i := 3) rfl)) (j := 105) rfl ?_
  refine zp_call (pc := 6) (how := 1) (idx := 181) (mi := 186) (S := []) hx hb hEξ hwξ heffξ hrmξ (zX_in2 hWξ) rfl (j := 2) rfl rfl (by decide +kernel) (zd_X12_windNow (6, .invokestatic 181, 3, 0, []) (List.mem_of_getElem? (i := 4) rfl)) [p1ξ, 0, 12] rfl ⟨zp_o1 (by first | assumption | exact zp_r1 (by omega) (by omega)), zp_o1 (by first | assumption | exact zp_r1 (by omega) (by omega)), zp_o1 (by first | assumption | exact zp_r1 (by omega) (by omega)), trivial⟩ (Nat.le_of_ble_eq_true rfl) trivial (fun al halξ rnn283ξ Pn283 Gn283 hextn283ξ hfrn283ξ hokn283ξ hcsn283ξ hpsin283ξ => ?_)
  obtain rfl := List.mem_singleton.mp halξ
  have hrn283ξ := zp_int (hokn283ξ _ rfl).1
  obtain ⟨hPen283ξ, hGen283ξ, htn283ξ⟩ := hpsin283ξ
  rw [hPen283ξ, hGen283ξ]
  clear hextn283ξ hfrn283ξ hcsn283ξ hPen283ξ hGen283ξ
  have htn283ξ : rnn283ξ = 1 ↔ 0 ≤ p1ξ ∧ p1ξ ≤ 12 := htn283ξ
  refine zp_if (pc := 9) (tgt := 14) hx hb (zd_X12_windNow (9, .ifCond .ne 5, 3, 0, []) (List.mem_of_getElem? (i := 5) rfl)) rfl (fun (hc284ξ : ¬ rnn283ξ = 0) => ?_) (fun (hc284ξ : ¬ (¬ rnn283ξ = 0)) => ?_)
  · have hbt285ξ := (Iff.mp htn283ξ) (by omega)
    refine zp_load (pc := 14) hx hb (zd_X12_windNow (14, .aload_n 0, 1, 0, []) (List.mem_of_getElem? (i := 8) rfl)) rfl (j := 0) rfl ?_
    refine zp_getf (n := (A 3 : Int)) (pc := 15) hx hb hEξ hwξ (zd_X12_windNow (15, .getfield 13, 3, 0, []) (List.mem_of_getElem? (i := 9) rfl)) (j := 21) rfl rfl rfl (zM_P hMξ (List.mem_of_getElem? (i := 0) rfl)) ((zM_G hMξ (List.mem_of_getElem? (i := 0) rfl) 3).trans (zM_F hMξ (List.mem_of_getElem? (i := 1) rfl))) ?_
    refine zp_const (pc := 18) hx hb (zd_X12_windNow (18, .bipush 10, 2, 0, []) (List.mem_of_getElem? (i := 10) rfl)) rfl rfl ?_
    refine zp_ialdT (j := 10) (v := (V 3 (2000 + 10))) (pc := 20) hx hb hwξ (zd_X12_windNow (20, .iaload, 1, 0, []) (List.mem_of_getElem? (i := 11) rfl)) zl_T59 rfl (zl_kd 10) (zM_P hMξ (List.mem_of_getElem? (i := 2) rfl)) (by omega) (show 10 < 5580 by omega) ((zM_G hMξ (List.mem_of_getElem? (i := 2) rfl) (2000 + 10)).trans (hVξ 3 (2000 + 10) (Or.inl (by decide)))) (fun _ => ?_)
    have hr288ξ := hLVξ.1 10 (by omega)
    refine zp_const (pc := 21) hx hb (zd_X12_windNow (21, .iconst (-1), 1, 0, []) (List.mem_of_getElem? (i := 12) rfl)) rfl rfl ?_
    refine zp_icmp (pc := 22) (tgt := 59) hx hb (zd_X12_windNow (22, .if_icmp .ne 37, 3, 0, []) (List.mem_of_getElem? (i := 13) rfl)) rfl (fun (hc289ξ : ¬ (V 3 (2000 + 10)) = (-1)) => ?_) (fun (hc289ξ : ¬ (¬ (V 3 (2000 + 10)) = (-1))) => ?_)
    · refine zp_const (pc := 59) hx hb (zd_X12_windNow (59, .bipush (-3), 2, 0, []) (List.mem_of_getElem? (i := 32) rfl)) rfl rfl ?_
      refine zp_iret (pc := 61) (n := (-3)) hx hb hEξ hQξ hU5ξ rfl (by decide) (zd_X12_windNow (61, .ireturn, 1, 0, []) (List.mem_of_getElem? (i := 33) rfl)) (j := 0) rfl (zp_o0 (by omega) (by omega) (by omega) (by omega)) ?_
      rw [hpsξ]
      refine ⟨rfl, ?_⟩
      have hffξ : zf_wnn V nuξ Lwξ p1ξ = ((-3), V) := by
        unfold zf_wnn
        rw [if_pos ((Iff.mp htn283ξ) (by omega)), if_pos hc289ξ]
      show zMVr A (zf_wnn V nuξ Lwξ p1ξ).2 u.1 (zp_n u.2.1) ∧ (-3) = (zf_wnn V nuξ Lwξ p1ξ).1
      rw [hffξ]
      exact ⟨⟨M, hMξ, hVξ, hSbξ⟩, rfl⟩
    · refine zp_load (pc := 25) hx hb (zd_X12_windNow (25, .aload_n 0, 1, 0, []) (List.mem_of_getElem? (i := 14) rfl)) rfl (j := 0) rfl ?_
      refine zp_getf (n := (A 3 : Int)) (pc := 26) hx hb hEξ hwξ (zd_X12_windNow (26, .getfield 13, 3, 0, []) (List.mem_of_getElem? (i := 15) rfl)) (j := 21) rfl rfl rfl (zM_P hMξ (List.mem_of_getElem? (i := 0) rfl)) ((zM_G hMξ (List.mem_of_getElem? (i := 0) rfl) 3).trans (zM_F hMξ (List.mem_of_getElem? (i := 1) rfl))) ?_
      refine zp_const (pc := 29) hx hb (zd_X12_windNow (29, .bipush 9, 2, 0, []) (List.mem_of_getElem? (i := 16) rfl)) rfl rfl ?_
      refine zp_ialdT (j := 9) (v := (V 3 (2000 + 9))) (pc := 31) hx hb hwξ (zd_X12_windNow (31, .iaload, 1, 0, []) (List.mem_of_getElem? (i := 17) rfl)) zl_T59 rfl (zl_kd 9) (zM_P hMξ (List.mem_of_getElem? (i := 2) rfl)) (by omega) (show 9 < 5580 by omega) ((zM_G hMξ (List.mem_of_getElem? (i := 2) rfl) (2000 + 9)).trans (hVξ 3 (2000 + 9) (Or.inl (by decide)))) (fun _ => ?_)
      have hr291ξ := hLVξ.1 9 (by omega)
      refine zp_const (pc := 32) hx hb (zd_X12_windNow (32, .iconst 1, 1, 0, []) (List.mem_of_getElem? (i := 18) rfl)) rfl rfl ?_
      refine zp_icmp (pc := 33) (tgt := 59) hx hb (zd_X12_windNow (33, .if_icmp .eq 26, 3, 0, []) (List.mem_of_getElem? (i := 19) rfl)) rfl (fun (hc292ξ : (V 3 (2000 + 9)) = 1) => ?_) (fun (hc292ξ : ¬ ((V 3 (2000 + 9)) = 1)) => ?_)
      · refine zp_const (pc := 59) hx hb (zd_X12_windNow (59, .bipush (-3), 2, 0, []) (List.mem_of_getElem? (i := 32) rfl)) rfl rfl ?_
        refine zp_iret (pc := 61) (n := (-3)) hx hb hEξ hQξ hU5ξ rfl (by decide) (zd_X12_windNow (61, .ireturn, 1, 0, []) (List.mem_of_getElem? (i := 33) rfl)) (j := 0) rfl (zp_o0 (by omega) (by omega) (by omega) (by omega)) ?_
        rw [hpsξ]
        refine ⟨rfl, ?_⟩
        have hffξ : zf_wnn V nuξ Lwξ p1ξ = ((-3), V) := by
          unfold zf_wnn
          rw [if_pos ((Iff.mp htn283ξ) (by omega)), if_neg hc289ξ, if_pos hc292ξ]
        show zMVr A (zf_wnn V nuξ Lwξ p1ξ).2 u.1 (zp_n u.2.1) ∧ (-3) = (zf_wnn V nuξ Lwξ p1ξ).1
        rw [hffξ]
        exact ⟨⟨M, hMξ, hVξ, hSbξ⟩, rfl⟩
      · refine zp_load (pc := 36) hx hb (zd_X12_windNow (36, .aload_n 0, 1, 0, []) (List.mem_of_getElem? (i := 20) rfl)) rfl (j := 0) rfl ?_
        have hr294ξ := hLVξ.1 5 (by omega)
        refine zp_call (pc := 37) (how := 0) (idx := 411) (mi := 241) (S := []) hx hb hEξ hwξ heffξ hrmξ (zX_toda hWξ A M) rfl (j := 41) rfl rfl (by decide +kernel) (zd_X12_windNow (37, .invokevirtual 411, 3, 0, []) (List.mem_of_getElem? (i := 21) rfl)) [(A 0 : Int)] rfl ⟨zp_o2 (zM_P hMξ (List.mem_of_getElem? (i := 0) rfl)), trivial⟩ (Nat.le_of_ble_eq_true rfl) ⟨hMξ, rfl, (show -2147483648 ≤ M 3 (2000 + 5) ∧ M 3 (2000 + 5) ≤ 2147483647 by rw [(hVξ 3 (2000 + 5) (Or.inl (by decide)))]; omega)⟩ (fun al halξ rnd293ξ Pd293 Gd293 hextd293ξ hfrd293ξ hokd293ξ hcsd293ξ hpsid293ξ => ?_)
        obtain rfl := List.mem_singleton.mp halξ
        have hrd293ξ := zp_int (hokd293ξ _ rfl).1
        obtain ⟨hPed293ξ, hGed293ξ, htd293ξ⟩ := hpsid293ξ
        rw [hPed293ξ, hGed293ξ]
        clear hextd293ξ hfrd293ξ hcsd293ξ hPed293ξ hGed293ξ
        have htd293ξ : rnd293ξ = (V 3 (2000 + 5)) := (Eq.trans htd293ξ) ((hVξ 3 (2000 + 5) (Or.inl (by decide))))
        have htd293ξ := (Eq.symm htd293ξ)
        subst htd293ξ
        refine zp_const (pc := 40) hx hb (zd_X12_windNow (40, .bipush 7, 2, 0, []) (List.mem_of_getElem? (i := 22) rfl)) rfl rfl ?_
        refine zp_iremx (n := ((V 3 (2000 + 5)) % 7)) (pc := 42) hx hb (zd_X12_windNow (42, .irem, 1, 0, []) (List.mem_of_getElem? (i := 23) rfl)) (by decide) (Int.tmod_eq_emod_of_nonneg (by omega)) (zp_r0 (by omega) (by omega)) ?_
        refine zp_const (pc := 43) hx hb (zd_X12_windNow (43, .bipush 6, 2, 0, []) (List.mem_of_getElem? (i := 24) rfl)) rfl rfl ?_
        refine zp_icmp (pc := 45) (tgt := 62) hx hb (zd_X12_windNow (45, .if_icmp .ne 17, 3, 0, []) (List.mem_of_getElem? (i := 25) rfl)) rfl (fun (hc295ξ : ¬ ((V 3 (2000 + 5)) % 7) = 6) => ?_) (fun (hc295ξ : ¬ (¬ ((V 3 (2000 + 5)) % 7) = 6)) => ?_)
        · refine zp_load (pc := 62) hx hb (zd_X12_windNow (62, .aload_n 0, 1, 0, []) (List.mem_of_getElem? (i := 34) rfl)) rfl (j := 0) rfl ?_
          refine zp_const (pc := 63) hx hb (zd_X12_windNow (63, .iconst 0, 1, 0, []) (List.mem_of_getElem? (i := 35) rfl)) rfl rfl ?_
          refine zp_call (pc := 64) (how := 0) (idx := 496) (mi := 277) (S := []) hx hb hEξ hwξ heffξ hrmξ (zX_rem hWξ A V nuξ) rfl (j := 62) rfl rfl (by decide +kernel) (zd_X12_windNow (64, .invokevirtual 496, 3, 0, []) (List.mem_of_getElem? (i := 36) rfl)) [(A 0 : Int), 0] rfl ⟨zp_o2 (zM_P hMξ (List.mem_of_getElem? (i := 0) rfl)), zp_o0 (by decide) (by decide) (by decide) (by decide), trivial⟩ (Nat.le_of_ble_eq_true rfl) ⟨⟨M, hMξ, hVξ, hSbξ⟩, rfl, (Eq.trans rfl h8ξ), by omega⟩ (fun al halξ rnr296ξ Pr296 Gr296 hextr296ξ hfrr296ξ hokr296ξ hcsr296ξ hpsir296ξ => ?_)
          obtain rfl := List.mem_singleton.mp halξ
          obtain ⟨hPer296ξ, Mr296, hMr296ξ, hVr296ξ, hSbr296ξ⟩ := hpsir296ξ
          subst hPer296ξ
          clear hextr296ξ hfrr296ξ hcsr296ξ hokr296ξ
          have hVr296ξ : ∀ o k, zNs o k → Mr296 o k = (zT_rem V 0 nuξ) o k := hVr296ξ
          refine zp_load (pc := 67) hx hb (zd_X12_windNow (67, .aload_n 0, 1, 0, []) (List.mem_of_getElem? (i := 37) rfl)) rfl (j := 0) rfl ?_
          refine zp_load (pc := 68) hx hb (zd_X12_windNow (68, .iload_n 1, 1, 0, []) (List.mem_of_getElem? (i := 38) rfl)) rfl (j := 1) rfl ?_
          refine zp_call (pc := 69) (how := 0) (idx := 499) (mi := 278) (S := []) hx hb hEξ hwξ heffξ hrmξ (zX_wea hWξ A (zT_rem V 0 nuξ) Lwξ) rfl (j := 63) rfl rfl (by decide +kernel) (zd_X12_windNow (69, .invokevirtual 499, 3, 0, []) (List.mem_of_getElem? (i := 39) rfl)) [(A 0 : Int), p1ξ] rfl ⟨zp_o2 (zM_P hMr296ξ (List.mem_of_getElem? (i := 0) rfl)), zp_o0 (by omega) (by omega) (by omega) (by omega), trivial⟩ (Nat.le_of_ble_eq_true rfl) ⟨⟨Mr296, hMr296ξ, hVr296ξ, hSbr296ξ⟩, rfl, (zLV_rem hLVξ), (show 0 ≤ p1ξ by omega), (show p1ξ ≤ 12 by omega)⟩ (fun al halξ rnm297ξ Pm297 Gm297 hextm297ξ hfrm297ξ hokm297ξ hcsm297ξ hpsim297ξ => ?_)
          obtain rfl := List.mem_singleton.mp halξ
          have hrm297ξ := zp_int (hokm297ξ _ rfl).1
          obtain ⟨hPem297ξ, ⟨Mm297, hMm297ξ, hVm297ξ, hSbm297ξ⟩, htm297ξ⟩ := hpsim297ξ
          subst hPem297ξ
          clear hextm297ξ hfrm297ξ hcsm297ξ hokm297ξ
          have hVm297ξ : ∀ o k, zNs o k → Mm297 o k = (zf_wea (zT_rem V 0 nuξ) Lwξ p1ξ).2 o k := hVm297ξ
          have htm297ξ : rnm297ξ = ((zf_wea (zT_rem V 0 nuξ) Lwξ p1ξ).1) := htm297ξ
          have htm297ξ := (Eq.symm htm297ξ)
          subst htm297ξ
          have hwm297ξ : 0 ≤ ((zf_wea (zT_rem V 0 nuξ) Lwξ p1ξ).2 3 (2000 + 8)) ∧ ((zf_wea (zT_rem V 0 nuξ) Lwξ p1ξ).2 3 (2000 + 8)) ≤ 9999 := by rw [zf_wea_8]; omega
          refine zp_pop (pc := 72) hx hb (zd_X12_windNow (72, .pop, 1, 0, []) (List.mem_of_getElem? (i := 40) rfl)) (show (0 : Nat) ≠ 1 by decide) ?_
          refine zp_load (pc := 73) hx hb (zd_X12_windNow (73, .aload_n 0, 1, 0, []) (List.mem_of_getElem? (i := 41) rfl)) rfl (j := 0) rfl ?_
          refine zp_getf (n := (A 3 : Int)) (pc := 74) hx hb hEξ hwξ (zd_X12_windNow (74, .getfield 13, 3, 0, []) (List.mem_of_getElem? (i := 42) rfl)) (j := 21) rfl rfl rfl (zM_P hMm297ξ (List.mem_of_getElem? (i := 0) rfl)) ((zM_G hMm297ξ (List.mem_of_getElem? (i := 0) rfl) 3).trans (zM_F hMm297ξ (List.mem_of_getElem? (i := 1) rfl))) ?_
          refine zp_const (pc := 77) hx hb (zd_X12_windNow (77, .bipush 8, 2, 0, []) (List.mem_of_getElem? (i := 43) rfl)) rfl rfl ?_
          refine zp_ialdT (j := 8) (v := ((zf_wea (zT_rem V 0 nuξ) Lwξ p1ξ).2 3 (2000 + 8))) (pc := 79) hx hb hwξ (zd_X12_windNow (79, .iaload, 1, 0, []) (List.mem_of_getElem? (i := 44) rfl)) zl_T59 rfl (zl_kd 8) (zM_P hMm297ξ (List.mem_of_getElem? (i := 2) rfl)) (by omega) (show 8 < 5580 by omega) ((zM_G hMm297ξ (List.mem_of_getElem? (i := 2) rfl) (2000 + 8)).trans (hVm297ξ 3 (2000 + 8) (Or.inl (by decide)))) (fun _ => ?_)
          refine zp_iret (pc := 80) (n := ((zf_wea (zT_rem V 0 nuξ) Lwξ p1ξ).2 3 (2000 + 8))) hx hb hEξ hQξ hU5ξ rfl (by decide) (zd_X12_windNow (80, .ireturn, 1, 0, []) (List.mem_of_getElem? (i := 45) rfl)) (j := 0) rfl (zp_o0 (by omega) (by omega) (by omega) (by omega)) ?_
          rw [hpsξ]
          refine ⟨rfl, ?_⟩
          have hffξ : zf_wnn V nuξ Lwξ p1ξ = (((zf_wea (zT_rem V 0 nuξ) Lwξ p1ξ).2 3 (2000 + 8)), (zf_wea (zT_rem V 0 nuξ) Lwξ p1ξ).2) := by
            unfold zf_wnn
            rw [if_pos ((Iff.mp htn283ξ) (by omega)), if_neg hc289ξ, if_neg hc292ξ, if_pos hc295ξ]
          show zMVr A (zf_wnn V nuξ Lwξ p1ξ).2 u.1 Gm297 ∧ ((zf_wea (zT_rem V 0 nuξ) Lwξ p1ξ).2 3 (2000 + 8)) = (zf_wnn V nuξ Lwξ p1ξ).1
          rw [hffξ]
          exact ⟨⟨Mm297, hMm297ξ, hVm297ξ, hSbm297ξ⟩, rfl⟩
        · refine zp_load (pc := 48) hx hb (zd_X12_windNow (48, .iload_n 1, 1, 0, []) (List.mem_of_getElem? (i := 26) rfl)) rfl (j := 1) rfl ?_
          refine zp_load (pc := 49) hx hb (zd_X12_windNow (49, .aload_n 0, 1, 0, []) (List.mem_of_getElem? (i := 27) rfl)) rfl (j := 0) rfl ?_
          refine zp_getf (n := (A 3 : Int)) (pc := 50) hx hb hEξ hwξ (zd_X12_windNow (50, .getfield 13, 3, 0, []) (List.mem_of_getElem? (i := 28) rfl)) (j := 21) rfl rfl rfl (zM_P hMξ (List.mem_of_getElem? (i := 0) rfl)) ((zM_G hMξ (List.mem_of_getElem? (i := 0) rfl) 3).trans (zM_F hMξ (List.mem_of_getElem? (i := 1) rfl))) ?_
          refine zp_const (pc := 53) hx hb (zd_X12_windNow (53, .bipush 6, 2, 0, []) (List.mem_of_getElem? (i := 29) rfl)) rfl rfl ?_
          refine zp_ialdT (j := 6) (v := (V 3 (2000 + 6))) (pc := 55) hx hb hwξ (zd_X12_windNow (55, .iaload, 1, 0, []) (List.mem_of_getElem? (i := 30) rfl)) zl_T59 rfl (zl_kd 6) (zM_P hMξ (List.mem_of_getElem? (i := 2) rfl)) (by omega) (show 6 < 5580 by omega) ((zM_G hMξ (List.mem_of_getElem? (i := 2) rfl) (2000 + 6)).trans (hVξ 3 (2000 + 6) (Or.inl (by decide)))) (fun _ => ?_)
          have hr300ξ := hLVξ.1 6 (by omega)
          refine zp_icmp (pc := 56) (tgt := 62) hx hb (zd_X12_windNow (56, .if_icmp .le 6, 3, 0, []) (List.mem_of_getElem? (i := 31) rfl)) rfl (fun (hc301ξ : p1ξ ≤ (V 3 (2000 + 6))) => ?_) (fun (hc301ξ : ¬ (p1ξ ≤ (V 3 (2000 + 6)))) => ?_)
          · refine zp_load (pc := 62) hx hb (zd_X12_windNow (62, .aload_n 0, 1, 0, []) (List.mem_of_getElem? (i := 34) rfl)) rfl (j := 0) rfl ?_
            refine zp_const (pc := 63) hx hb (zd_X12_windNow (63, .iconst 0, 1, 0, []) (List.mem_of_getElem? (i := 35) rfl)) rfl rfl ?_
            refine zp_call (pc := 64) (how := 0) (idx := 496) (mi := 277) (S := []) hx hb hEξ hwξ heffξ hrmξ (zX_rem hWξ A V nuξ) rfl (j := 62) rfl rfl (by decide +kernel) (zd_X12_windNow (64, .invokevirtual 496, 3, 0, []) (List.mem_of_getElem? (i := 36) rfl)) [(A 0 : Int), 0] rfl ⟨zp_o2 (zM_P hMξ (List.mem_of_getElem? (i := 0) rfl)), zp_o0 (by decide) (by decide) (by decide) (by decide), trivial⟩ (Nat.le_of_ble_eq_true rfl) ⟨⟨M, hMξ, hVξ, hSbξ⟩, rfl, (Eq.trans rfl h8ξ), by omega⟩ (fun al halξ rnr302ξ Pr302 Gr302 hextr302ξ hfrr302ξ hokr302ξ hcsr302ξ hpsir302ξ => ?_)
            obtain rfl := List.mem_singleton.mp halξ
            obtain ⟨hPer302ξ, Mr302, hMr302ξ, hVr302ξ, hSbr302ξ⟩ := hpsir302ξ
            subst hPer302ξ
            clear hextr302ξ hfrr302ξ hcsr302ξ hokr302ξ
            have hVr302ξ : ∀ o k, zNs o k → Mr302 o k = (zT_rem V 0 nuξ) o k := hVr302ξ
            refine zp_load (pc := 67) hx hb (zd_X12_windNow (67, .aload_n 0, 1, 0, []) (List.mem_of_getElem? (i := 37) rfl)) rfl (j := 0) rfl ?_
            refine zp_load (pc := 68) hx hb (zd_X12_windNow (68, .iload_n 1, 1, 0, []) (List.mem_of_getElem? (i := 38) rfl)) rfl (j := 1) rfl ?_
            refine zp_call (pc := 69) (how := 0) (idx := 499) (mi := 278) (S := []) hx hb hEξ hwξ heffξ hrmξ (zX_wea hWξ A (zT_rem V 0 nuξ) Lwξ) rfl (j := 63) rfl rfl (by decide +kernel) (zd_X12_windNow (69, .invokevirtual 499, 3, 0, []) (List.mem_of_getElem? (i := 39) rfl)) [(A 0 : Int), p1ξ] rfl ⟨zp_o2 (zM_P hMr302ξ (List.mem_of_getElem? (i := 0) rfl)), zp_o0 (by omega) (by omega) (by omega) (by omega), trivial⟩ (Nat.le_of_ble_eq_true rfl) ⟨⟨Mr302, hMr302ξ, hVr302ξ, hSbr302ξ⟩, rfl, (zLV_rem hLVξ), (show 0 ≤ p1ξ by omega), (show p1ξ ≤ 12 by omega)⟩ (fun al halξ rnm303ξ Pm303 Gm303 hextm303ξ hfrm303ξ hokm303ξ hcsm303ξ hpsim303ξ => ?_)
            obtain rfl := List.mem_singleton.mp halξ
            have hrm303ξ := zp_int (hokm303ξ _ rfl).1
            obtain ⟨hPem303ξ, ⟨Mm303, hMm303ξ, hVm303ξ, hSbm303ξ⟩, htm303ξ⟩ := hpsim303ξ
            subst hPem303ξ
            clear hextm303ξ hfrm303ξ hcsm303ξ hokm303ξ
            have hVm303ξ : ∀ o k, zNs o k → Mm303 o k = (zf_wea (zT_rem V 0 nuξ) Lwξ p1ξ).2 o k := hVm303ξ
            have htm303ξ : rnm303ξ = ((zf_wea (zT_rem V 0 nuξ) Lwξ p1ξ).1) := htm303ξ
            have htm303ξ := (Eq.symm htm303ξ)
            subst htm303ξ
            have hwm303ξ : 0 ≤ ((zf_wea (zT_rem V 0 nuξ) Lwξ p1ξ).2 3 (2000 + 8)) ∧ ((zf_wea (zT_rem V 0 nuξ) Lwξ p1ξ).2 3 (2000 + 8)) ≤ 9999 := by rw [zf_wea_8]; omega
            refine zp_pop (pc := 72) hx hb (zd_X12_windNow (72, .pop, 1, 0, []) (List.mem_of_getElem? (i := 40) rfl)) (show (0 : Nat) ≠ 1 by decide) ?_
            refine zp_load (pc := 73) hx hb (zd_X12_windNow (73, .aload_n 0, 1, 0, []) (List.mem_of_getElem? (i := 41) rfl)) rfl (j := 0) rfl ?_
            refine zp_getf (n := (A 3 : Int)) (pc := 74) hx hb hEξ hwξ (zd_X12_windNow (74, .getfield 13, 3, 0, []) (List.mem_of_getElem? (i := 42) rfl)) (j := 21) rfl rfl rfl (zM_P hMm303ξ (List.mem_of_getElem? (i := 0) rfl)) ((zM_G hMm303ξ (List.mem_of_getElem? (i := 0) rfl) 3).trans (zM_F hMm303ξ (List.mem_of_getElem? (i := 1) rfl))) ?_
            refine zp_const (pc := 77) hx hb (zd_X12_windNow (77, .bipush 8, 2, 0, []) (List.mem_of_getElem? (i := 43) rfl)) rfl rfl ?_
            refine zp_ialdT (j := 8) (v := ((zf_wea (zT_rem V 0 nuξ) Lwξ p1ξ).2 3 (2000 + 8))) (pc := 79) hx hb hwξ (zd_X12_windNow (79, .iaload, 1, 0, []) (List.mem_of_getElem? (i := 44) rfl)) zl_T59 rfl (zl_kd 8) (zM_P hMm303ξ (List.mem_of_getElem? (i := 2) rfl)) (by omega) (show 8 < 5580 by omega) ((zM_G hMm303ξ (List.mem_of_getElem? (i := 2) rfl) (2000 + 8)).trans (hVm303ξ 3 (2000 + 8) (Or.inl (by decide)))) (fun _ => ?_)
            refine zp_iret (pc := 80) (n := ((zf_wea (zT_rem V 0 nuξ) Lwξ p1ξ).2 3 (2000 + 8))) hx hb hEξ hQξ hU5ξ rfl (by decide) (zd_X12_windNow (80, .ireturn, 1, 0, []) (List.mem_of_getElem? (i := 45) rfl)) (j := 0) rfl (zp_o0 (by omega) (by omega) (by omega) (by omega)) ?_
            rw [hpsξ]
            refine ⟨rfl, ?_⟩
            have hffξ : zf_wnn V nuξ Lwξ p1ξ = (((zf_wea (zT_rem V 0 nuξ) Lwξ p1ξ).2 3 (2000 + 8)), (zf_wea (zT_rem V 0 nuξ) Lwξ p1ξ).2) := by
              unfold zf_wnn
              rw [if_pos ((Iff.mp htn283ξ) (by omega)), if_neg hc289ξ, if_neg hc292ξ, if_neg hc295ξ, if_pos hc301ξ]
            show zMVr A (zf_wnn V nuξ Lwξ p1ξ).2 u.1 Gm303 ∧ ((zf_wea (zT_rem V 0 nuξ) Lwξ p1ξ).2 3 (2000 + 8)) = (zf_wnn V nuξ Lwξ p1ξ).1
            rw [hffξ]
            exact ⟨⟨Mm303, hMm303ξ, hVm303ξ, hSbm303ξ⟩, rfl⟩
          · refine zp_const (pc := 59) hx hb (zd_X12_windNow (59, .bipush (-3), 2, 0, []) (List.mem_of_getElem? (i := 32) rfl)) rfl rfl ?_
            refine zp_iret (pc := 61) (n := (-3)) hx hb hEξ hQξ hU5ξ rfl (by decide) (zd_X12_windNow (61, .ireturn, 1, 0, []) (List.mem_of_getElem? (i := 33) rfl)) (j := 0) rfl (zp_o0 (by omega) (by omega) (by omega) (by omega)) ?_
            rw [hpsξ]
            refine ⟨rfl, ?_⟩
            have hffξ : zf_wnn V nuξ Lwξ p1ξ = ((-3), V) := by
              unfold zf_wnn
              rw [if_pos ((Iff.mp htn283ξ) (by omega)), if_neg hc289ξ, if_neg hc292ξ, if_neg hc295ξ, if_neg hc301ξ]
            show zMVr A (zf_wnn V nuξ Lwξ p1ξ).2 u.1 (zp_n u.2.1) ∧ (-3) = (zf_wnn V nuξ Lwξ p1ξ).1
            rw [hffξ]
            exact ⟨⟨M, hMξ, hVξ, hSbξ⟩, rfl⟩
  · have hbf286ξ : ¬ (0 ≤ p1ξ ∧ p1ξ ≤ 12) := fun h9ξ => absurd ((Iff.mpr htn283ξ) h9ξ) (by omega)
    refine zp_const (pc := 12) hx hb (zd_X12_windNow (12, .iconst (-1), 1, 0, []) (List.mem_of_getElem? (i := 6) rfl)) rfl rfl ?_
    refine zp_iret (pc := 13) (n := (-1)) hx hb hEξ hQξ hU5ξ rfl (by decide) (zd_X12_windNow (13, .ireturn, 1, 0, []) (List.mem_of_getElem? (i := 7) rfl)) (j := 0) rfl (zp_o0 (by omega) (by omega) (by omega) (by omega)) ?_
    rw [hpsξ]
    refine ⟨rfl, ?_⟩
    have hffξ : zf_wnn V nuξ Lwξ p1ξ = ((-1), V) := by
      unfold zf_wnn
      rw [if_neg (fun h9ξ => absurd ((Iff.mpr htn283ξ) h9ξ) (by omega))]
    show zMVr A (zf_wnn V nuξ Lwξ p1ξ).2 u.1 (zp_n u.2.1) ∧ (-1) = (zf_wnn V nuξ Lwξ p1ξ).1
    rw [hffξ]
    exact ⟨⟨M, hMξ, hVξ, hSbξ⟩, rfl⟩
noncomputable def zf_mnn (V : Nat → Nat → Int) (nuξ : Nat) (p1ξ : Int) : Int × (Nat → Nat → Int) := if 1 ≤ p1ξ ∧ p1ξ ≤ 9999 then if (V 3 (2000 + 10)) = (-1) then ((max 0 (min 9999 ((V 3 (2000 + 8)) + p1ξ))), (zp_set (zp_set (zT_rem V 3 nuξ) 3 (2000 + 8) (max 0 (min 9999 ((V 3 (2000 + 8)) + p1ξ)))) 3 (2000 + 9) 0)) else ((-3), V) else ((-1), V)
noncomputable def zK_mnn : zk_K := (zt_mn 286, prog_14_method_106_code, 2, (Option.some Jvm.ClassFile.FieldType.int), 1, 12, [(2, 13, 0, 0), (0, 0, (-2147483648), 2147483647)], [(some (0, 0, (-2147483648), 2147483647), [])], zUE, (2, 140, 0, 0))
noncomputable def zφ_mnn (A : Nat → Nat) (V : Nat → Nat → Int) (nuξ : Nat) : (Nat → Option Nat) → (Nat → Nat → Int) → List Int → Prop := fun P G ps => zMVr A V P G ∧ ps.getD 0 0 = (A 0 : Int) ∧ 0 ≤ V 3 (2000 + 8) ∧ V 3 (2000 + 8) ≤ 9999 ∧ -1 ≤ V 3 (2000 + 10) ∧ V 3 (2000 + 10) ≤ 12 ∧ V 0 8 = (nuξ : Int) ∧ nuξ ≤ 16
noncomputable def zψ_mnn (A : Nat → Nat) (V : Nat → Nat → Int) (nuξ : Nat) : (Nat → Option Nat) → (Nat → Nat → Int) → List Int → (Nat → Option Nat) → (Nat → Nat → Int) → Int → Prop := fun P G ps P' G' rn => P' = P ∧ zMVr A (zf_mnn V nuξ (ps.getD 1 0)).2 P' G' ∧ rn = (zf_mnn V nuξ (ps.getD 1 0)).1
theorem zX_mnn {l : Launch} {w : zk_W} (hWξ : zh_W w) (A : Nat → Nat) (V : Nat → Nat → Int) (nuξ : Nat) : zk_metX l w zt_dv zt_TB zK_mnn (zp_A (zφ_mnn A V nuξ)) (zp_B (zψ_mnn A V nuξ)) ∧ zk_cok w zt_TB zK_mnn := by
  refine zp_methX (cn := "WoundTownModel") zp_lkall hWξ (pl := 1998) rfl (by decide +kernel) (fun p e R s m args below meth c Q u hx hb hEξ hQξ hU5ξ heffξ hnLξ hokξ hφ => ?_)
  have hwξ := hWξ.1
  obtain ⟨p0ξ, p1ξ, hpsξ, tk0, tk1⟩ := zp_ps2 hokξ
  have hrmξ : zk_Kr (zk_ev (zt_types, zp_lk, zt_dv, [], [], zp_lc, zK_mnn)) = zk_Kr zK_mnn := rfl
  rw [hpsξ] at hφ ⊢
  have hφ : zMVr A V u.1 (zp_n u.2.1) ∧ p0ξ = (A 0 : Int) ∧ 0 ≤ V 3 (2000 + 8) ∧ V 3 (2000 + 8) ≤ 9999 ∧ -1 ≤ V 3 (2000 + 10) ∧ V 3 (2000 + 10) ≤ 12 ∧ V 0 8 = (nuξ : Int) ∧ nuξ ≤ 16 := hφ
  obtain ⟨⟨M, hMξ, hVξ, hSbξ⟩, rfl, hl0ξ, hl9ξ, ht0ξ, ht9ξ, h8ξ, hn16ξ⟩ := hφ
  have hi1ξ := zp_int tk1
  show zp_J p l e R s m args below meth c Q w u [] 0 [(0, 2, (A 0 : Int)), (1, 0, p1ξ)] [] u.1 (zp_n u.2.1)
  refine zp_load (pc := 0) hx hb (zd_X12_mendNow (0, .iload_n 1, 1, 0, []) (List.mem_of_getElem? (i := 0) rfl)) rfl (j := 1) rfl ?_
  refine zp_i2l (pc := 1) hx hb (zd_X12_mendNow (1, .i2l, 1, 0, []) (List.mem_of_getElem? (i := 1) rfl)) ?_
  refine zp_const (pc := 2) hx hb (zd_X12_mendNow (2, .lconst 1, 1, 0, []) (List.mem_of_getElem? (i := 2) rfl)) rfl rfl ?_
  refine zp_ldc2 (pc := 3) hx hb hEξ (zd_X12_mendNow (3, .ldc2_w 517, 3, 0, []) (List.mem_of_getElem? (i := 3) rfl)) (j := 114) rfl ?_
  refine zp_call (pc := 6) (how := 1) (idx := 181) (mi := 186) (S := []) hx hb hEξ hwξ heffξ hrmξ (zX_in2 hWξ) rfl (j := 2) rfl rfl (by decide +kernel) (zd_X12_mendNow (6, .invokestatic 181, 3, 0, []) (List.mem_of_getElem? (i := 4) rfl)) [p1ξ, 1, 9999] rfl ⟨zp_o1 (by first | assumption | exact zp_r1 (by omega) (by omega)), zp_o1 (by first | assumption | exact zp_r1 (by omega) (by omega)), zp_o1 (by first | assumption | exact zp_r1 (by omega) (by omega)), trivial⟩ (Nat.le_of_ble_eq_true rfl) trivial (fun al halξ rnn305ξ Pn305 Gn305 hextn305ξ hfrn305ξ hokn305ξ hcsn305ξ hpsin305ξ => ?_)
  obtain rfl := List.mem_singleton.mp halξ
  have hrn305ξ := zp_int (hokn305ξ _ rfl).1
  obtain ⟨hPen305ξ, hGen305ξ, htn305ξ⟩ := hpsin305ξ
  rw [hPen305ξ, hGen305ξ]
  clear hextn305ξ hfrn305ξ hcsn305ξ hPen305ξ hGen305ξ
  have htn305ξ : rnn305ξ = 1 ↔ 1 ≤ p1ξ ∧ p1ξ ≤ 9999 := htn305ξ
  refine zp_if (pc := 9) (tgt := 14) hx hb (zd_X12_mendNow (9, .ifCond .ne 5, 3, 0, []) (List.mem_of_getElem? (i := 5) rfl)) rfl (fun (hc306ξ : ¬ rnn305ξ = 0) => ?_) (fun (hc306ξ : ¬ (¬ rnn305ξ = 0)) => ?_)
  · have hbt307ξ := (Iff.mp htn305ξ) (by omega)
    refine zp_load (pc := 14) hx hb (zd_X12_mendNow (14, .aload_n 0, 1, 0, []) (List.mem_of_getElem? (i := 8) rfl)) rfl (j := 0) rfl ?_
    refine zp_getf (n := (A 3 : Int)) (pc := 15) hx hb hEξ hwξ (zd_X12_mendNow (15, .getfield 13, 3, 0, []) (List.mem_of_getElem? (i := 9) rfl)) (j := 21) rfl rfl rfl (zM_P hMξ (List.mem_of_getElem? (i := 0) rfl)) ((zM_G hMξ (List.mem_of_getElem? (i := 0) rfl) 3).trans (zM_F hMξ (List.mem_of_getElem? (i := 1) rfl))) ?_
    refine zp_const (pc := 18) hx hb (zd_X12_mendNow (18, .bipush 10, 2, 0, []) (List.mem_of_getElem? (i := 10) rfl)) rfl rfl ?_
    refine zp_ialdT (j := 10) (v := (V 3 (2000 + 10))) (pc := 20) hx hb hwξ (zd_X12_mendNow (20, .iaload, 1, 0, []) (List.mem_of_getElem? (i := 11) rfl)) zl_T59 rfl (zl_kd 10) (zM_P hMξ (List.mem_of_getElem? (i := 2) rfl)) (by omega) (show 10 < 5580 by omega) ((zM_G hMξ (List.mem_of_getElem? (i := 2) rfl) (2000 + 10)).trans (hVξ 3 (2000 + 10) (Or.inl (by decide)))) (fun _ => ?_)
    refine zp_const (pc := 21) hx hb (zd_X12_mendNow (21, .iconst (-1), 1, 0, []) (List.mem_of_getElem? (i := 12) rfl)) rfl rfl ?_
    refine zp_icmp (pc := 22) (tgt := 28) hx hb (zd_X12_mendNow (22, .if_icmp .eq 6, 3, 0, []) (List.mem_of_getElem? (i := 13) rfl)) rfl (fun (hc310ξ : (V 3 (2000 + 10)) = (-1)) => ?_) (fun (hc310ξ : ¬ ((V 3 (2000 + 10)) = (-1))) => ?_)
    · refine zp_load (pc := 28) hx hb (zd_X12_mendNow (28, .aload_n 0, 1, 0, []) (List.mem_of_getElem? (i := 16) rfl)) rfl (j := 0) rfl ?_
      refine zp_const (pc := 29) hx hb (zd_X12_mendNow (29, .iconst 3, 1, 0, []) (List.mem_of_getElem? (i := 17) rfl)) rfl rfl ?_
      refine zp_call (pc := 30) (how := 0) (idx := 496) (mi := 277) (S := []) hx hb hEξ hwξ heffξ hrmξ (zX_rem hWξ A V nuξ) rfl (j := 62) rfl rfl (by decide +kernel) (zd_X12_mendNow (30, .invokevirtual 496, 3, 0, []) (List.mem_of_getElem? (i := 18) rfl)) [(A 0 : Int), 3] rfl ⟨zp_o2 (zM_P hMξ (List.mem_of_getElem? (i := 0) rfl)), zp_o0 (by decide) (by decide) (by decide) (by decide), trivial⟩ (Nat.le_of_ble_eq_true rfl) ⟨⟨M, hMξ, hVξ, hSbξ⟩, rfl, (Eq.trans rfl h8ξ), by omega⟩ (fun al halξ rnr311ξ Pr311 Gr311 hextr311ξ hfrr311ξ hokr311ξ hcsr311ξ hpsir311ξ => ?_)
      obtain rfl := List.mem_singleton.mp halξ
      obtain ⟨hPer311ξ, Mr311, hMr311ξ, hVr311ξ, hSbr311ξ⟩ := hpsir311ξ
      subst hPer311ξ
      clear hextr311ξ hfrr311ξ hcsr311ξ hokr311ξ
      have hVr311ξ : ∀ o k, zNs o k → Mr311 o k = (zT_rem V 3 nuξ) o k := hVr311ξ
      refine zp_load (pc := 33) hx hb (zd_X12_mendNow (33, .aload_n 0, 1, 0, []) (List.mem_of_getElem? (i := 19) rfl)) rfl (j := 0) rfl ?_
      refine zp_getf (n := (A 3 : Int)) (pc := 34) hx hb hEξ hwξ (zd_X12_mendNow (34, .getfield 13, 3, 0, []) (List.mem_of_getElem? (i := 20) rfl)) (j := 21) rfl rfl rfl (zM_P hMr311ξ (List.mem_of_getElem? (i := 0) rfl)) ((zM_G hMr311ξ (List.mem_of_getElem? (i := 0) rfl) 3).trans (zM_F hMr311ξ (List.mem_of_getElem? (i := 1) rfl))) ?_
      refine zp_const (pc := 37) hx hb (zd_X12_mendNow (37, .bipush 8, 2, 0, []) (List.mem_of_getElem? (i := 21) rfl)) rfl rfl ?_
      refine zp_load (pc := 39) hx hb (zd_X12_mendNow (39, .aload_n 0, 1, 0, []) (List.mem_of_getElem? (i := 22) rfl)) rfl (j := 0) rfl ?_
      refine zp_getf (n := (A 3 : Int)) (pc := 40) hx hb hEξ hwξ (zd_X12_mendNow (40, .getfield 13, 3, 0, []) (List.mem_of_getElem? (i := 23) rfl)) (j := 21) rfl rfl rfl (zM_P hMr311ξ (List.mem_of_getElem? (i := 0) rfl)) ((zM_G hMr311ξ (List.mem_of_getElem? (i := 0) rfl) 3).trans (zM_F hMr311ξ (List.mem_of_getElem? (i := 1) rfl))) ?_
      refine zp_const (pc := 43) hx hb (zd_X12_mendNow (43, .bipush 8, 2, 0, []) (List.mem_of_getElem? (i := 24) rfl)) rfl rfl ?_
      refine zp_ialdT (j := 8) (v := (V 3 (2000 + 8))) (pc := 45) hx hb hwξ (zd_X12_mendNow (45, .iaload, 1, 0, []) (List.mem_of_getElem? (i := 25) rfl)) zl_T59 rfl (zl_kd 8) (zM_P hMr311ξ (List.mem_of_getElem? (i := 2) rfl)) (by omega) (show 8 < 5580 by omega) (((zM_G hMr311ξ (List.mem_of_getElem? (i := 2) rfl) (2000 + 8)).trans (hVr311ξ 3 (2000 + 8) (Or.inl (by decide)))).trans (zT_rem_3.trans rfl)) (fun _ => ?_)
      refine zp_load (pc := 46) hx hb (zd_X12_mendNow (46, .iload_n 1, 1, 0, []) (List.mem_of_getElem? (i := 26) rfl)) rfl (j := 1) rfl ?_
      refine zp_add (n := ((V 3 (2000 + 8)) + p1ξ)) (pc := 47) hx hb (zd_X12_mendNow (47, .iadd, 1, 0, []) (List.mem_of_getElem? (i := 27) rfl)) (by omega) (zp_r0 (by omega) (by omega)) ?_
      refine zp_i2l (pc := 48) hx hb (zd_X12_mendNow (48, .i2l, 1, 0, []) (List.mem_of_getElem? (i := 28) rfl)) ?_
      refine zp_const (pc := 49) hx hb (zd_X12_mendNow (49, .iconst 0, 1, 0, []) (List.mem_of_getElem? (i := 29) rfl)) rfl rfl ?_
      refine zp_const (pc := 50) hx hb (zd_X12_mendNow (50, .sipush 9999, 3, 0, []) (List.mem_of_getElem? (i := 30) rfl)) rfl rfl ?_
      refine zp_call (pc := 53) (how := 1) (idx := 427) (mi := 245) (S := [(0, 8), (2, (A 3 : Int))]) hx hb hEξ hwξ heffξ hrmξ (zX_wi hWξ) rfl (j := 45) rfl rfl (by decide +kernel) (zd_X12_mendNow (53, .invokestatic 427, 3, 0, []) (List.mem_of_getElem? (i := 31) rfl)) [((V 3 (2000 + 8)) + p1ξ), 0, 9999] rfl ⟨zp_o1 (zp_r1 (by omega) (by omega)), zp_o0 (by omega) (by omega) (by omega) (by omega), zp_o0 (by omega) (by omega) (by omega) (by omega), trivial⟩ (Nat.le_of_ble_eq_true rfl) (show 0 ≤ 9999 by omega) (fun al halξ rnv313ξ Pv313 Gv313 hextv313ξ hfrv313ξ hokv313ξ hcsv313ξ hpsiv313ξ => ?_)
      obtain rfl := List.mem_singleton.mp halξ
      have hrv313ξ := zp_int (hokv313ξ _ rfl).1
      obtain ⟨hPev313ξ, hGev313ξ, htv313ξ⟩ := hpsiv313ξ
      rw [hPev313ξ, hGev313ξ]
      clear hextv313ξ hfrv313ξ hcsv313ξ hPev313ξ hGev313ξ
      have htv313ξ : rnv313ξ = (max 0 (min 9999 ((V 3 (2000 + 8)) + p1ξ))) := htv313ξ
      have htv313ξ := (Eq.symm htv313ξ)
      subst htv313ξ
      have hxv313ξ : 0 ≤ (max 0 (min 9999 ((V 3 (2000 + 8)) + p1ξ))) ∧ (max 0 (min 9999 ((V 3 (2000 + 8)) + p1ξ))) ≤ 9999 := by omega
      refine zp_iastR (j := 8) (pc := 56) hx hb hwξ heffξ (zd_X12_mendNow (56, .iastore, 1, 0, []) (List.mem_of_getElem? (i := 32) rfl)) (zM_P hMr311ξ (List.mem_of_getElem? (i := 2) rfl)) (by omega) (show 8 < 180 by omega) (zr_st (lo := 0) (hi := 9999) ⟨rfl, rfl, rfl⟩ (by omega) (by omega) (by omega) (by omega)) ⟨1002, rfl, zp_1002 (by omega)⟩ ?_
      refine zp_load (pc := 57) hx hb (zd_X12_mendNow (57, .aload_n 0, 1, 0, []) (List.mem_of_getElem? (i := 33) rfl)) rfl (j := 0) rfl ?_
      refine zp_getf (n := (A 3 : Int)) (pc := 58) hx hb hEξ hwξ (zd_X12_mendNow (58, .getfield 13, 3, 0, []) (List.mem_of_getElem? (i := 34) rfl)) (j := 21) rfl rfl rfl (zM_P hMr311ξ (List.mem_of_getElem? (i := 0) rfl)) ((zp_set_ne (Or.inl (zM_ne hMr311ξ (List.mem_of_getElem? (i := 0) rfl) (List.mem_of_getElem? (i := 2) rfl) (by decide)))).trans (((zM_G hMr311ξ (List.mem_of_getElem? (i := 0) rfl) 3).trans (zM_F hMr311ξ (List.mem_of_getElem? (i := 1) rfl))))) ?_
      refine zp_const (pc := 61) hx hb (zd_X12_mendNow (61, .bipush 9, 2, 0, []) (List.mem_of_getElem? (i := 35) rfl)) rfl rfl ?_
      refine zp_const (pc := 63) hx hb (zd_X12_mendNow (63, .iconst 0, 1, 0, []) (List.mem_of_getElem? (i := 36) rfl)) rfl rfl ?_
      refine zp_iastR (j := 9) (pc := 64) hx hb hwξ heffξ (zd_X12_mendNow (64, .iastore, 1, 0, []) (List.mem_of_getElem? (i := 37) rfl)) (zM_P hMr311ξ (List.mem_of_getElem? (i := 2) rfl)) (by omega) (show 9 < 180 by omega) (zr_st (lo := (-2147483648)) (hi := 2147483647) ⟨rfl, rfl, rfl⟩ (by omega) (by omega) (by omega) (by omega)) ⟨1002, rfl, zp_1002 (by omega)⟩ ?_
      refine zp_load (pc := 65) hx hb (zd_X12_mendNow (65, .aload_n 0, 1, 0, []) (List.mem_of_getElem? (i := 38) rfl)) rfl (j := 0) rfl ?_
      refine zp_getf (n := (A 3 : Int)) (pc := 66) hx hb hEξ hwξ (zd_X12_mendNow (66, .getfield 13, 3, 0, []) (List.mem_of_getElem? (i := 39) rfl)) (j := 21) rfl rfl rfl (zM_P hMr311ξ (List.mem_of_getElem? (i := 0) rfl)) ((zp_set_ne (Or.inl (zM_ne hMr311ξ (List.mem_of_getElem? (i := 0) rfl) (List.mem_of_getElem? (i := 2) rfl) (by decide)))).trans ((zp_set_ne (Or.inl (zM_ne hMr311ξ (List.mem_of_getElem? (i := 0) rfl) (List.mem_of_getElem? (i := 2) rfl) (by decide)))).trans (((zM_G hMr311ξ (List.mem_of_getElem? (i := 0) rfl) 3).trans (zM_F hMr311ξ (List.mem_of_getElem? (i := 1) rfl)))))) ?_
      refine zp_const (pc := 69) hx hb (zd_X12_mendNow (69, .bipush 8, 2, 0, []) (List.mem_of_getElem? (i := 40) rfl)) rfl rfl ?_
      refine zp_ialdT (j := 8) (v := (max 0 (min 9999 ((V 3 (2000 + 8)) + p1ξ)))) (pc := 71) hx hb hwξ (zd_X12_mendNow (71, .iaload, 1, 0, []) (List.mem_of_getElem? (i := 41) rfl)) zl_T59 rfl (zl_kd 8) (zM_P hMr311ξ (List.mem_of_getElem? (i := 2) rfl)) (by omega) (show 8 < 5580 by omega) ((zp_set_ne (Or.inr (by omega))).trans (zp_set_self)) (fun _ => ?_)
      refine zp_iret (pc := 72) (n := (max 0 (min 9999 ((V 3 (2000 + 8)) + p1ξ)))) hx hb hEξ hQξ hU5ξ rfl (by decide) (zd_X12_mendNow (72, .ireturn, 1, 0, []) (List.mem_of_getElem? (i := 42) rfl)) (j := 0) rfl (zp_o0 (by omega) (by omega) (by omega) (by omega)) ?_
      rw [hpsξ]
      refine ⟨rfl, ?_⟩
      have hffξ : zf_mnn V nuξ p1ξ = ((max 0 (min 9999 ((V 3 (2000 + 8)) + p1ξ))), (zp_set (zp_set (zT_rem V 3 nuξ) 3 (2000 + 8) (max 0 (min 9999 ((V 3 (2000 + 8)) + p1ξ)))) 3 (2000 + 9) 0)) := by
        unfold zf_mnn
        rw [if_pos ((Iff.mp htn305ξ) (by omega)), if_pos hc310ξ]
      show zMVr A (zf_mnn V nuξ p1ξ).2 u.1 (zp_set (zp_set Gr311 (A 3) (2000 + 8) (max 0 (min 9999 ((V 3 (2000 + 8)) + p1ξ)))) (A 3) (2000 + 9) 0) ∧ (max 0 (min 9999 ((V 3 (2000 + 8)) + p1ξ))) = (zf_mnn V nuξ p1ξ).1
      rw [hffξ]
      exact ⟨⟨(zp_set (zp_set Mr311 3 (2000 + 8) (max 0 (min 9999 ((V 3 (2000 + 8)) + p1ξ)))) 3 (2000 + 9) 0), (zM_setE (zM_setE hMr311ξ (List.mem_of_getElem? (i := 2) rfl)) (List.mem_of_getElem? (i := 2) rfl)), (zV_set (zV_set hVr311ξ)), (zSb_set (by decide) (zSb_set (by decide) hSbr311ξ))⟩, rfl⟩
    · refine zp_const (pc := 25) hx hb (zd_X12_mendNow (25, .bipush (-3), 2, 0, []) (List.mem_of_getElem? (i := 14) rfl)) rfl rfl ?_
      refine zp_iret (pc := 27) (n := (-3)) hx hb hEξ hQξ hU5ξ rfl (by decide) (zd_X12_mendNow (27, .ireturn, 1, 0, []) (List.mem_of_getElem? (i := 15) rfl)) (j := 0) rfl (zp_o0 (by omega) (by omega) (by omega) (by omega)) ?_
      rw [hpsξ]
      refine ⟨rfl, ?_⟩
      have hffξ : zf_mnn V nuξ p1ξ = ((-3), V) := by
        unfold zf_mnn
        rw [if_pos ((Iff.mp htn305ξ) (by omega)), if_neg hc310ξ]
      show zMVr A (zf_mnn V nuξ p1ξ).2 u.1 (zp_n u.2.1) ∧ (-3) = (zf_mnn V nuξ p1ξ).1
      rw [hffξ]
      exact ⟨⟨M, hMξ, hVξ, hSbξ⟩, rfl⟩
  · have hbf308ξ : ¬ (1 ≤ p1ξ ∧ p1ξ ≤ 9999) := fun h9ξ => absurd ((Iff.mpr htn305ξ) h9ξ) (by omega)
    refine zp_const (pc := 12) hx hb (zd_X12_mendNow (12, .iconst (-1), 1, 0, []) (List.mem_of_getElem? (i := 6) rfl)) rfl rfl ?_
    refine zp_iret (pc := 13) (n := (-1)) hx hb hEξ hQξ hU5ξ rfl (by decide) (zd_X12_mendNow (13, .ireturn, 1, 0, []) (List.mem_of_getElem? (i := 7) rfl)) (j := 0) rfl (zp_o0 (by omega) (by omega) (by omega) (by omega)) ?_
    rw [hpsξ]
    refine ⟨rfl, ?_⟩
    have hffξ : zf_mnn V nuξ p1ξ = ((-1), V) := by
      unfold zf_mnn
      rw [if_neg (fun h9ξ => absurd ((Iff.mpr htn305ξ) h9ξ) (by omega))]
    show zMVr A (zf_mnn V nuξ p1ξ).2 u.1 (zp_n u.2.1) ∧ (-1) = (zf_mnn V nuξ p1ξ).1
    rw [hffξ]
    exact ⟨⟨M, hMξ, hVξ, hSbξ⟩, rfl⟩
noncomputable def zf_kyn (V : Nat → Nat → Int) (nuξ npξ : Nat) (Lwξ : List yK) (p1ξ : Int) (p2ξ : Int) : Int × (Nat → Nat → Int) := if 1 ≤ p2ξ ∧ p2ξ ≤ 9 then if 0 ≤ p1ξ ∧ p1ξ < (npξ : Int) then if 9 < ((V 3 (2000 + (3 * p1ξ.toNat + 13))) + p2ξ) then ((-3), V) else if (zd_ba V Lwξ p1ξ ((V 3 (2000 + (3 * p1ξ.toNat + 13))) + p2ξ)) = 1 then ((-3), V) else (((V 3 (2000 + (3 * p1ξ.toNat + 13))) + p2ξ), (zp_set (zT_rem V 1 nuξ) 3 (2000 + (3 * p1ξ.toNat + 13)) ((V 3 (2000 + (3 * p1ξ.toNat + 13))) + p2ξ))) else ((-2), V) else ((-1), V)
noncomputable def zK_kyn : zk_K := (zt_mn 280, prog_14_method_101_code, 4, (Option.some Jvm.ClassFile.FieldType.int), 1, 12, [(2, 13, 0, 0), (0, 0, (-2147483648), 2147483647), (0, 0, (-2147483648), 2147483647)], [(some (0, 0, (-2147483648), 2147483647), [])], zUE, (6, 340, 0, 0))
noncomputable def zφ_kyn (A : Nat → Nat) (V : Nat → Nat → Int) (nuξ npξ : Nat) (Lwξ : List yK) : (Nat → Option Nat) → (Nat → Nat → Int) → List Int → Prop := fun P G ps => zMVr A V P G ∧ ps.getD 0 0 = (A 0 : Int) ∧ zLV V Lwξ ∧ V 0 8 = (nuξ : Int) ∧ nuξ ≤ 16 ∧ V 3 (2000 + 0) = (npξ : Int) ∧ npξ ≤ 6 ∧ (∀ p, p < npξ → 0 ≤ V 3 (2000 + (3 * p + 13)) ∧ V 3 (2000 + (3 * p + 13)) ≤ 9)
noncomputable def zψ_kyn (A : Nat → Nat) (V : Nat → Nat → Int) (nuξ npξ : Nat) (Lwξ : List yK) : (Nat → Option Nat) → (Nat → Nat → Int) → List Int → (Nat → Option Nat) → (Nat → Nat → Int) → Int → Prop := fun P G ps P' G' rn => P' = P ∧ zMVr A (zf_kyn V nuξ npξ Lwξ (ps.getD 1 0) (ps.getD 2 0)).2 P' G' ∧ rn = (zf_kyn V nuξ npξ Lwξ (ps.getD 1 0) (ps.getD 2 0)).1
theorem zX_kyn {l : Launch} {w : zk_W} (hWξ : zh_W w) (A : Nat → Nat) (V : Nat → Nat → Int) (nuξ npξ : Nat) (Lwξ : List yK) : zk_metX l w zt_dv zt_TB zK_kyn (zp_A (zφ_kyn A V nuξ npξ Lwξ)) (zp_B (zψ_kyn A V nuξ npξ Lwξ)) ∧ zk_cok w zt_TB zK_kyn := by
  refine zp_methX (cn := "WoundTownModel") zp_lkall hWξ (pl := 1974) rfl (by decide +kernel) (fun p e R s m args below meth c Q u hx hb hEξ hQξ hU5ξ heffξ hnLξ hokξ hφ => ?_)
  have hwξ := hWξ.1
  obtain ⟨p0ξ, p1ξ, p2ξ, hpsξ, tk0, tk1, tk2⟩ := zp_ps3 hokξ
  have hrmξ : zk_Kr (zk_ev (zt_types, zp_lk, zt_dv, [], [], zp_lc, zK_kyn)) = zk_Kr zK_kyn := rfl
  rw [hpsξ] at hφ ⊢
  have hφ : zMVr A V u.1 (zp_n u.2.1) ∧ p0ξ = (A 0 : Int) ∧ zLV V Lwξ ∧ V 0 8 = (nuξ : Int) ∧ nuξ ≤ 16 ∧ V 3 (2000 + 0) = (npξ : Int) ∧ npξ ≤ 6 ∧ (∀ p, p < npξ → 0 ≤ V 3 (2000 + (3 * p + 13)) ∧ V 3 (2000 + (3 * p + 13)) ≤ 9) := hφ
  obtain ⟨⟨M, hMξ, hVξ, hSbξ⟩, rfl, hLVξ, h8ξ, hn16ξ, hnpξ, hnp6ξ, hLtξ⟩ := hφ
  have hi1ξ := zp_int tk1
  have hi2ξ := zp_int tk2
  show zp_J p l e R s m args below meth c Q w u [] 0 [(0, 2, (A 0 : Int)), (1, 0, p1ξ), (2, 0, p2ξ)] [] u.1 (zp_n u.2.1)
  refine zp_load (pc := 0) hx hb (zd_X12_keyNow (0, .iload_n 2, 1, 0, []) (List.mem_of_getElem? (i := 0) rfl)) rfl (j := 2) rfl ?_
  refine zp_i2l (pc := 1) hx hb (zd_X12_keyNow (1, .i2l, 1, 0, []) (List.mem_of_getElem? (i := 1) rfl)) ?_
  refine zp_const (pc := 2) hx hb (zd_X12_keyNow (2, .lconst 1, 1, 0, []) (List.mem_of_getElem? (i := 2) rfl)) rfl rfl ?_
  refine zp_ldc2 (pc := 3) hx hb hEξ (zd_X12_keyNow (3, .ldc2_w 199, 3, 0, []) (List.mem_of_getElem? (i := 3) rfl)) (j := 84) rfl ?_
  refine zp_call (pc := 6) (how := 1) (idx := 181) (mi := 186) (S := []) hx hb hEξ hwξ heffξ hrmξ (zX_in2 hWξ) rfl (j := 2) rfl rfl (by decide +kernel) (zd_X12_keyNow (6, .invokestatic 181, 3, 0, []) (List.mem_of_getElem? (i := 4) rfl)) [p2ξ, 1, 9] rfl ⟨zp_o1 (by first | assumption | exact zp_r1 (by omega) (by omega)), zp_o1 (by first | assumption | exact zp_r1 (by omega) (by omega)), zp_o1 (by first | assumption | exact zp_r1 (by omega) (by omega)), trivial⟩ (Nat.le_of_ble_eq_true rfl) trivial (fun al halξ rnn315ξ Pn315 Gn315 hextn315ξ hfrn315ξ hokn315ξ hcsn315ξ hpsin315ξ => ?_)
  obtain rfl := List.mem_singleton.mp halξ
  have hrn315ξ := zp_int (hokn315ξ _ rfl).1
  obtain ⟨hPen315ξ, hGen315ξ, htn315ξ⟩ := hpsin315ξ
  rw [hPen315ξ, hGen315ξ]
  clear hextn315ξ hfrn315ξ hcsn315ξ hPen315ξ hGen315ξ
  have htn315ξ : rnn315ξ = 1 ↔ 1 ≤ p2ξ ∧ p2ξ ≤ 9 := htn315ξ
  refine zp_if (pc := 9) (tgt := 14) hx hb (zd_X12_keyNow (9, .ifCond .ne 5, 3, 0, []) (List.mem_of_getElem? (i := 5) rfl)) rfl (fun (hc316ξ : ¬ rnn315ξ = 0) => ?_) (fun (hc316ξ : ¬ (¬ rnn315ξ = 0)) => ?_)
  · have hbt317ξ := (Iff.mp htn315ξ) (by omega)
    refine zp_load (pc := 14) hx hb (zd_X12_keyNow (14, .aload_n 0, 1, 0, []) (List.mem_of_getElem? (i := 8) rfl)) rfl (j := 0) rfl ?_
    refine zp_load (pc := 15) hx hb (zd_X12_keyNow (15, .iload_n 1, 1, 0, []) (List.mem_of_getElem? (i := 9) rfl)) rfl (j := 1) rfl ?_
    refine zp_call (pc := 16) (how := 0) (idx := 201) (mi := 193) (S := []) hx hb hEξ hwξ heffξ hrmξ (zX_isp hWξ A M) rfl (j := 5) rfl rfl (by decide +kernel) (zd_X12_keyNow (16, .invokevirtual 201, 3, 0, []) (List.mem_of_getElem? (i := 10) rfl)) [(A 0 : Int), p1ξ] rfl ⟨zp_o2 (zM_P hMξ (List.mem_of_getElem? (i := 0) rfl)), zp_o0 (by omega) (by omega) (by omega) (by omega), trivial⟩ (Nat.le_of_ble_eq_true rfl) ⟨hMξ, rfl, (show -2147483647 ≤ M 3 (2000 + 0) ∧ M 3 (2000 + 0) ≤ 2147483647 by rw [((hVξ 3 (2000 + 0) (Or.inl (by decide))).trans hnpξ)]; omega)⟩ (fun al halξ rni319ξ Pi319 Gi319 hexti319ξ hfri319ξ hoki319ξ hcsi319ξ hpsii319ξ => ?_)
    obtain rfl := List.mem_singleton.mp halξ
    have hri319ξ := zp_int (hoki319ξ _ rfl).1
    obtain ⟨hPei319ξ, hGei319ξ, hti319ξ⟩ := hpsii319ξ
    rw [hPei319ξ, hGei319ξ]
    clear hexti319ξ hfri319ξ hcsi319ξ hPei319ξ hGei319ξ
    have hti319ξ : rni319ξ = 1 ↔ 0 ≤ p1ξ ∧ p1ξ < (npξ : Int) := by
      have h9ξ : rni319ξ = 1 ↔ 0 ≤ p1ξ ∧ p1ξ < M 3 (2000 + 0) := hti319ξ
      rw [((hVξ 3 (2000 + 0) (Or.inl (by decide))).trans hnpξ)] at h9ξ
      exact h9ξ
    refine zp_if (pc := 19) (tgt := 25) hx hb (zd_X12_keyNow (19, .ifCond .ne 6, 3, 0, []) (List.mem_of_getElem? (i := 11) rfl)) rfl (fun (hc320ξ : ¬ rni319ξ = 0) => ?_) (fun (hc320ξ : ¬ (¬ rni319ξ = 0)) => ?_)
    · have hbt321ξ := (Iff.mp hti319ξ) (by omega)
      refine zp_load (pc := 25) hx hb (zd_X12_keyNow (25, .aload_n 0, 1, 0, []) (List.mem_of_getElem? (i := 14) rfl)) rfl (j := 0) rfl ?_
      refine zp_load (pc := 26) hx hb (zd_X12_keyNow (26, .iload_n 1, 1, 0, []) (List.mem_of_getElem? (i := 15) rfl)) rfl (j := 1) rfl ?_
      refine zp_const (pc := 27) hx hb (zd_X12_keyNow (27, .iconst 2, 1, 0, []) (List.mem_of_getElem? (i := 16) rfl)) rfl rfl ?_
      have hr324ξ := hLVξ.1 (3 * p1ξ.toNat + 13) (by omega)
      have hl325ξ := hLtξ p1ξ.toNat (by omega)
      refine zp_call (pc := 28) (how := 0) (idx := 207) (mi := 195) (S := []) hx hb hEξ hwξ heffξ hrmξ (zX_ofp hWξ A M p1ξ.toNat 2) rfl (j := 6) rfl rfl (by decide +kernel) (zd_X12_keyNow (28, .invokevirtual 207, 3, 0, []) (List.mem_of_getElem? (i := 17) rfl)) [(A 0 : Int), p1ξ, 2] rfl ⟨zp_o2 (zM_P hMξ (List.mem_of_getElem? (i := 0) rfl)), zp_o0 (by omega) (by omega) (by omega) (by omega), zp_o0 (by decide) (by decide) (by decide) (by decide), trivial⟩ (Nat.le_of_ble_eq_true rfl) ⟨hMξ, rfl, (show p1ξ = ((p1ξ.toNat : Nat) : Int) by omega), rfl, (show -2147483648 ≤ M 3 (2000 + (3 * p1ξ.toNat + 13)) ∧ M 3 (2000 + (3 * p1ξ.toNat + 13)) ≤ 2147483647 by rw [(hVξ 3 (2000 + (3 * p1ξ.toNat + 13)) (Or.inl (by decide)))]; omega)⟩ (fun al halξ rnf323ξ Pf323 Gf323 hextf323ξ hfrf323ξ hokf323ξ hcsf323ξ hpsif323ξ => ?_)
      obtain rfl := List.mem_singleton.mp halξ
      have hrf323ξ := zp_int (hokf323ξ _ rfl).1
      obtain ⟨hPef323ξ, hGef323ξ, htf323ξ⟩ := hpsif323ξ
      rw [hPef323ξ, hGef323ξ]
      clear hextf323ξ hfrf323ξ hcsf323ξ hPef323ξ hGef323ξ
      have htf323ξ : rnf323ξ = (V 3 (2000 + (3 * p1ξ.toNat + 13))) := (Eq.trans htf323ξ) ((hVξ 3 (2000 + (3 * p1ξ.toNat + 13)) (Or.inl (by decide))))
      have htf323ξ := (Eq.symm htf323ξ)
      subst htf323ξ
      refine zp_load (pc := 31) hx hb (zd_X12_keyNow (31, .iload_n 2, 1, 0, []) (List.mem_of_getElem? (i := 18) rfl)) rfl (j := 2) rfl ?_
      refine zp_add (n := ((V 3 (2000 + (3 * p1ξ.toNat + 13))) + p2ξ)) (pc := 32) hx hb (zd_X12_keyNow (32, .iadd, 1, 0, []) (List.mem_of_getElem? (i := 19) rfl)) (by omega) (zp_r0 (by omega) (by omega)) ?_
      refine zp_store (L' := [(3, 0, ((V 3 (2000 + (3 * p1ξ.toNat + 13))) + p2ξ)), (0, 2, (A 0 : Int)), (1, 0, p1ξ), (2, 0, p2ξ)]) (pc := 33) hx hb hnLξ (zd_X12_keyNow (33, .istore_n 3, 1, 0, []) (List.mem_of_getElem? (i := 20) rfl)) rfl rfl rfl ?_
      refine zp_load (pc := 34) hx hb (zd_X12_keyNow (34, .iload_n 3, 1, 0, []) (List.mem_of_getElem? (i := 21) rfl)) rfl (j := 0) rfl ?_
      refine zp_const (pc := 35) hx hb (zd_X12_keyNow (35, .bipush 9, 2, 0, []) (List.mem_of_getElem? (i := 22) rfl)) rfl rfl ?_
      refine zp_icmp (pc := 37) (tgt := 49) hx hb (zd_X12_keyNow (37, .if_icmp .gt 12, 3, 0, []) (List.mem_of_getElem? (i := 23) rfl)) rfl (fun (hc326ξ : 9 < ((V 3 (2000 + (3 * p1ξ.toNat + 13))) + p2ξ)) => ?_) (fun (hc326ξ : ¬ (9 < ((V 3 (2000 + (3 * p1ξ.toNat + 13))) + p2ξ))) => ?_)
      · refine zp_const (pc := 49) hx hb (zd_X12_keyNow (49, .bipush (-3), 2, 0, []) (List.mem_of_getElem? (i := 29) rfl)) rfl rfl ?_
        refine zp_iret (pc := 51) (n := (-3)) hx hb hEξ hQξ hU5ξ rfl (by decide) (zd_X12_keyNow (51, .ireturn, 1, 0, []) (List.mem_of_getElem? (i := 30) rfl)) (j := 0) rfl (zp_o0 (by omega) (by omega) (by omega) (by omega)) ?_
        rw [hpsξ]
        refine ⟨rfl, ?_⟩
        have hffξ : zf_kyn V nuξ npξ Lwξ p1ξ p2ξ = ((-3), V) := by
          unfold zf_kyn
          rw [if_pos ((Iff.mp htn315ξ) (by omega)), if_pos ((Iff.mp hti319ξ) (by omega)), if_pos hc326ξ]
        show zMVr A (zf_kyn V nuξ npξ Lwξ p1ξ p2ξ).2 u.1 (zp_n u.2.1) ∧ (-3) = (zf_kyn V nuξ npξ Lwξ p1ξ p2ξ).1
        rw [hffξ]
        exact ⟨⟨M, hMξ, hVξ, hSbξ⟩, rfl⟩
      · refine zp_load (pc := 40) hx hb (zd_X12_keyNow (40, .aload_n 0, 1, 0, []) (List.mem_of_getElem? (i := 24) rfl)) rfl (j := 1) rfl ?_
        refine zp_load (pc := 41) hx hb (zd_X12_keyNow (41, .iload_n 1, 1, 0, []) (List.mem_of_getElem? (i := 25) rfl)) rfl (j := 2) rfl ?_
        refine zp_load (pc := 42) hx hb (zd_X12_keyNow (42, .iload_n 3, 1, 0, []) (List.mem_of_getElem? (i := 26) rfl)) rfl (j := 0) rfl ?_
        refine zp_call (pc := 43) (how := 0) (idx := 505) (mi := 281) (S := []) hx hb hEξ hwξ heffξ hrmξ (zX_isb hWξ A V Lwξ) rfl (j := 65) rfl rfl (by decide +kernel) (zd_X12_keyNow (43, .invokevirtual 505, 3, 0, []) (List.mem_of_getElem? (i := 27) rfl)) [(A 0 : Int), p1ξ, ((V 3 (2000 + (3 * p1ξ.toNat + 13))) + p2ξ)] rfl ⟨zp_o2 (zM_P hMξ (List.mem_of_getElem? (i := 0) rfl)), zp_o0 (by omega) (by omega) (by omega) (by omega), zp_o0 (by omega) (by omega) (by omega) (by omega), trivial⟩ (Nat.le_of_ble_eq_true rfl) ⟨⟨M, hMξ, hVξ, hSbξ⟩, rfl, hLVξ⟩ (fun al halξ rnb327ξ Pb327 Gb327 hextb327ξ hfrb327ξ hokb327ξ hcsb327ξ hpsib327ξ => ?_)
        obtain rfl := List.mem_singleton.mp halξ
        have hrb327ξ := zp_int (hokb327ξ _ rfl).1
        obtain ⟨hPeb327ξ, ⟨Mb327, hMb327ξ, hVb327ξ, hSbb327ξ⟩, htb327ξ⟩ := hpsib327ξ
        subst hPeb327ξ
        clear hextb327ξ hfrb327ξ hcsb327ξ hokb327ξ
        have hVb327ξ : ∀ o k, zNs o k → Mb327 o k = V o k := hVb327ξ
        have htb327ξ : rnb327ξ = 1 ↔ (zd_ba V Lwξ p1ξ ((V 3 (2000 + (3 * p1ξ.toNat + 13))) + p2ξ)) = 1 := htb327ξ
        refine zp_if (pc := 46) (tgt := 52) hx hb (zd_X12_keyNow (46, .ifCond .eq 6, 3, 0, []) (List.mem_of_getElem? (i := 28) rfl)) rfl (fun (hc328ξ : rnb327ξ = 0) => ?_) (fun (hc328ξ : ¬ (rnb327ξ = 0)) => ?_)
        · have hbf329ξ : ¬ ((zd_ba V Lwξ p1ξ ((V 3 (2000 + (3 * p1ξ.toNat + 13))) + p2ξ)) = 1) := fun h9ξ => absurd ((Iff.mpr htb327ξ) h9ξ) (by omega)
          refine zp_load (pc := 52) hx hb (zd_X12_keyNow (52, .aload_n 0, 1, 0, []) (List.mem_of_getElem? (i := 31) rfl)) rfl (j := 1) rfl ?_
          refine zp_const (pc := 53) hx hb (zd_X12_keyNow (53, .iconst 1, 1, 0, []) (List.mem_of_getElem? (i := 32) rfl)) rfl rfl ?_
          refine zp_call (pc := 54) (how := 0) (idx := 496) (mi := 277) (S := []) hx hb hEξ hwξ heffξ hrmξ (zX_rem hWξ A V nuξ) rfl (j := 62) rfl rfl (by decide +kernel) (zd_X12_keyNow (54, .invokevirtual 496, 3, 0, []) (List.mem_of_getElem? (i := 33) rfl)) [(A 0 : Int), 1] rfl ⟨zp_o2 (zM_P hMb327ξ (List.mem_of_getElem? (i := 0) rfl)), zp_o0 (by decide) (by decide) (by decide) (by decide), trivial⟩ (Nat.le_of_ble_eq_true rfl) ⟨⟨Mb327, hMb327ξ, hVb327ξ, hSbb327ξ⟩, rfl, (Eq.trans rfl h8ξ), by omega⟩ (fun al halξ rnr331ξ Pr331 Gr331 hextr331ξ hfrr331ξ hokr331ξ hcsr331ξ hpsir331ξ => ?_)
          obtain rfl := List.mem_singleton.mp halξ
          obtain ⟨hPer331ξ, Mr331, hMr331ξ, hVr331ξ, hSbr331ξ⟩ := hpsir331ξ
          subst hPer331ξ
          clear hextr331ξ hfrr331ξ hcsr331ξ hokr331ξ
          have hVr331ξ : ∀ o k, zNs o k → Mr331 o k = (zT_rem V 1 nuξ) o k := hVr331ξ
          refine zp_load (pc := 57) hx hb (zd_X12_keyNow (57, .aload_n 0, 1, 0, []) (List.mem_of_getElem? (i := 34) rfl)) rfl (j := 1) rfl ?_
          refine zp_getf (n := (A 3 : Int)) (pc := 58) hx hb hEξ hwξ (zd_X12_keyNow (58, .getfield 13, 3, 0, []) (List.mem_of_getElem? (i := 35) rfl)) (j := 21) rfl rfl rfl (zM_P hMr331ξ (List.mem_of_getElem? (i := 0) rfl)) ((zM_G hMr331ξ (List.mem_of_getElem? (i := 0) rfl) 3).trans (zM_F hMr331ξ (List.mem_of_getElem? (i := 1) rfl))) ?_
          refine zp_const (pc := 61) hx hb (zd_X12_keyNow (61, .bipush 11, 2, 0, []) (List.mem_of_getElem? (i := 36) rfl)) rfl rfl ?_
          refine zp_const (pc := 63) hx hb (zd_X12_keyNow (63, .iconst 3, 1, 0, []) (List.mem_of_getElem? (i := 37) rfl)) rfl rfl ?_
          refine zp_load (pc := 64) hx hb (zd_X12_keyNow (64, .iload_n 1, 1, 0, []) (List.mem_of_getElem? (i := 38) rfl)) rfl (j := 2) rfl ?_
          refine zp_mul (n := (3 * p1ξ)) (pc := 65) hx hb (zd_X12_keyNow (65, .imul, 1, 0, []) (List.mem_of_getElem? (i := 39) rfl)) (by omega) (zp_r0 (by omega) (by omega)) ?_
          refine zp_add (n := (11 + (3 * p1ξ))) (pc := 66) hx hb (zd_X12_keyNow (66, .iadd, 1, 0, []) (List.mem_of_getElem? (i := 40) rfl)) (by omega) (zp_r0 (by omega) (by omega)) ?_
          refine zp_const (pc := 67) hx hb (zd_X12_keyNow (67, .iconst 2, 1, 0, []) (List.mem_of_getElem? (i := 41) rfl)) rfl rfl ?_
          refine zp_add (n := ((11 + (3 * p1ξ)) + 2)) (pc := 68) hx hb (zd_X12_keyNow (68, .iadd, 1, 0, []) (List.mem_of_getElem? (i := 42) rfl)) (by omega) (zp_r0 (by omega) (by omega)) ?_
          refine zp_load (pc := 69) hx hb (zd_X12_keyNow (69, .iload_n 3, 1, 0, []) (List.mem_of_getElem? (i := 43) rfl)) rfl (j := 0) rfl ?_
          refine zp_iastR (j := (3 * p1ξ.toNat + 13)) (pc := 70) hx hb hwξ heffξ (zd_X12_keyNow (70, .iastore, 1, 0, []) (List.mem_of_getElem? (i := 44) rfl)) (zM_P hMr331ξ (List.mem_of_getElem? (i := 2) rfl)) (by omega) (show (3 * p1ξ.toNat + 13) < 180 by omega) (zr_st (lo := 0) (hi := 9) (zr_l p1ξ.toNat (by omega)) (by omega) (by omega) (by omega) (by omega)) ⟨1002, rfl, zp_1002 (by omega)⟩ ?_
          refine zp_load (pc := 71) hx hb (zd_X12_keyNow (71, .iload_n 3, 1, 0, []) (List.mem_of_getElem? (i := 45) rfl)) rfl (j := 0) rfl ?_
          refine zp_iret (pc := 72) (n := ((V 3 (2000 + (3 * p1ξ.toNat + 13))) + p2ξ)) hx hb hEξ hQξ hU5ξ rfl (by decide) (zd_X12_keyNow (72, .ireturn, 1, 0, []) (List.mem_of_getElem? (i := 46) rfl)) (j := 0) rfl (zp_o0 (by omega) (by omega) (by omega) (by omega)) ?_
          rw [hpsξ]
          refine ⟨rfl, ?_⟩
          have hffξ : zf_kyn V nuξ npξ Lwξ p1ξ p2ξ = (((V 3 (2000 + (3 * p1ξ.toNat + 13))) + p2ξ), (zp_set (zT_rem V 1 nuξ) 3 (2000 + (3 * p1ξ.toNat + 13)) ((V 3 (2000 + (3 * p1ξ.toNat + 13))) + p2ξ))) := by
            unfold zf_kyn
            rw [if_pos ((Iff.mp htn315ξ) (by omega)), if_pos ((Iff.mp hti319ξ) (by omega)), if_neg hc326ξ, if_neg (fun h9ξ => absurd ((Iff.mpr htb327ξ) h9ξ) (by omega))]
          show zMVr A (zf_kyn V nuξ npξ Lwξ p1ξ p2ξ).2 u.1 (zp_set Gr331 (A 3) (2000 + (3 * p1ξ.toNat + 13)) ((V 3 (2000 + (3 * p1ξ.toNat + 13))) + p2ξ)) ∧ ((V 3 (2000 + (3 * p1ξ.toNat + 13))) + p2ξ) = (zf_kyn V nuξ npξ Lwξ p1ξ p2ξ).1
          rw [hffξ]
          exact ⟨⟨(zp_set Mr331 3 (2000 + (3 * p1ξ.toNat + 13)) ((V 3 (2000 + (3 * p1ξ.toNat + 13))) + p2ξ)), (zM_setE hMr331ξ (List.mem_of_getElem? (i := 2) rfl)), (zV_set hVr331ξ), (zSb_set (by decide) hSbr331ξ)⟩, rfl⟩
        · have hbt330ξ := (Iff.mp htb327ξ) (by omega)
          refine zp_const (pc := 49) hx hb (zd_X12_keyNow (49, .bipush (-3), 2, 0, []) (List.mem_of_getElem? (i := 29) rfl)) rfl rfl ?_
          refine zp_iret (pc := 51) (n := (-3)) hx hb hEξ hQξ hU5ξ rfl (by decide) (zd_X12_keyNow (51, .ireturn, 1, 0, []) (List.mem_of_getElem? (i := 30) rfl)) (j := 0) rfl (zp_o0 (by omega) (by omega) (by omega) (by omega)) ?_
          rw [hpsξ]
          refine ⟨rfl, ?_⟩
          have hffξ : zf_kyn V nuξ npξ Lwξ p1ξ p2ξ = ((-3), V) := by
            unfold zf_kyn
            rw [if_pos ((Iff.mp htn315ξ) (by omega)), if_pos ((Iff.mp hti319ξ) (by omega)), if_neg hc326ξ, if_pos ((Iff.mp htb327ξ) (by omega))]
          show zMVr A (zf_kyn V nuξ npξ Lwξ p1ξ p2ξ).2 u.1 Gb327 ∧ (-3) = (zf_kyn V nuξ npξ Lwξ p1ξ p2ξ).1
          rw [hffξ]
          exact ⟨⟨Mb327, hMb327ξ, hVb327ξ, hSbb327ξ⟩, rfl⟩
    · have hbf322ξ : ¬ (0 ≤ p1ξ ∧ p1ξ < (npξ : Int)) := fun h9ξ => absurd ((Iff.mpr hti319ξ) h9ξ) (by omega)
      refine zp_const (pc := 22) hx hb (zd_X12_keyNow (22, .bipush (-2), 2, 0, []) (List.mem_of_getElem? (i := 12) rfl)) rfl rfl ?_
      refine zp_iret (pc := 24) (n := (-2)) hx hb hEξ hQξ hU5ξ rfl (by decide) (zd_X12_keyNow (24, .ireturn, 1, 0, []) (List.mem_of_getElem? (i := 13) rfl)) (j := 0) rfl (zp_o0 (by omega) (by omega) (by omega) (by omega)) ?_
      rw [hpsξ]
      refine ⟨rfl, ?_⟩
      have hffξ : zf_kyn V nuξ npξ Lwξ p1ξ p2ξ = ((-2), V) := by
        unfold zf_kyn
        rw [if_pos ((Iff.mp htn315ξ) (by omega)), if_neg (fun h9ξ => absurd ((Iff.mpr hti319ξ) h9ξ) (by omega))]
      show zMVr A (zf_kyn V nuξ npξ Lwξ p1ξ p2ξ).2 u.1 (zp_n u.2.1) ∧ (-2) = (zf_kyn V nuξ npξ Lwξ p1ξ p2ξ).1
      rw [hffξ]
      exact ⟨⟨M, hMξ, hVξ, hSbξ⟩, rfl⟩
  · have hbf318ξ : ¬ (1 ≤ p2ξ ∧ p2ξ ≤ 9) := fun h9ξ => absurd ((Iff.mpr htn315ξ) h9ξ) (by omega)
    refine zp_const (pc := 12) hx hb (zd_X12_keyNow (12, .iconst (-1), 1, 0, []) (List.mem_of_getElem? (i := 6) rfl)) rfl rfl ?_
    refine zp_iret (pc := 13) (n := (-1)) hx hb hEξ hQξ hU5ξ rfl (by decide) (zd_X12_keyNow (13, .ireturn, 1, 0, []) (List.mem_of_getElem? (i := 7) rfl)) (j := 0) rfl (zp_o0 (by omega) (by omega) (by omega) (by omega)) ?_
    rw [hpsξ]
    refine ⟨rfl, ?_⟩
    have hffξ : zf_kyn V nuξ npξ Lwξ p1ξ p2ξ = ((-1), V) := by
      unfold zf_kyn
      rw [if_neg (fun h9ξ => absurd ((Iff.mpr htn315ξ) h9ξ) (by omega))]
    show zMVr A (zf_kyn V nuξ npξ Lwξ p1ξ p2ξ).2 u.1 (zp_n u.2.1) ∧ (-1) = (zf_kyn V nuξ npξ Lwξ p1ξ p2ξ).1
    rw [hffξ]
    exact ⟨⟨M, hMξ, hVξ, hSbξ⟩, rfl⟩
