/-! part d8: the class's reader: a clause of orders, the text -/
theorem yt_ho_eq {so : Nat → Nat} {wo : Nat → Int} {p : Nat} : yt_ho so wo p = if so p = 1 then ych [763332, 11449, 19118, 431556] 0 (wo p) else -1 := by
  unfold yt_ho
  by_cases h1 : so p = 1
  · have e : ∀ c, (yr_w so wo c p = true) = (wo p = c) := fun c => propext ⟨fun z => (yr_w_i.mp z).2, fun z => yr_w_i.mpr ⟨h1, z⟩⟩
    rw [if_pos h1]
    simp only [e]
    rfl
  · have e : ∀ c, ¬ (yr_w so wo c p = true) := fun c z => h1 (yr_w_i.mp z).1
    rw [if_neg h1, if_neg (e _), if_neg (e _), if_neg (e _), if_neg (e _)]
theorem yt_ho_r (so : Nat → Nat) (wo : Nat → Int) (p : Nat) : yt_ho so wo p = -1 ∨ (0 ≤ yt_ho so wo p ∧ yt_ho so wo p ≤ 3 ∧ so p = 1) := by
  rw [yt_ho_eq]
  by_cases h : so p = 1
  · rw [if_pos h]
    have := ych_r [763332, 11449, 19118, 431556] 0 (wo p)
    have e : (([763332, 11449, 19118, 431556] : List Int).length : Int) = 4 := rfl
    rcases this with z | z
    · exact Or.inl z
    · exact Or.inr ⟨by omega, by omega, h⟩
  · rw [if_neg h]
    exact Or.inl rfl
theorem yt_nu_i {so : Nat → Nat} {wo : Nat → Int} {lo hi : Int} {p : Nat} : yt_nu so wo lo hi p = true ↔ so p = 2 ∧ lo ≤ wo p ∧ wo p ≤ hi := by
  unfold yt_nu
  rw [Bool.and_eq_true, Bool.and_eq_true, decide_eq_true_eq, decide_eq_true_eq, decide_eq_true_eq]
noncomputable def zφ_rep (t x b cd : Nat) (B : Nat → Int) (ln tk nl : Nat) (C : Nat → Int) (sz uu : Nat) (ord : Bool) (bb : Nat → Nat) (cl : Nat) : (Nat → Option Nat) → (Nat → Nat → Int) → List Int → Prop := fun P G ps => zT P (zp_0 ps) t x b cd G B ln tk nl C sz ord ∧ zU P x G bb (cl + 1) ∧ cl < 12 ∧ G (bb 3) (2000 + cl) = 1
noncomputable def zψ_rep (t x b cd : Nat) (B : Nat → Int) (ln tk nl : Nat) (C : Nat → Int) (sz uu : Nat) (ord : Bool) (bb : Nat → Nat) (cl : Nat) : (Nat → Option Nat) → (Nat → Nat → Int) → List Int → (Nat → Option Nat) → (Nat → Nat → Int) → Int → Prop := fun P G ps P' G' rn => P' = P ∧ ∃ s, yt_ti (zy_so B ln) (zy_wo B ln) (zy_to B ln) tk s ∧ ((∃ q, s = Sum.inl q ∧ rn = 0 ∧ ∃ (nl' : Nat) (C' : Nat → Int) (sz' : Nat), zT P (zp_0 ps) t x b cd G' B ln q nl' C' sz' ord) ∨ ∃ (p1 : Nat) (m9 : Int), s = Sum.inr (p1, m9) ∧ rn = 1 ∧ zT P (zp_0 ps) t x b cd G' B ln p1 nl C sz ord ∧ zU P x G' bb (cl + 1) ∧ zy_fr B ln tk ≤ zy_fr B ln p1 ∧ (∀ j, j ≠ cl → G' (bb 3) (2000 + j) = G (bb 3) (2000 + j)) ∧ G' (bb 3) (2000 + cl) = m9)
noncomputable def zK_rep : zk_K := (zt_mn 69, prog_7_method_5_code, 2, (Option.some Jvm.ClassFile.FieldType.boolean), 1, 5, [(2, 5, 0, 0)], [(some (0, 0, 0, 1), [])], [(7, 3, 0), (7, 5, 0), (7, 2, 0), (7, 4, 0), (33, 1001, 0)], (11, 267, 0, 0))
theorem zX_rep {l : Launch} {w : zk_W} (hW : zh_W w) (t x b cd : Nat) (B : Nat → Int) (ln tk nl : Nat) (C : Nat → Int) (sz uu : Nat) (ord : Bool) (bb : Nat → Nat) (cl : Nat) : zk_metX l w zt_dv zt_TB zK_rep (zp_A (zφ_rep t x b cd B ln tk nl C sz uu ord bb cl)) (zp_B (zψ_rep t x b cd B ln tk nl C sz uu ord bb cl)) ∧ zk_cok w zt_TB zK_rep := by
  refine zp_methX (cn := "WoundTown$Reader") zp_lkallRd hW (pl := 836) rfl (by decide +kernel) (fun p e R s m args below meth c Q u hx hb hE hQ hU5 heff hnL hok hφ => ?_)
  have hw := hW.1
  obtain ⟨p0, hps, k0⟩ := zp_ps1 hok
  obtain ⟨a, rfl, hp⟩ := zp_this k0
  have hrm : zk_Kr (zk_ev (zt_types, zp_lkRd, zt_dv, [], [], zp_lcRd, zK_rep)) = zk_Kr zK_rep := rfl
  rw [hps] at hφ ⊢
  show zp_J p l e R s m args below meth c Q w u [] 0 [(0, 2, (a : Int))] [] u.1 (zp_n u.2.1)
  have hφ : zT u.1 a t x b cd (zp_n u.2.1) B ln tk nl C sz ord ∧ zU u.1 x (zp_n u.2.1) bb (cl + 1) ∧ cl < 12 ∧ zp_n u.2.1 (bb 3) (2000 + cl) = 1 := hφ
  obtain ⟨hT, hU0, hcl, hm1⟩ := hφ
  have hX := hT
  obtain ⟨⟨⟨pa, pt, px, pb, pc⟩, -, -, -⟩, -⟩ := hX
  have hT0 : zT u.1 a t x b cd (zp_n u.2.1) B ln tk nl C sz ord := hT
  have hX0 := hT0
  obtain ⟨⟨-, ga00, ga10, gx50⟩, hTt0, ⟨ga30, ga40, hnl0⟩, gx70, hsz0, hC0⟩ := hX0
  have hf0 := zTt_f hTt0
  obtain ⟨r3, hr3⟩ : ∃ y : Nat, y = bb 3 := ⟨_, rfl⟩
  have qr3 : u.1 r3 = some 33 := by
    rw [hr3]
    exact (hU0.2.2 3 (by decide)).2
  have hg0 := zTt_go hTt0
  refine zp_load (pc := 0) hx hb (zd_X5_repeats (0, .aload_n 0, 1, 0, []) (List.mem_of_getElem? (i := 0) rfl)) rfl (j := 0) rfl ?_
  refine zp_getf (n := (t : Int)) (pc := 1) hx hb hE hw (zd_X5_repeats (1, .getfield 24, 3, 0, []) (List.mem_of_getElem? (i := 1) rfl)) (j := 9) rfl rfl rfl hp ga00 ?_
  refine zp_ldS (pc := 4) hx hb hE (zd_X5_repeats (4, .ldc 100, 2, 0, []) (List.mem_of_getElem? (i := 2) rfl)) (j := 21) rfl (fun tx69 qtx69 => ?_)
  refine zp_call (pc := 6) (how := 0) (idx := 90) (mi := 68) (S := []) hx hb hE hw heff hrm (zX_viti hW b B ln tk) rfl (j := 16) rfl rfl (by decide +kernel) (zd_X5_repeats (6, .invokevirtual 90, 3, 0, []) (List.mem_of_getElem? (i := 3) rfl)) [(t : Int), (tx69 : Int)] rfl ⟨zp_o2 pt, zp_o2 qtx69, trivial⟩ (Nat.le_of_ble_eq_true rfl) hTt0 (fun al hal rnd70 Pd70 Gd70 hextd70 hfrd70 hokd70 hcsd70 hpsid70 => ?_)
  obtain rfl := List.mem_singleton.mp hal
  have hrd70 := zp_int (hokd70 _ rfl).1
  obtain ⟨hPed70, hGed70, htd70⟩ := hpsid70
  rw [hPed70, hGed70]
  by_cases hkd70 : yr_w (zy_so B ln) (zy_wo B ln) 21279923 tk = true
  · obtain rfl : rnd70 = 1 := htd70.mpr hkd70
    refine zp_if (pc := 9) (tgt := 14) hx hb (zd_X5_repeats (9, .ifCond .ne 5, 3, 0, []) (List.mem_of_getElem? (i := 4) rfl)) rfl (fun (hc71 : ¬ 1 = 0) => ?_) (fun (hc71 : ¬ (¬ 1 = 0)) => ?_)
    · refine zp_load (pc := 14) hx hb (zd_X5_repeats (14, .aload_n 0, 1, 0, []) (List.mem_of_getElem? (i := 7) rfl)) rfl (j := 0) rfl ?_
      refine zp_getf (n := (t : Int)) (pc := 15) hx hb hE hw (zd_X5_repeats (15, .getfield 24, 3, 0, []) (List.mem_of_getElem? (i := 8) rfl)) (j := 9) rfl rfl rfl hp ga00 ?_
      have hgn0 := (zTt_go hTt0).1
      refine zp_call (pc := 18) (how := 0) (idx := 60) (mi := 43) (S := []) hx hb hE hw heff hrm (zX_cnx hW) rfl (j := 6) rfl rfl (by decide +kernel) (zd_X5_repeats (18, .invokevirtual 60, 3, 0, []) (List.mem_of_getElem? (i := 9) rfl)) [(t : Int)] rfl ⟨zp_o2 pt, trivial⟩ (Nat.le_of_ble_eq_true rfl) (zTt_q hTt0) (fun al hal rnn72 Pn72 Gn72 hextn72 hfrn72 hokn72 hcsn72 hpsin72 => ?_)
      obtain rfl := List.mem_singleton.mp hal
      obtain ⟨rfl, htn72⟩ := hpsin72
      have hgon72 := zTt_go hTt0
      have hTn72 : zT u.1 a t x b cd Gn72 B ln (zy_to B ln tk) nl C sz ord := zT_nx hT0 hfrn72 htn72
      have hXn72 := hTn72
      obtain ⟨⟨-, ga0n72, ga1n72, gx5n72⟩, hTtn72, ⟨ga3n72, ga4n72, hnln72⟩, gx7n72, hszn72, hCn72⟩ := hXn72
      have hfn72 := zTt_f hTtn72
      have hUn72 : zU u.1 x Gn72 bb (cl + 1) := zU_fr hU0 px hfrn72 rfl ((zp_nf hfrn72 px rfl).trans hU0.1) (by omega)
      refine zp_load (pc := 21) hx hb (zd_X5_repeats (21, .aload_n 0, 1, 0, []) (List.mem_of_getElem? (i := 10) rfl)) rfl (j := 0) rfl ?_
      refine zp_getf (n := (t : Int)) (pc := 22) hx hb hE hw (zd_X5_repeats (22, .getfield 24, 3, 0, []) (List.mem_of_getElem? (i := 11) rfl)) (j := 9) rfl rfl rfl hp ga0n72 ?_
      refine zp_const (pc := 25) hx hb (zd_X5_repeats (25, .iconst 1, 1, 0, []) (List.mem_of_getElem? (i := 12) rfl)) rfl rfl ?_
      refine zp_const (pc := 26) hx hb (zd_X5_repeats (26, .bipush 20, 2, 0, []) (List.mem_of_getElem? (i := 13) rfl)) rfl rfl ?_
      refine zp_call (pc := 28) (how := 0) (idx := 102) (mi := 65) (S := []) hx hb hE hw heff hrm (zX_vnw hW b B ln (zy_to B ln tk)) rfl (j := 13) rfl rfl (by decide +kernel) (zd_X5_repeats (28, .invokevirtual 102, 3, 0, []) (List.mem_of_getElem? (i := 14) rfl)) [(t : Int), 1, 20] rfl ⟨zp_o2 pt, zp_o0 (by decide) (by decide) (by decide) (by decide), zp_o0 (by decide) (by decide) (by decide) (by decide), trivial⟩ (Nat.le_of_ble_eq_true rfl) hTtn72 (fun al hal rnv Pv Gv hextv hfrv hokv hcsv hpsiv => ?_)
      obtain rfl := List.mem_singleton.mp hal
      have hrv := zp_int (hokv _ rfl).1
      obtain ⟨hPev, hGev, htv⟩ := hpsiv
      rw [hPev, hGev]
      have htv : rnv = if zy_so B ln (zy_to B ln tk) = 2 ∧ 1 ≤ zy_wo B ln (zy_to B ln tk) ∧ zy_wo B ln (zy_to B ln tk) ≤ 20 then zy_wo B ln (zy_to B ln tk) else -1 := htv
      refine zp_store (L' := [(1, 0, rnv), (0, 2, (a : Int))]) (pc := 31) hx hb hnL (zd_X5_repeats (31, .istore_n 1, 1, 0, []) (List.mem_of_getElem? (i := 15) rfl)) rfl rfl rfl ?_
      refine zp_load (pc := 32) hx hb (zd_X5_repeats (32, .iload_n 1, 1, 0, []) (List.mem_of_getElem? (i := 16) rfl)) rfl (j := 0) rfl ?_
      refine zp_const (pc := 33) hx hb (zd_X5_repeats (33, .iconst (-1), 1, 0, []) (List.mem_of_getElem? (i := 17) rfl)) rfl rfl ?_
      refine zp_icmp (pc := 34) (tgt := 39) hx hb (zd_X5_repeats (34, .if_icmp .ne 5, 3, 0, []) (List.mem_of_getElem? (i := 18) rfl)) rfl (fun (hc73 : ¬ rnv = (-1)) => ?_) (fun (hc73 : ¬ (¬ rnv = (-1))) => ?_)
      · refine zp_load (pc := 39) hx hb (zd_X5_repeats (39, .aload_n 0, 1, 0, []) (List.mem_of_getElem? (i := 21) rfl)) rfl (j := 1) rfl ?_
        refine zp_getf (n := (x : Int)) (pc := 40) hx hb hE hw (zd_X5_repeats (40, .getfield 16, 3, 0, []) (List.mem_of_getElem? (i := 22) rfl)) (j := 10) rfl rfl rfl hp ga1n72 ?_
        refine zp_load (pc := 43) hx hb (zd_X5_repeats (43, .aload_n 0, 1, 0, []) (List.mem_of_getElem? (i := 23) rfl)) rfl (j := 1) rfl ?_
        refine zp_getf (n := (x : Int)) (pc := 44) hx hb hE hw (zd_X5_repeats (44, .getfield 16, 3, 0, []) (List.mem_of_getElem? (i := 24) rfl)) (j := 10) rfl rfl rfl hp ga1n72 ?_
        refine zp_getf (n := (r3 : Int)) (pc := 47) hx hb hE hw (zd_X5_repeats (47, .getfield 106, 3, 0, []) (List.mem_of_getElem? (i := 25) rfl)) (j := 6) rfl rfl rfl px ((hUn72.2.2 3 (by decide)).1.trans (by rw [hr3])) ?_
        refine zp_load (pc := 50) hx hb (zd_X5_repeats (50, .iload_n 1, 1, 0, []) (List.mem_of_getElem? (i := 26) rfl)) rfl (j := 0) rfl ?_
        have hk3 : zy_so B ln (zy_to B ln tk) = 2 ∧ 1 ≤ zy_wo B ln (zy_to B ln tk) ∧ zy_wo B ln (zy_to B ln tk) ≤ 20 := by
          by_cases z : zy_so B ln (zy_to B ln tk) = 2 ∧ 1 ≤ zy_wo B ln (zy_to B ln tk) ∧ zy_wo B ln (zy_to B ln tk) ≤ 20
          · exact z
          · rw [if_neg z] at htv
            omega
        rw [if_pos hk3] at htv
        refine zp_call (pc := 51) (how := 0) (idx := 108) (mi := 60) (S := []) hx hb hE hw heff hrm (zX_vt33 hW r3 cl) rfl (j := 8) rfl rfl (by decide +kernel) (zd_X5_repeats (51, .invokevirtual 108, 3, 0, []) (List.mem_of_getElem? (i := 27) rfl)) [(x : Int), (r3 : Int), rnv] rfl ⟨zp_o2 px, zp_o2 qr3, zp_o0 (by omega) (by omega) (by omega) (by omega), trivial⟩ (Nat.le_of_ble_eq_true rfl) ⟨rfl, hUn72.1, by omega⟩ (fun al hal rnt74 Pt74 Gt74 hextt74 hfrt74 hokt74 hcst74 hpsit74 => ?_)
        obtain rfl := List.mem_singleton.mp hal
        obtain ⟨rfl, htvt74, htot74⟩ := hpsit74
        have hTt74 : zT u.1 a t x b cd Gt74 B ln (zy_to B ln tk) nl C sz ord := zT_fr hTn72 hfrt74 rfl
        have hXt74 := hTt74
        obtain ⟨⟨-, ga0t74, ga1t74, gx5t74⟩, hTtt74, ⟨ga3t74, ga4t74, hnlt74⟩, gx7t74, hszt74, hCt74⟩ := hXt74
        have hft74 := zTt_f hTtt74
        have hUt74 : zU u.1 x Gt74 bb (cl + 1) := zU_fr hUn72 px hfrt74 rfl ((zp_nf hfrt74 px rfl).trans hUn72.1) (by omega)
        refine zp_load (pc := 54) hx hb (zd_X5_repeats (54, .aload_n 0, 1, 0, []) (List.mem_of_getElem? (i := 28) rfl)) rfl (j := 1) rfl ?_
        refine zp_getf (n := (t : Int)) (pc := 55) hx hb hE hw (zd_X5_repeats (55, .getfield 24, 3, 0, []) (List.mem_of_getElem? (i := 29) rfl)) (j := 9) rfl rfl rfl hp ga0t74 ?_
        have hgnt74 := (zTt_go hTtt74).1
        refine zp_call (pc := 58) (how := 0) (idx := 60) (mi := 43) (S := []) hx hb hE hw heff hrm (zX_cnx hW) rfl (j := 6) rfl rfl (by decide +kernel) (zd_X5_repeats (58, .invokevirtual 60, 3, 0, []) (List.mem_of_getElem? (i := 30) rfl)) [(t : Int)] rfl ⟨zp_o2 pt, trivial⟩ (Nat.le_of_ble_eq_true rfl) (zTt_q hTtt74) (fun al hal rnn75 Pn75 Gn75 hextn75 hfrn75 hokn75 hcsn75 hpsin75 => ?_)
        obtain rfl := List.mem_singleton.mp hal
        obtain ⟨rfl, htn75⟩ := hpsin75
        have hgon75 := zTt_go hTtt74
        have hTn75 : zT u.1 a t x b cd Gn75 B ln (zy_to B ln (zy_to B ln tk)) nl C sz ord := zT_nx hTt74 hfrn75 htn75
        have hXn75 := hTn75
        obtain ⟨⟨-, ga0n75, ga1n75, gx5n75⟩, hTtn75, ⟨ga3n75, ga4n75, hnln75⟩, gx7n75, hszn75, hCn75⟩ := hXn75
        have hfn75 := zTt_f hTtn75
        have hUn75 : zU u.1 x Gn75 bb (cl + 1) := zU_fr hUt74 px hfrn75 rfl ((zp_nf hfrn75 px rfl).trans hUt74.1) (by omega)
        refine zp_const (pc := 61) hx hb (zd_X5_repeats (61, .iconst 1, 1, 0, []) (List.mem_of_getElem? (i := 31) rfl)) rfl rfl ?_
        refine zp_zret (pc := 62) (n := 1) hx hb hE hQ hU5 rfl (by decide) (zd_X5_repeats (62, .ireturn, 1, 0, []) (List.mem_of_getElem? (i := 32) rfl)) (j := 0) rfl (zp_o0 (by omega) (by omega) (by omega) (by omega)) ?_
        rw [hps]
        refine ⟨rfl, Sum.inr (zy_to B ln (zy_to B ln tk), zy_wo B ln (zy_to B ln tk)), ?_, Or.inr ⟨_, _, rfl, rfl, hTn75, hUn75, by omega, fun j hj => ?_, ?_⟩⟩
        · unfold yt_ti
          rw [if_pos hkd70, if_pos (yt_nu_i.mpr hk3)]
        · rw [← hr3]
          exact (zp_nc hfrn75 qr3 rfl _).trans ((htot74 j hj).trans (zp_nc hfrn72 qr3 rfl _))
        · rw [← hr3]
          refine (zp_nc hfrn75 qr3 rfl _).trans ?_
          exact (show Gt74 r3 (2000 + cl) = rnv from htvt74).trans htv
      · refine zp_const (pc := 37) hx hb (zd_X5_repeats (37, .iconst 0, 1, 0, []) (List.mem_of_getElem? (i := 19) rfl)) rfl rfl ?_
        refine zp_zret (pc := 38) (n := 0) hx hb hE hQ hU5 rfl (by decide) (zd_X5_repeats (38, .ireturn, 1, 0, []) (List.mem_of_getElem? (i := 20) rfl)) (j := 0) rfl (zp_o0 (by omega) (by omega) (by omega) (by omega)) ?_
        rw [hps]
        refine ⟨rfl, Sum.inl (zy_to B ln tk), ?_, Or.inl ⟨_, rfl, rfl, _, _, _, hTn72⟩⟩
        unfold yt_ti
        rw [if_pos hkd70, if_neg (fun z => by have h9 := yt_nu_i.mp z; rw [if_pos h9] at htv; omega)]
    · exfalso
      omega
  · have zd70 : ¬ rnd70 = 1 := fun z => hkd70 (htd70.mp z)
    obtain rfl : rnd70 = 0 := by omega
    refine zp_if (pc := 9) (tgt := 14) hx hb (zd_X5_repeats (9, .ifCond .ne 5, 3, 0, []) (List.mem_of_getElem? (i := 4) rfl)) rfl (fun (hc76 : ¬ 0 = 0) => ?_) (fun (hc76 : ¬ (¬ 0 = 0)) => ?_)
    · exfalso
      omega
    · refine zp_const (pc := 12) hx hb (zd_X5_repeats (12, .iconst 1, 1, 0, []) (List.mem_of_getElem? (i := 5) rfl)) rfl rfl ?_
      refine zp_zret (pc := 13) (n := 1) hx hb hE hQ hU5 rfl (by decide) (zd_X5_repeats (13, .ireturn, 1, 0, []) (List.mem_of_getElem? (i := 6) rfl)) (j := 0) rfl (zp_o0 (by omega) (by omega) (by omega) (by omega)) ?_
      rw [hps]
      refine ⟨rfl, Sum.inr (tk, 1), ?_, Or.inr ⟨tk, 1, rfl, rfl, hT0, hU0, Nat.le_refl _, fun j hj => rfl, hm1⟩⟩
      unfold yt_ti
      rw [if_neg hkd70]
noncomputable def zφ_ocl (t x b cd : Nat) (B : Nat → Int) (ln tk nl : Nat) (C : Nat → Int) (sz uu : Nat) (ord : Bool) (bb : Nat → Nat) (cl : Nat) : (Nat → Option Nat) → (Nat → Nat → Int) → List Int → Prop := fun P G ps => zT P (zp_0 ps) t x b cd G B ln tk nl C sz ord ∧ zU P x G bb cl ∧ sz + (uu + 6) ≤ 2 * zy_fr B ln tk + 72 ∧ cl < 12
noncomputable def zψ_ocl (t x b cd : Nat) (B : Nat → Int) (ln tk nl : Nat) (C : Nat → Int) (sz uu : Nat) (ord : Bool) (bb : Nat → Nat) (cl : Nat) : (Nat → Option Nat) → (Nat → Nat → Int) → List Int → (Nat → Option Nat) → (Nat → Nat → Int) → Int → Prop := fun P G ps P' G' rn => P' = P ∧ ∃ s, yt_co (zy_so B ln) (zy_wo B ln) (zy_to B ln) (ylf ord B ln) tk nl s ∧ ((∃ q, s = Sum.inl q ∧ rn = 0 ∧ ∃ (nl' : Nat) (C' : Nat → Int) (sz' : Nat), zT P (zp_0 ps) t x b cd G' B ln q nl' C' sz' ord) ∨ ∃ (p2 n2 : Nat) (K : yK) (C' : Nat → Int) (sz' : Nat), s = Sum.inr (p2, n2, K) ∧ rn = 1 ∧ zT P (zp_0 ps) t x b cd G' B ln p2 n2 C' sz' ord ∧ zU P x G' bb (cl + 1) ∧ sz' + uu ≤ 2 * zy_fr B ln p2 + 72 ∧ zy_fr B ln tk + 1 ≤ zy_fr B ln p2 ∧ sz ≤ sz' ∧ (∀ j, j < sz → C' j = C j) ∧ (∀ i j : Nat, i < 5 → j ≠ cl → G' (bb i) (2000 + j) = G (bb i) (2000 + j)) ∧ zXc (fun i j => G' (bb i) (2000 + j)) C' sz' ord cl K)
noncomputable def zK_ocl : zk_K := (zt_mn 45, prog_7_method_4_code, 2, (Option.some Jvm.ClassFile.FieldType.boolean), 1, 5, [(2, 5, 0, 0)], [(some (0, 0, 0, 1), [])], [(5, 4, 0), (7, 3, 0), (7, 5, 0), (7, 2, 0), (7, 4, 0), (35, 1001, 0), (8, 7, 0), (30, 1001, 0), (31, 1001, 0), (32, 1001, 0), (33, 1001, 0), (34, 1001, 0), (8, 6, 0)], (49, 1126, 0, 0))
theorem zX_ocl {l : Launch} {w : zk_W} (hW : zh_W w) (t x b cd : Nat) (B : Nat → Int) (ln tk nl : Nat) (C : Nat → Int) (sz uu : Nat) (ord : Bool) (bb : Nat → Nat) (cl : Nat) : zk_metX l w zt_dv zt_TB zK_ocl (zp_A (zφ_ocl t x b cd B ln tk nl C sz uu ord bb cl)) (zp_B (zψ_ocl t x b cd B ln tk nl C sz uu ord bb cl)) ∧ zk_cok w zt_TB zK_ocl := by
  refine zp_methX (cn := "WoundTown$Reader") zp_lkallRd hW (pl := 728) rfl (by decide +kernel) (fun p e R s m args below meth c Q u hx hb hE hQ hU5 heff hnL hok hφ => ?_)
  have hw := hW.1
  obtain ⟨p0, hps, k0⟩ := zp_ps1 hok
  obtain ⟨a, rfl, hp⟩ := zp_this k0
  have hrm : zk_Kr (zk_ev (zt_types, zp_lkRd, zt_dv, [], [], zp_lcRd, zK_ocl)) = zk_Kr zK_ocl := rfl
  rw [hps] at hφ ⊢
  show zp_J p l e R s m args below meth c Q w u [] 0 [(0, 2, (a : Int))] [] u.1 (zp_n u.2.1)
  have hφ : zT u.1 a t x b cd (zp_n u.2.1) B ln tk nl C sz ord ∧ zU u.1 x (zp_n u.2.1) bb cl ∧ sz + (uu + 6) ≤ 2 * zy_fr B ln tk + 72 ∧ cl < 12 := hφ
  obtain ⟨hT, hU0, hu, hcl⟩ := hφ
  have hX := hT
  obtain ⟨⟨⟨pa, pt, px, pb, pc⟩, -, -, -⟩, -⟩ := hX
  have hT0 : zT u.1 a t x b cd (zp_n u.2.1) B ln tk nl C sz ord := hT
  have hX0 := hT0
  obtain ⟨⟨-, ga00, ga10, gx50⟩, hTt0, ⟨ga30, ga40, hnl0⟩, gx70, hsz0, hC0⟩ := hX0
  have hf0 := zTt_f hTt0
  have hhr := yt_ho_r (zy_so B ln) (zy_wo B ln) tk
  have hg0 := zTt_go hTt0
  refine zp_load (pc := 0) hx hb (zd_X5_orderClause (0, .aload_n 0, 1, 0, []) (List.mem_of_getElem? (i := 0) rfl)) rfl (j := 0) rfl ?_
  refine zp_getf (n := (t : Int)) (pc := 1) hx hb hE hw (zd_X5_orderClause (1, .getfield 24, 3, 0, []) (List.mem_of_getElem? (i := 1) rfl)) (j := 9) rfl rfl rfl hp ga00 ?_
  refine zp_ldS (pc := 4) hx hb hE (zd_X5_orderClause (4, .ldc 86, 2, 0, []) (List.mem_of_getElem? (i := 2) rfl)) (j := 19) rfl (fun tx77 qtx77 => ?_)
  refine zp_call (pc := 6) (how := 0) (idx := 65) (mi := 46) (S := []) hx hb hE hw heff hrm (zX_vwoc hW b B ln tk) rfl (j := 4) rfl rfl (by decide +kernel) (zd_X5_orderClause (6, .invokevirtual 65, 3, 0, []) (List.mem_of_getElem? (i := 3) rfl)) [(t : Int), (tx77 : Int)] rfl ⟨zp_o2 pt, zp_o2 qtx77, trivial⟩ (Nat.le_of_ble_eq_true rfl) hTt0 (fun al hal rnv Pv Gv hextv hfrv hokv hcsv hpsiv => ?_)
  obtain rfl := List.mem_singleton.mp hal
  have hrv := zp_int (hokv _ rfl).1
  obtain ⟨hPev, hGev, htv⟩ := hpsiv
  rw [hPev, hGev]
  have hv9 : rnv = yt_ho (zy_so B ln) (zy_wo B ln) tk := (zv_oc hTt0 htv).trans yt_ho_eq.symm
  refine zp_store (L' := [(1, 0, rnv), (0, 2, (a : Int))]) (pc := 9) hx hb hnL (zd_X5_orderClause (9, .istore_n 1, 1, 0, []) (List.mem_of_getElem? (i := 4) rfl)) rfl rfl rfl ?_
  refine zp_load (pc := 10) hx hb (zd_X5_orderClause (10, .iload_n 1, 1, 0, []) (List.mem_of_getElem? (i := 5) rfl)) rfl (j := 0) rfl ?_
  refine zp_const (pc := 11) hx hb (zd_X5_orderClause (11, .iconst (-1), 1, 0, []) (List.mem_of_getElem? (i := 6) rfl)) rfl rfl ?_
  refine zp_icmp (pc := 12) (tgt := 26) hx hb (zd_X5_orderClause (12, .if_icmp .eq 14, 3, 0, []) (List.mem_of_getElem? (i := 7) rfl)) rfl (fun (hc78 : rnv = (-1)) => ?_) (fun (hc78 : ¬ (rnv = (-1))) => ?_)
  · refine zp_const (pc := 26) hx hb (zd_X5_orderClause (26, .iconst 0, 1, 0, []) (List.mem_of_getElem? (i := 13) rfl)) rfl rfl ?_
    refine zp_zret (pc := 27) (n := 0) hx hb hE hQ hU5 rfl (by decide) (zd_X5_orderClause (27, .ireturn, 1, 0, []) (List.mem_of_getElem? (i := 14) rfl)) (j := 0) rfl (zp_o0 (by omega) (by omega) (by omega) (by omega)) ?_
    rw [hps]
    refine ⟨rfl, Sum.inl tk, ?_, Or.inl ⟨_, rfl, rfl, _, _, _, hT0⟩⟩
    unfold yt_co
    rw [if_pos (by omega)]
  · refine zp_load (pc := 15) hx hb (zd_X5_orderClause (15, .aload_n 0, 1, 0, []) (List.mem_of_getElem? (i := 8) rfl)) rfl (j := 1) rfl ?_
    refine zp_getf (n := (x : Int)) (pc := 16) hx hb hE hw (zd_X5_orderClause (16, .getfield 16, 3, 0, []) (List.mem_of_getElem? (i := 9) rfl)) (j := 10) rfl rfl rfl hp ga10 ?_
    refine zp_load (pc := 19) hx hb (zd_X5_orderClause (19, .iload_n 1, 1, 0, []) (List.mem_of_getElem? (i := 10) rfl)) rfl (j := 0) rfl ?_
    have hso1 : zy_so B ln tk = 1 := by
      rcases hhr with z | z
      · exfalso
        omega
      · exact z.2.2
    refine zp_call (pc := 20) (how := 0) (idx := 69) (mi := 58) (S := []) hx hb hE hw heff hrm (zX_vop hW bb cl) rfl (j := 5) rfl rfl (by decide +kernel) (zd_X5_orderClause (20, .invokevirtual 69, 3, 0, []) (List.mem_of_getElem? (i := 11) rfl)) [(x : Int), rnv] rfl ⟨zp_o2 px, zp_o0 (by omega) (by omega) (by omega) (by omega), trivial⟩ (Nat.le_of_ble_eq_true rfl) ⟨hU0.1, hcl, hU0.2.2⟩ (fun al hal rno Po Go hexto hfro hoko hcso hpsio => ?_)
    obtain rfl := List.mem_singleton.mp hal
    have hro := zp_int (hoko _ rfl).1
    obtain ⟨rfl, hvo, h6o, hoo, ho0, ho1, ho2, ho3, ho4⟩ := hpsio
    subst hvo
    have hTo : zT u.1 a t x b cd Go B ln tk nl C sz ord := zT_fr hT0 hfro rfl
    have hXo := hTo
    obtain ⟨⟨-, ga0o, ga1o, gx5o⟩, hTto, ⟨ga3o, ga4o, hnlo⟩, gx7o, hszo, hCo⟩ := hXo
    have hfo := zTt_f hTto
    have hUo : zU u.1 x Go bb (cl + 1) := zU_fr hU0 px hfro rfl h6o (by omega)
    refine zp_if (pc := 23) (tgt := 28) hx hb (zd_X5_orderClause (23, .ifCond .ne 5, 3, 0, []) (List.mem_of_getElem? (i := 12) rfl)) rfl (fun (hc79 : ¬ 1 = 0) => ?_) (fun (hc79 : ¬ (¬ 1 = 0)) => ?_)
    · refine zp_load (pc := 28) hx hb (zd_X5_orderClause (28, .aload_n 0, 1, 0, []) (List.mem_of_getElem? (i := 15) rfl)) rfl (j := 1) rfl ?_
      refine zp_getf (n := (t : Int)) (pc := 29) hx hb hE hw (zd_X5_orderClause (29, .getfield 24, 3, 0, []) (List.mem_of_getElem? (i := 16) rfl)) (j := 9) rfl rfl rfl hp ga0o ?_
      have hgno := (zTt_go hTto).1
      refine zp_call (pc := 32) (how := 0) (idx := 60) (mi := 43) (S := []) hx hb hE hw heff hrm (zX_cnx hW) rfl (j := 6) rfl rfl (by decide +kernel) (zd_X5_orderClause (32, .invokevirtual 60, 3, 0, []) (List.mem_of_getElem? (i := 17) rfl)) [(t : Int)] rfl ⟨zp_o2 pt, trivial⟩ (Nat.le_of_ble_eq_true rfl) (zTt_q hTto) (fun al hal rnn80 Pn80 Gn80 hextn80 hfrn80 hokn80 hcsn80 hpsin80 => ?_)
      obtain rfl := List.mem_singleton.mp hal
      obtain ⟨rfl, htn80⟩ := hpsin80
      have hgon80 := zTt_go hTto
      have hTn80 : zT u.1 a t x b cd Gn80 B ln (zy_to B ln tk) nl C sz ord := zT_nx hTo hfrn80 htn80
      have hXn80 := hTn80
      obtain ⟨⟨-, ga0n80, ga1n80, gx5n80⟩, hTtn80, ⟨ga3n80, ga4n80, hnln80⟩, gx7n80, hszn80, hCn80⟩ := hXn80
      have hfn80 := zTt_f hTtn80
      have hUn80 : zU u.1 x Gn80 bb (cl + 1) := zU_fr hUo px hfrn80 rfl ((zp_nf hfrn80 px rfl).trans hUo.1) (by omega)
      have hs9 := hg0.2.1 (by rw [hso1]; decide)
      refine zp_load (pc := 35) hx hb (zd_X5_orderClause (35, .iload_n 1, 1, 0, []) (List.mem_of_getElem? (i := 18) rfl)) rfl (j := 0) rfl ?_
      refine zp_const (pc := 36) hx hb (zd_X5_orderClause (36, .iconst 2, 1, 0, []) (List.mem_of_getElem? (i := 19) rfl)) rfl rfl ?_
      refine zp_icmp (pc := 37) (tgt := 56) hx hb (zd_X5_orderClause (37, .if_icmp .eq 19, 3, 0, []) (List.mem_of_getElem? (i := 20) rfl)) rfl (fun (hc81 : rnv = 2) => ?_) (fun (hc81 : ¬ (rnv = 2)) => ?_)
      · refine zp_load (pc := 56) hx hb (zd_X5_orderClause (56, .iload_n 1, 1, 0, []) (List.mem_of_getElem? (i := 29) rfl)) rfl (j := 0) rfl ?_
        refine zp_const (pc := 57) hx hb (zd_X5_orderClause (57, .iconst 1, 1, 0, []) (List.mem_of_getElem? (i := 30) rfl)) rfl rfl ?_
        refine zp_icmp (pc := 58) (tgt := 98) hx hb (zd_X5_orderClause (58, .if_icmp .ne 40, 3, 0, []) (List.mem_of_getElem? (i := 31) rfl)) rfl (fun (hc82 : ¬ rnv = 1) => ?_) (fun (hc82 : ¬ (¬ rnv = 1)) => ?_)
        · refine zp_load (pc := 98) hx hb (zd_X5_orderClause (98, .aload_n 0, 1, 0, []) (List.mem_of_getElem? (i := 50) rfl)) rfl (j := 1) rfl ?_
          have h22 : yt_ho (zy_so B ln) (zy_wo B ln) tk = 2 := by omega
          have h31 : Gn80 (bb 3) (2000 + cl) = 1 := (zU_nc hUo hfrn80 3 (by decide) rfl _).trans ho3
          refine zp_call (pc := 99) (how := 0) (idx := 97) (mi := 69) (S := []) hx hb hE hw heff hrm (zX_rep hW t x b cd B ln (zy_to B ln tk) nl C sz uu ord bb cl) rfl (j := 17) rfl rfl (by decide +kernel) (zd_X5_orderClause (99, .invokevirtual 97, 3, 0, []) (List.mem_of_getElem? (i := 51) rfl)) [(a : Int)] rfl ⟨zp_o2 hp, trivial⟩ (Nat.le_of_ble_eq_true rfl) ⟨hTn80, hUn80, hcl, h31⟩ (fun al hal rnp Pp Gp hextp hfrp hokp hcsp hpsip => ?_)
          obtain rfl := List.mem_singleton.mp hal
          have hrp := zp_int (hokp _ rfl).1
          obtain ⟨rfl, sp, hsp, htp⟩ := hpsip
          rcases htp with ⟨qp, rfl, hzp, nlp, Cp, szp, hTp⟩ | ⟨pp, mp, rfl, hzp, hTTp, hUp, hfp9, hop, hmp⟩
          · subst hzp
            refine zp_if (pc := 102) (tgt := 116) hx hb (zd_X5_orderClause (102, .ifCond .eq 14, 3, 0, []) (List.mem_of_getElem? (i := 52) rfl)) rfl (fun (hc83 : 0 = 0) => ?_) (fun (hc83 : ¬ (0 = 0)) => ?_)
            · refine zp_const (pc := 116) hx hb (zd_X5_orderClause (116, .iconst 0, 1, 0, []) (List.mem_of_getElem? (i := 58) rfl)) rfl rfl ?_
              refine zp_zret (pc := 117) (n := 0) hx hb hE hQ hU5 rfl (by decide) (zd_X5_orderClause (117, .ireturn, 1, 0, []) (List.mem_of_getElem? (i := 59) rfl)) (j := 0) rfl (zp_o0 (by omega) (by omega) (by omega) (by omega)) ?_
              rw [hps]
              refine ⟨rfl, Sum.inl qp, ?_, Or.inl ⟨_, rfl, rfl, _, _, _, hTp⟩⟩
              unfold yt_co
              rw [if_neg (by omega)]
              exact ⟨Sum.inr (zy_to B ln tk, nl, none), by rw [if_pos h22], Or.inr ⟨_, _, _, rfl, Sum.inr (zy_to B ln tk, nl, none), by rw [if_neg (by omega)], Or.inr ⟨_, _, _, rfl, Sum.inl qp, hsp, Or.inl ⟨_, rfl, rfl⟩⟩⟩⟩
            · exfalso
              omega
          · subst hzp
            have hTp : zT u.1 a t x b cd Gp B ln pp nl C sz ord := hTTp
            have hXp := hTp
            obtain ⟨⟨-, ga0p, ga1p, gx5p⟩, hTtp, ⟨ga3p, ga4p, hnlp⟩, gx7p, hszp, hCp⟩ := hXp
            have hfp := zTt_f hTtp
            refine zp_if (pc := 102) (tgt := 116) hx hb (zd_X5_orderClause (102, .ifCond .eq 14, 3, 0, []) (List.mem_of_getElem? (i := 52) rfl)) rfl (fun (hc84 : 1 = 0) => ?_) (fun (hc84 : ¬ (1 = 0)) => ?_)
            · exfalso
              omega
            · refine zp_load (pc := 105) hx hb (zd_X5_orderClause (105, .aload_n 0, 1, 0, []) (List.mem_of_getElem? (i := 53) rfl)) rfl (j := 1) rfl ?_
              refine zp_call (pc := 106) (how := 0) (idx := 83) (mi := 70) (S := []) hx hb hE hw heff hrm (zX_cnd hW t x b cd B ln pp nl C sz uu ord bb cl) rfl (j := 18) rfl rfl (by decide +kernel) (zd_X5_orderClause (106, .invokevirtual 83, 3, 0, []) (List.mem_of_getElem? (i := 54) rfl)) [(a : Int)] rfl ⟨zp_o2 hp, trivial⟩ (Nat.le_of_ble_eq_true rfl) ⟨hTp, hUp, by omega⟩ (fun al hal rnc Pc Gc hextc hfrc hokc hcsc hpsic => ?_)
              obtain rfl := List.mem_singleton.mp hal
              have hrc := zp_int (hokc _ rfl).1
              obtain ⟨rfl, sc, hsc, htc⟩ := hpsic
              rcases htc with ⟨qc, rfl, hzc, nlc, Cc, szc, hTc⟩ | ⟨pc2, nc, oy, Cc, szc, rfl, hzc, hTTc, hUc, huc, hfc9, hszc9, hCc9, hoc, hXc⟩
              · subst hzc
                refine zp_if (pc := 109) (tgt := 116) hx hb (zd_X5_orderClause (109, .ifCond .eq 7, 3, 0, []) (List.mem_of_getElem? (i := 55) rfl)) rfl (fun (hc85 : 0 = 0) => ?_) (fun (hc85 : ¬ (0 = 0)) => ?_)
                · refine zp_const (pc := 116) hx hb (zd_X5_orderClause (116, .iconst 0, 1, 0, []) (List.mem_of_getElem? (i := 58) rfl)) rfl rfl ?_
                  refine zp_zret (pc := 117) (n := 0) hx hb hE hQ hU5 rfl (by decide) (zd_X5_orderClause (117, .ireturn, 1, 0, []) (List.mem_of_getElem? (i := 59) rfl)) (j := 0) rfl (zp_o0 (by omega) (by omega) (by omega) (by omega)) ?_
                  rw [hps]
                  refine ⟨rfl, Sum.inl qc, ?_, Or.inl ⟨_, rfl, rfl, _, _, _, hTc⟩⟩
                  unfold yt_co
                  rw [if_neg (by omega)]
                  exact ⟨Sum.inr (zy_to B ln tk, nl, none), by rw [if_pos h22], Or.inr ⟨_, _, _, rfl, Sum.inr (zy_to B ln tk, nl, none), by rw [if_neg (by omega)], Or.inr ⟨_, _, _, rfl, _, hsp, Or.inr ⟨_, _, rfl, Sum.inl qc, hsc, Or.inl ⟨_, rfl, rfl⟩⟩⟩⟩⟩
                · exfalso
                  omega
              · subst hzc
                replace hXc : zHid _ := hXc
                have hTc : zT u.1 a t x b cd Gc B ln pc2 nc Cc szc ord := hTTc
                have hXc := hTc
                obtain ⟨⟨-, ga0c, ga1c, gx5c⟩, hTtc, ⟨ga3c, ga4c, hnlc⟩, gx7c, hszc, hCc⟩ := hXc
                have hfc := zTt_f hTtc
                refine zp_if (pc := 109) (tgt := 116) hx hb (zd_X5_orderClause (109, .ifCond .eq 7, 3, 0, []) (List.mem_of_getElem? (i := 55) rfl)) rfl (fun (hc86 : 1 = 0) => ?_) (fun (hc86 : ¬ (1 = 0)) => ?_)
                · exfalso
                  omega
                · refine zp_const (pc := 112) hx hb (zd_X5_orderClause (112, .iconst 1, 1, 0, []) (List.mem_of_getElem? (i := 56) rfl)) rfl rfl ?_
                  refine zp_goto (tgt := 117) (pc := 113) hx hb (zd_X5_orderClause (113, .goto 4, 3, 0, []) (List.mem_of_getElem? (i := 57) rfl)) rfl ?_
                  refine zp_zret (pc := 117) (n := 1) hx hb hE hQ hU5 rfl (by decide) (zd_X5_orderClause (117, .ireturn, 1, 0, []) (List.mem_of_getElem? (i := 59) rfl)) (j := 0) rfl (zp_o0 (by omega) (by omega) (by omega) (by omega)) ?_
                  rw [hps]
                  have hA0 : ∀ j : Nat, Gc (bb 0) (2000 + j) = Go (bb 0) (2000 + j) := fun j => (zU_nc hUo hfrc 0 (by decide) rfl _).trans ((zU_nc hUo hfrp 0 (by decide) rfl _).trans (zU_nc hUo hfrn80 0 (by decide) rfl _))
                  have hE1 : ∀ j : Nat, Gc (bb 1) (2000 + j) = Go (bb 1) (2000 + j) := fun j => (zU_nc hUo hfrc 1 (by decide) rfl _).trans ((zU_nc hUo hfrp 1 (by decide) rfl _).trans (zU_nc hUo hfrn80 1 (by decide) rfl _))
                  have hE2 : ∀ j : Nat, Gc (bb 2) (2000 + j) = Go (bb 2) (2000 + j) := fun j => (zU_nc hUo hfrc 2 (by decide) rfl _).trans ((zU_nc hUo hfrp 2 (by decide) rfl _).trans (zU_nc hUo hfrn80 2 (by decide) rfl _))
                  have hB3 : ∀ j : Nat, Gc (bb 3) (2000 + j) = Gp (bb 3) (2000 + j) := fun j => zU_nc hUo hfrc 3 (by decide) rfl _
                  have hD3 : ∀ j : Nat, Gn80 (bb 3) (2000 + j) = Go (bb 3) (2000 + j) := fun j => zU_nc hUo hfrn80 3 (by decide) rfl _
                  have hE3 : ∀ j : Nat, j ≠ cl → Gc (bb 3) (2000 + j) = Go (bb 3) (2000 + j) := fun j hj => (hB3 j).trans ((hop j hj).trans (hD3 j))
                  have hB4 : ∀ j : Nat, Gc (bb 4) (2000 + j) = Gc (bb 4) (2000 + j) := fun j => rfl
                  have hD4 : ∀ j : Nat, Gp (bb 4) (2000 + j) = Go (bb 4) (2000 + j) := fun j => (zU_nc hUo hfrp 4 (by decide) rfl _).trans (zU_nc hUo hfrn80 4 (by decide) rfl _)
                  have hE4 : ∀ j : Nat, j ≠ cl → Gc (bb 4) (2000 + j) = Go (bb 4) (2000 + j) := fun j hj => (hB4 j).trans ((hoc j hj).trans (hD4 j))
                  refine ⟨rfl, Sum.inr (pc2, nc, (yt_ho (zy_so B ln) (zy_wo B ln) tk, none, none, mp, oy)), ?_, Or.inr ⟨pc2, nc, _, Cc, szc, rfl, rfl, hTTc, hUc, by omega, by omega, by omega, fun j hj => ?_, fun i j hi hj => ?_, ?_⟩⟩
                  · unfold yt_co
                    rw [if_neg (by omega)]
                    exact ⟨Sum.inr (zy_to B ln tk, nl, none), by rw [if_pos h22], Or.inr ⟨_, _, _, rfl, Sum.inr (zy_to B ln tk, nl, none), by rw [if_neg (by omega)], Or.inr ⟨_, _, _, rfl, _, hsp, Or.inr ⟨_, _, rfl, _, hsc, Or.inr ⟨_, _, _, rfl, rfl⟩⟩⟩⟩⟩
                  · exact hCc9 j hj
                  · have hi5 : i = 0 ∨ i = 1 ∨ i = 2 ∨ i = 3 ∨ i = 4 := by omega
                    rcases hi5 with rfl | rfl | rfl | rfl | rfl
                    · exact (hA0 j).trans (hoo 0 j (by decide) hj)
                    · exact (hE1 j).trans (hoo 1 j (by decide) hj)
                    · exact (hE2 j).trans (hoo 2 j (by decide) hj)
                    · exact (hE3 j hj).trans (hoo 3 j (by decide) hj)
                    · exact (hE4 j hj).trans (hoo 4 j (by decide) hj)
                  · refine ⟨⟨(hA0 cl).trans (ho0.trans hv9), by omega, by omega⟩, ?_, ?_, ?_, ?_⟩
                    · exact Or.inl ⟨rfl, (hE1 cl).trans ho1⟩
                    · exact Or.inl ⟨rfl, (hE2 cl).trans ho2⟩
                    · exact (hB3 cl).trans hmp
                    · rcases hXc with ⟨g1, g2⟩ | ⟨y9, g1, g2, g3⟩
                      · exact Or.inl ⟨g1, g2.trans ((hD4 cl).trans ho4)⟩
                      · exact Or.inr ⟨y9, g1, g2, g3⟩
        · refine zp_load (pc := 61) hx hb (zd_X5_orderClause (61, .aload_n 0, 1, 0, []) (List.mem_of_getElem? (i := 32) rfl)) rfl (j := 1) rfl ?_
          refine zp_getf (n := (t : Int)) (pc := 62) hx hb hE hw (zd_X5_orderClause (62, .getfield 24, 3, 0, []) (List.mem_of_getElem? (i := 33) rfl)) (j := 9) rfl rfl rfl hp ga0n80 ?_
          refine zp_ldS (pc := 65) hx hb hE (zd_X5_orderClause (65, .ldc 88, 2, 0, []) (List.mem_of_getElem? (i := 34) rfl)) (j := 20) rfl (fun tx87 qtx87 => ?_)
          exfalso
          omega
      · refine zp_load (pc := 40) hx hb (zd_X5_orderClause (40, .aload_n 0, 1, 0, []) (List.mem_of_getElem? (i := 21) rfl)) rfl (j := 1) rfl ?_
        refine zp_load (pc := 41) hx hb (zd_X5_orderClause (41, .aload_n 0, 1, 0, []) (List.mem_of_getElem? (i := 22) rfl)) rfl (j := 1) rfl ?_
        refine zp_getf (n := (x : Int)) (pc := 42) hx hb hE hw (zd_X5_orderClause (42, .getfield 16, 3, 0, []) (List.mem_of_getElem? (i := 23) rfl)) (j := 10) rfl rfl rfl hp ga1n80 ?_
        refine zp_getf (n := ((bb 1 : Nat) : Int)) (pc := 45) hx hb hE hw (zd_X5_orderClause (45, .getfield 75, 3, 0, []) (List.mem_of_getElem? (i := 24) rfl)) (j := 4) rfl rfl rfl px (hUn80.2.2 1 (by decide)).1 ?_
        refine zp_call (pc := 48) (how := 0) (idx := 79) (mi := 59) (S := []) hx hb hE hw heff hrm (zX_ws1 hW t x b cd B ln (zy_to B ln tk) nl C sz (uu + 4) ord bb cl) rfl (j := 7) rfl rfl (by decide +kernel) (zd_X5_orderClause (48, .invokevirtual 79, 3, 0, []) (List.mem_of_getElem? (i := 25) rfl)) [(a : Int), ((bb 1 : Nat) : Int)] rfl ⟨zp_o2 hp, zp_o2 (hUo.2.2 1 (by decide)).2, trivial⟩ (Nat.le_of_ble_eq_true rfl) ⟨hTn80, hUn80, by omega, rfl⟩ (fun al hal rnw1 Pw1 Gw1 hextw1 hfrw1 hokw1 hcsw1 hpsiw1 => ?_)
        obtain rfl := List.mem_singleton.mp hal
        have hrw1 := zp_int (hokw1 _ rfl).1
        obtain ⟨rfl, sw1, hsw1, htw1⟩ := hpsiw1
        rcases htw1 with ⟨qw1, rfl, hzw1, nlw1, Cw1, szw1, hTw1⟩ | ⟨pw1, nw1, yw1, Cw1, szw1, rfl, hzw1, hTTw1, hUw1, huw1, hf9w1, hsz9w1, hC9w1, how1, hXw1⟩
        · subst hzw1
          refine zp_if (pc := 51) (tgt := 56) hx hb (zd_X5_orderClause (51, .ifCond .ne 5, 3, 0, []) (List.mem_of_getElem? (i := 26) rfl)) rfl (fun (hc88 : ¬ 0 = 0) => ?_) (fun (hc88 : ¬ (¬ 0 = 0)) => ?_)
          · exfalso
            omega
          · refine zp_const (pc := 54) hx hb (zd_X5_orderClause (54, .iconst 0, 1, 0, []) (List.mem_of_getElem? (i := 27) rfl)) rfl rfl ?_
            refine zp_zret (pc := 55) (n := 0) hx hb hE hQ hU5 rfl (by decide) (zd_X5_orderClause (55, .ireturn, 1, 0, []) (List.mem_of_getElem? (i := 28) rfl)) (j := 0) rfl (zp_o0 (by omega) (by omega) (by omega) (by omega)) ?_
            rw [hps]
            have hn2 : ¬ yt_ho (zy_so B ln) (zy_wo B ln) tk = 2 := by omega
            refine ⟨rfl, Sum.inl qw1, ?_, Or.inl ⟨_, rfl, rfl, _, _, _, hTw1⟩⟩
            unfold yt_co
            rw [if_neg (by omega)]
            exact ⟨Sum.inl qw1, by rw [if_neg hn2]; exact hsw1, Or.inl ⟨_, rfl, rfl⟩⟩
        · subst hzw1
          have hTw1 : zT u.1 a t x b cd Gw1 B ln pw1 nw1 Cw1 szw1 ord := hTTw1
          have hXw1 := hTw1
          obtain ⟨⟨-, ga0w1, ga1w1, gx5w1⟩, hTtw1, ⟨ga3w1, ga4w1, hnlw1⟩, gx7w1, hszw1, hCw1⟩ := hXw1
          have hfw1 := zTt_f hTtw1
          refine zp_if (pc := 51) (tgt := 56) hx hb (zd_X5_orderClause (51, .ifCond .ne 5, 3, 0, []) (List.mem_of_getElem? (i := 26) rfl)) rfl (fun (hc89 : ¬ 1 = 0) => ?_) (fun (hc89 : ¬ (¬ 1 = 0)) => ?_)
          · refine zp_load (pc := 56) hx hb (zd_X5_orderClause (56, .iload_n 1, 1, 0, []) (List.mem_of_getElem? (i := 29) rfl)) rfl (j := 0) rfl ?_
            refine zp_const (pc := 57) hx hb (zd_X5_orderClause (57, .iconst 1, 1, 0, []) (List.mem_of_getElem? (i := 30) rfl)) rfl rfl ?_
            refine zp_icmp (pc := 58) (tgt := 98) hx hb (zd_X5_orderClause (58, .if_icmp .ne 40, 3, 0, []) (List.mem_of_getElem? (i := 31) rfl)) rfl (fun (hc90 : ¬ rnv = 1) => ?_) (fun (hc90 : ¬ (¬ rnv = 1)) => ?_)
            · refine zp_load (pc := 98) hx hb (zd_X5_orderClause (98, .aload_n 0, 1, 0, []) (List.mem_of_getElem? (i := 50) rfl)) rfl (j := 1) rfl ?_
              have h21 : ¬ yt_ho (zy_so B ln) (zy_wo B ln) tk = 1 := by omega
              have h31 : Gw1 (bb 3) (2000 + cl) = 1 := ((zU_nc hUo hfrw1 3 (by decide) rfl _).trans (zU_nc hUo hfrn80 3 (by decide) rfl _)).trans ho3
              refine zp_call (pc := 99) (how := 0) (idx := 97) (mi := 69) (S := []) hx hb hE hw heff hrm (zX_rep hW t x b cd B ln pw1 nw1 Cw1 szw1 uu ord bb cl) rfl (j := 17) rfl rfl (by decide +kernel) (zd_X5_orderClause (99, .invokevirtual 97, 3, 0, []) (List.mem_of_getElem? (i := 51) rfl)) [(a : Int)] rfl ⟨zp_o2 hp, trivial⟩ (Nat.le_of_ble_eq_true rfl) ⟨hTw1, hUw1, hcl, h31⟩ (fun al hal rnp Pp Gp hextp hfrp hokp hcsp hpsip => ?_)
              obtain rfl := List.mem_singleton.mp hal
              have hrp := zp_int (hokp _ rfl).1
              obtain ⟨rfl, sp, hsp, htp⟩ := hpsip
              rcases htp with ⟨qp, rfl, hzp, nlp, Cp, szp, hTp⟩ | ⟨pp, mp, rfl, hzp, hTTp, hUp, hfp9, hop, hmp⟩
              · subst hzp
                refine zp_if (pc := 102) (tgt := 116) hx hb (zd_X5_orderClause (102, .ifCond .eq 14, 3, 0, []) (List.mem_of_getElem? (i := 52) rfl)) rfl (fun (hc91 : 0 = 0) => ?_) (fun (hc91 : ¬ (0 = 0)) => ?_)
                · refine zp_const (pc := 116) hx hb (zd_X5_orderClause (116, .iconst 0, 1, 0, []) (List.mem_of_getElem? (i := 58) rfl)) rfl rfl ?_
                  refine zp_zret (pc := 117) (n := 0) hx hb hE hQ hU5 rfl (by decide) (zd_X5_orderClause (117, .ireturn, 1, 0, []) (List.mem_of_getElem? (i := 59) rfl)) (j := 0) rfl (zp_o0 (by omega) (by omega) (by omega) (by omega)) ?_
                  rw [hps]
                  have hn2 : ¬ yt_ho (zy_so B ln) (zy_wo B ln) tk = 2 := by omega
                  refine ⟨rfl, Sum.inl qp, ?_, Or.inl ⟨_, rfl, rfl, _, _, _, hTp⟩⟩
                  unfold yt_co
                  rw [if_neg (by omega)]
                  exact ⟨Sum.inr (pw1, nw1, some yw1), by rw [if_neg hn2]; exact hsw1, Or.inr ⟨_, _, _, rfl, Sum.inr (pw1, nw1, none), by rw [if_neg (by omega)], Or.inr ⟨_, _, _, rfl, Sum.inl qp, hsp, Or.inl ⟨_, rfl, rfl⟩⟩⟩⟩
                · exfalso
                  omega
              · subst hzp
                have hTp : zT u.1 a t x b cd Gp B ln pp nw1 Cw1 szw1 ord := hTTp
                have hXp := hTp
                obtain ⟨⟨-, ga0p, ga1p, gx5p⟩, hTtp, ⟨ga3p, ga4p, hnlp⟩, gx7p, hszp, hCp⟩ := hXp
                have hfp := zTt_f hTtp
                refine zp_if (pc := 102) (tgt := 116) hx hb (zd_X5_orderClause (102, .ifCond .eq 14, 3, 0, []) (List.mem_of_getElem? (i := 52) rfl)) rfl (fun (hc92 : 1 = 0) => ?_) (fun (hc92 : ¬ (1 = 0)) => ?_)
                · exfalso
                  omega
                · refine zp_load (pc := 105) hx hb (zd_X5_orderClause (105, .aload_n 0, 1, 0, []) (List.mem_of_getElem? (i := 53) rfl)) rfl (j := 1) rfl ?_
                  refine zp_call (pc := 106) (how := 0) (idx := 83) (mi := 70) (S := []) hx hb hE hw heff hrm (zX_cnd hW t x b cd B ln pp nw1 Cw1 szw1 uu ord bb cl) rfl (j := 18) rfl rfl (by decide +kernel) (zd_X5_orderClause (106, .invokevirtual 83, 3, 0, []) (List.mem_of_getElem? (i := 54) rfl)) [(a : Int)] rfl ⟨zp_o2 hp, trivial⟩ (Nat.le_of_ble_eq_true rfl) ⟨hTp, hUp, by omega⟩ (fun al hal rnc Pc Gc hextc hfrc hokc hcsc hpsic => ?_)
                  obtain rfl := List.mem_singleton.mp hal
                  have hrc := zp_int (hokc _ rfl).1
                  obtain ⟨rfl, sc, hsc, htc⟩ := hpsic
                  rcases htc with ⟨qc, rfl, hzc, nlc, Cc, szc, hTc⟩ | ⟨pc2, nc, oy, Cc, szc, rfl, hzc, hTTc, hUc, huc, hfc9, hszc9, hCc9, hoc, hXc⟩
                  · subst hzc
                    refine zp_if (pc := 109) (tgt := 116) hx hb (zd_X5_orderClause (109, .ifCond .eq 7, 3, 0, []) (List.mem_of_getElem? (i := 55) rfl)) rfl (fun (hc93 : 0 = 0) => ?_) (fun (hc93 : ¬ (0 = 0)) => ?_)
                    · refine zp_const (pc := 116) hx hb (zd_X5_orderClause (116, .iconst 0, 1, 0, []) (List.mem_of_getElem? (i := 58) rfl)) rfl rfl ?_
                      refine zp_zret (pc := 117) (n := 0) hx hb hE hQ hU5 rfl (by decide) (zd_X5_orderClause (117, .ireturn, 1, 0, []) (List.mem_of_getElem? (i := 59) rfl)) (j := 0) rfl (zp_o0 (by omega) (by omega) (by omega) (by omega)) ?_
                      rw [hps]
                      have hn2 : ¬ yt_ho (zy_so B ln) (zy_wo B ln) tk = 2 := by omega
                      refine ⟨rfl, Sum.inl qc, ?_, Or.inl ⟨_, rfl, rfl, _, _, _, hTc⟩⟩
                      unfold yt_co
                      rw [if_neg (by omega)]
                      exact ⟨Sum.inr (pw1, nw1, some yw1), by rw [if_neg hn2]; exact hsw1, Or.inr ⟨_, _, _, rfl, Sum.inr (pw1, nw1, none), by rw [if_neg (by omega)], Or.inr ⟨_, _, _, rfl, _, hsp, Or.inr ⟨_, _, rfl, Sum.inl qc, hsc, Or.inl ⟨_, rfl, rfl⟩⟩⟩⟩⟩
                    · exfalso
                      omega
                  · subst hzc
                    replace hXc : zHid _ := hXc
                    have hTc : zT u.1 a t x b cd Gc B ln pc2 nc Cc szc ord := hTTc
                    have hXc := hTc
                    obtain ⟨⟨-, ga0c, ga1c, gx5c⟩, hTtc, ⟨ga3c, ga4c, hnlc⟩, gx7c, hszc, hCc⟩ := hXc
                    have hfc := zTt_f hTtc
                    refine zp_if (pc := 109) (tgt := 116) hx hb (zd_X5_orderClause (109, .ifCond .eq 7, 3, 0, []) (List.mem_of_getElem? (i := 55) rfl)) rfl (fun (hc94 : 1 = 0) => ?_) (fun (hc94 : ¬ (1 = 0)) => ?_)
                    · exfalso
                      omega
                    · refine zp_const (pc := 112) hx hb (zd_X5_orderClause (112, .iconst 1, 1, 0, []) (List.mem_of_getElem? (i := 56) rfl)) rfl rfl ?_
                      refine zp_goto (tgt := 117) (pc := 113) hx hb (zd_X5_orderClause (113, .goto 4, 3, 0, []) (List.mem_of_getElem? (i := 57) rfl)) rfl ?_
                      refine zp_zret (pc := 117) (n := 1) hx hb hE hQ hU5 rfl (by decide) (zd_X5_orderClause (117, .ireturn, 1, 0, []) (List.mem_of_getElem? (i := 59) rfl)) (j := 0) rfl (zp_o0 (by omega) (by omega) (by omega) (by omega)) ?_
                      rw [hps]
                      have hn2 : ¬ yt_ho (zy_so B ln) (zy_wo B ln) tk = 2 := by omega
                      have hA0 : ∀ j : Nat, Gc (bb 0) (2000 + j) = Go (bb 0) (2000 + j) := fun j => (zU_nc hUo hfrc 0 (by decide) rfl _).trans ((zU_nc hUo hfrp 0 (by decide) rfl _).trans ((zU_nc hUo hfrw1 0 (by decide) rfl _).trans (zU_nc hUo hfrn80 0 (by decide) rfl _)))
                      have hB1 : ∀ j : Nat, Gc (bb 1) (2000 + j) = Gw1 (bb 1) (2000 + j) := fun j => (zU_nc hUo hfrc 1 (by decide) rfl _).trans (zU_nc hUo hfrp 1 (by decide) rfl _)
                      have hD1 : ∀ j : Nat, Gn80 (bb 1) (2000 + j) = Go (bb 1) (2000 + j) := fun j => zU_nc hUo hfrn80 1 (by decide) rfl _
                      have hE1 : ∀ j : Nat, j ≠ cl → Gc (bb 1) (2000 + j) = Go (bb 1) (2000 + j) := fun j hj => (hB1 j).trans ((how1 j hj).trans (hD1 j))
                      have hE2 : ∀ j : Nat, Gc (bb 2) (2000 + j) = Go (bb 2) (2000 + j) := fun j => (zU_nc hUo hfrc 2 (by decide) rfl _).trans ((zU_nc hUo hfrp 2 (by decide) rfl _).trans ((zU_nc hUo hfrw1 2 (by decide) rfl _).trans (zU_nc hUo hfrn80 2 (by decide) rfl _)))
                      have hB3 : ∀ j : Nat, Gc (bb 3) (2000 + j) = Gp (bb 3) (2000 + j) := fun j => zU_nc hUo hfrc 3 (by decide) rfl _
                      have hD3 : ∀ j : Nat, Gw1 (bb 3) (2000 + j) = Go (bb 3) (2000 + j) := fun j => (zU_nc hUo hfrw1 3 (by decide) rfl _).trans (zU_nc hUo hfrn80 3 (by decide) rfl _)
                      have hE3 : ∀ j : Nat, j ≠ cl → Gc (bb 3) (2000 + j) = Go (bb 3) (2000 + j) := fun j hj => (hB3 j).trans ((hop j hj).trans (hD3 j))
                      have hB4 : ∀ j : Nat, Gc (bb 4) (2000 + j) = Gc (bb 4) (2000 + j) := fun j => rfl
                      have hD4 : ∀ j : Nat, Gp (bb 4) (2000 + j) = Go (bb 4) (2000 + j) := fun j => (zU_nc hUo hfrp 4 (by decide) rfl _).trans ((zU_nc hUo hfrw1 4 (by decide) rfl _).trans (zU_nc hUo hfrn80 4 (by decide) rfl _))
                      have hE4 : ∀ j : Nat, j ≠ cl → Gc (bb 4) (2000 + j) = Go (bb 4) (2000 + j) := fun j hj => (hB4 j).trans ((hoc j hj).trans (hD4 j))
                      refine ⟨rfl, Sum.inr (pc2, nc, (yt_ho (zy_so B ln) (zy_wo B ln) tk, some yw1, none, mp, oy)), ?_, Or.inr ⟨pc2, nc, _, Cc, szc, rfl, rfl, hTTc, hUc, by omega, by omega, by omega, fun j hj => ?_, fun i j hi hj => ?_, ?_⟩⟩
                      · unfold yt_co
                        rw [if_neg (by omega)]
                        exact ⟨Sum.inr (pw1, nw1, some yw1), by rw [if_neg hn2]; exact hsw1, Or.inr ⟨_, _, _, rfl, Sum.inr (pw1, nw1, none), by rw [if_neg (by omega)], Or.inr ⟨_, _, _, rfl, _, hsp, Or.inr ⟨_, _, rfl, _, hsc, Or.inr ⟨_, _, _, rfl, rfl⟩⟩⟩⟩⟩
                      · exact (hCc9 j (by omega)).trans (hC9w1 j hj)
                      · have hi5 : i = 0 ∨ i = 1 ∨ i = 2 ∨ i = 3 ∨ i = 4 := by omega
                        rcases hi5 with rfl | rfl | rfl | rfl | rfl
                        · exact (hA0 j).trans (hoo 0 j (by decide) hj)
                        · exact (hE1 j hj).trans (hoo 1 j (by decide) hj)
                        · exact (hE2 j).trans (hoo 2 j (by decide) hj)
                        · exact (hE3 j hj).trans (hoo 3 j (by decide) hj)
                        · exact (hE4 j hj).trans (hoo 4 j (by decide) hj)
                      · refine ⟨⟨(hA0 cl).trans (ho0.trans hv9), by omega, by omega⟩, ?_, ?_, ?_, ?_⟩
                        · refine Or.inr ⟨yw1, rfl, ?_⟩
                          show zXp Cc szc ord (Gc (bb 1) (2000 + cl)) yw1
                          rw [hB1 cl]
                          exact zXp_c hXw1 (by omega) (fun j hj => hCc9 j (by omega))
                        · exact Or.inl ⟨rfl, (hE2 cl).trans ho2⟩
                        · exact (hB3 cl).trans hmp
                        · rcases hXc with ⟨g1, g2⟩ | ⟨y9, g1, g2, g3⟩
                          · exact Or.inl ⟨g1, g2.trans ((hD4 cl).trans ho4)⟩
                          · exact Or.inr ⟨y9, g1, g2, g3⟩
            · refine zp_load (pc := 61) hx hb (zd_X5_orderClause (61, .aload_n 0, 1, 0, []) (List.mem_of_getElem? (i := 32) rfl)) rfl (j := 1) rfl ?_
              refine zp_getf (n := (t : Int)) (pc := 62) hx hb hE hw (zd_X5_orderClause (62, .getfield 24, 3, 0, []) (List.mem_of_getElem? (i := 33) rfl)) (j := 9) rfl rfl rfl hp ga0w1 ?_
              refine zp_ldS (pc := 65) hx hb hE (zd_X5_orderClause (65, .ldc 88, 2, 0, []) (List.mem_of_getElem? (i := 34) rfl)) (j := 20) rfl (fun tx95 qtx95 => ?_)
              refine zp_call (pc := 67) (how := 0) (idx := 90) (mi := 68) (S := []) hx hb hE hw heff hrm (zX_viby hW b B ln pw1) rfl (j := 16) rfl rfl (by decide +kernel) (zd_X5_orderClause (67, .invokevirtual 90, 3, 0, []) (List.mem_of_getElem? (i := 35) rfl)) [(t : Int), (tx95 : Int)] rfl ⟨zp_o2 pt, zp_o2 qtx95, trivial⟩ (Nat.le_of_ble_eq_true rfl) hTtw1 (fun al hal rnd96 Pd96 Gd96 hextd96 hfrd96 hokd96 hcsd96 hpsid96 => ?_)
              obtain rfl := List.mem_singleton.mp hal
              have hrd96 := zp_int (hokd96 _ rfl).1
              obtain ⟨hPed96, hGed96, htd96⟩ := hpsid96
              rw [hPed96, hGed96]
              by_cases hkd96 : yr_w (zy_so B ln) (zy_wo B ln) 89 pw1 = true
              · obtain rfl : rnd96 = 1 := htd96.mpr hkd96
                refine zp_if (pc := 70) (tgt := 75) hx hb (zd_X5_orderClause (70, .ifCond .ne 5, 3, 0, []) (List.mem_of_getElem? (i := 36) rfl)) rfl (fun (hc97 : ¬ 1 = 0) => ?_) (fun (hc97 : ¬ (¬ 1 = 0)) => ?_)
                · refine zp_load (pc := 75) hx hb (zd_X5_orderClause (75, .aload_n 0, 1, 0, []) (List.mem_of_getElem? (i := 39) rfl)) rfl (j := 1) rfl ?_
                  refine zp_getf (n := (t : Int)) (pc := 76) hx hb hE hw (zd_X5_orderClause (76, .getfield 24, 3, 0, []) (List.mem_of_getElem? (i := 40) rfl)) (j := 9) rfl rfl rfl hp ga0w1 ?_
                  have hgnw1 := (zTt_go hTtw1).1
                  refine zp_call (pc := 79) (how := 0) (idx := 60) (mi := 43) (S := []) hx hb hE hw heff hrm (zX_cnx hW) rfl (j := 6) rfl rfl (by decide +kernel) (zd_X5_orderClause (79, .invokevirtual 60, 3, 0, []) (List.mem_of_getElem? (i := 41) rfl)) [(t : Int)] rfl ⟨zp_o2 pt, trivial⟩ (Nat.le_of_ble_eq_true rfl) (zTt_q hTtw1) (fun al hal rnn98 Pn98 Gn98 hextn98 hfrn98 hokn98 hcsn98 hpsin98 => ?_)
                  obtain rfl := List.mem_singleton.mp hal
                  obtain ⟨rfl, htn98⟩ := hpsin98
                  have hgon98 := zTt_go hTtw1
                  have hTn98 : zT u.1 a t x b cd Gn98 B ln (zy_to B ln pw1) nw1 Cw1 szw1 ord := zT_nx hTw1 hfrn98 htn98
                  have hXn98 := hTn98
                  obtain ⟨⟨-, ga0n98, ga1n98, gx5n98⟩, hTtn98, ⟨ga3n98, ga4n98, hnln98⟩, gx7n98, hszn98, hCn98⟩ := hXn98
                  have hfn98 := zTt_f hTtn98
                  have hUn98 : zU u.1 x Gn98 bb (cl + 1) := zU_fr hUw1 px hfrn98 rfl ((zp_nf hfrn98 px rfl).trans hUw1.1) (by omega)
                  refine zp_load (pc := 82) hx hb (zd_X5_orderClause (82, .aload_n 0, 1, 0, []) (List.mem_of_getElem? (i := 42) rfl)) rfl (j := 1) rfl ?_
                  refine zp_load (pc := 83) hx hb (zd_X5_orderClause (83, .aload_n 0, 1, 0, []) (List.mem_of_getElem? (i := 43) rfl)) rfl (j := 1) rfl ?_
                  refine zp_getf (n := (x : Int)) (pc := 84) hx hb hE hw (zd_X5_orderClause (84, .getfield 16, 3, 0, []) (List.mem_of_getElem? (i := 44) rfl)) (j := 10) rfl rfl rfl hp ga1n98 ?_
                  refine zp_getf (n := ((bb 2 : Nat) : Int)) (pc := 87) hx hb hE hw (zd_X5_orderClause (87, .getfield 94, 3, 0, []) (List.mem_of_getElem? (i := 45) rfl)) (j := 5) rfl rfl rfl px (hUn98.2.2 2 (by decide)).1 ?_
                  refine zp_call (pc := 90) (how := 0) (idx := 79) (mi := 59) (S := []) hx hb hE hw heff hrm (zX_ws2 hW t x b cd B ln (zy_to B ln pw1) nw1 Cw1 szw1 (uu + 2) ord bb cl) rfl (j := 7) rfl rfl (by decide +kernel) (zd_X5_orderClause (90, .invokevirtual 79, 3, 0, []) (List.mem_of_getElem? (i := 46) rfl)) [(a : Int), ((bb 2 : Nat) : Int)] rfl ⟨zp_o2 hp, zp_o2 (hUo.2.2 2 (by decide)).2, trivial⟩ (Nat.le_of_ble_eq_true rfl) ⟨hTn98, hUn98, by omega, rfl⟩ (fun al hal rnw2 Pw2 Gw2 hextw2 hfrw2 hokw2 hcsw2 hpsiw2 => ?_)
                  obtain rfl := List.mem_singleton.mp hal
                  have hrw2 := zp_int (hokw2 _ rfl).1
                  obtain ⟨rfl, sw2, hsw2, htw2⟩ := hpsiw2
                  rcases htw2 with ⟨qw2, rfl, hzw2, nlw2, Cw2, szw2, hTw2⟩ | ⟨pw2, nw2, yw2, Cw2, szw2, rfl, hzw2, hTTw2, hUw2, huw2, hf9w2, hsz9w2, hC9w2, how2, hXw2⟩
                  · subst hzw2
                    refine zp_if (pc := 93) (tgt := 98) hx hb (zd_X5_orderClause (93, .ifCond .ne 5, 3, 0, []) (List.mem_of_getElem? (i := 47) rfl)) rfl (fun (hc99 : ¬ 0 = 0) => ?_) (fun (hc99 : ¬ (¬ 0 = 0)) => ?_)
                    · exfalso
                      omega
                    · refine zp_const (pc := 96) hx hb (zd_X5_orderClause (96, .iconst 0, 1, 0, []) (List.mem_of_getElem? (i := 48) rfl)) rfl rfl ?_
                      refine zp_zret (pc := 97) (n := 0) hx hb hE hQ hU5 rfl (by decide) (zd_X5_orderClause (97, .ireturn, 1, 0, []) (List.mem_of_getElem? (i := 49) rfl)) (j := 0) rfl (zp_o0 (by omega) (by omega) (by omega) (by omega)) ?_
                      rw [hps]
                      have hn2 : ¬ yt_ho (zy_so B ln) (zy_wo B ln) tk = 2 := by omega
                      have h11 : yt_ho (zy_so B ln) (zy_wo B ln) tk = 1 := by omega
                      refine ⟨rfl, Sum.inl qw2, ?_, Or.inl ⟨_, rfl, rfl, _, _, _, hTw2⟩⟩
                      unfold yt_co
                      rw [if_neg (by omega)]
                      exact ⟨Sum.inr (pw1, nw1, some yw1), by rw [if_neg hn2]; exact hsw1, Or.inr ⟨_, _, _, rfl, Sum.inl qw2, by rw [if_pos h11, if_pos hkd96]; exact hsw2, Or.inl ⟨_, rfl, rfl⟩⟩⟩
                  · subst hzw2
                    have hTw2 : zT u.1 a t x b cd Gw2 B ln pw2 nw2 Cw2 szw2 ord := hTTw2
                    have hXw2 := hTw2
                    obtain ⟨⟨-, ga0w2, ga1w2, gx5w2⟩, hTtw2, ⟨ga3w2, ga4w2, hnlw2⟩, gx7w2, hszw2, hCw2⟩ := hXw2
                    have hfw2 := zTt_f hTtw2
                    refine zp_if (pc := 93) (tgt := 98) hx hb (zd_X5_orderClause (93, .ifCond .ne 5, 3, 0, []) (List.mem_of_getElem? (i := 47) rfl)) rfl (fun (hc100 : ¬ 1 = 0) => ?_) (fun (hc100 : ¬ (¬ 1 = 0)) => ?_)
                    · refine zp_load (pc := 98) hx hb (zd_X5_orderClause (98, .aload_n 0, 1, 0, []) (List.mem_of_getElem? (i := 50) rfl)) rfl (j := 1) rfl ?_
                      have h31 : Gw2 (bb 3) (2000 + cl) = 1 := ((zU_nc hUo hfrw2 3 (by decide) rfl _).trans ((zU_nc hUo hfrn98 3 (by decide) rfl _).trans ((zU_nc hUo hfrw1 3 (by decide) rfl _).trans (zU_nc hUo hfrn80 3 (by decide) rfl _)))).trans ho3
                      refine zp_call (pc := 99) (how := 0) (idx := 97) (mi := 69) (S := []) hx hb hE hw heff hrm (zX_rep hW t x b cd B ln pw2 nw2 Cw2 szw2 uu ord bb cl) rfl (j := 17) rfl rfl (by decide +kernel) (zd_X5_orderClause (99, .invokevirtual 97, 3, 0, []) (List.mem_of_getElem? (i := 51) rfl)) [(a : Int)] rfl ⟨zp_o2 hp, trivial⟩ (Nat.le_of_ble_eq_true rfl) ⟨hTw2, hUw2, hcl, h31⟩ (fun al hal rnp Pp Gp hextp hfrp hokp hcsp hpsip => ?_)
                      obtain rfl := List.mem_singleton.mp hal
                      have hrp := zp_int (hokp _ rfl).1
                      obtain ⟨rfl, sp, hsp, htp⟩ := hpsip
                      rcases htp with ⟨qp, rfl, hzp, nlp, Cp, szp, hTp⟩ | ⟨pp, mp, rfl, hzp, hTTp, hUp, hfp9, hop, hmp⟩
                      · subst hzp
                        refine zp_if (pc := 102) (tgt := 116) hx hb (zd_X5_orderClause (102, .ifCond .eq 14, 3, 0, []) (List.mem_of_getElem? (i := 52) rfl)) rfl (fun (hc101 : 0 = 0) => ?_) (fun (hc101 : ¬ (0 = 0)) => ?_)
                        · refine zp_const (pc := 116) hx hb (zd_X5_orderClause (116, .iconst 0, 1, 0, []) (List.mem_of_getElem? (i := 58) rfl)) rfl rfl ?_
                          refine zp_zret (pc := 117) (n := 0) hx hb hE hQ hU5 rfl (by decide) (zd_X5_orderClause (117, .ireturn, 1, 0, []) (List.mem_of_getElem? (i := 59) rfl)) (j := 0) rfl (zp_o0 (by omega) (by omega) (by omega) (by omega)) ?_
                          rw [hps]
                          have hn2 : ¬ yt_ho (zy_so B ln) (zy_wo B ln) tk = 2 := by omega
                          have h11 : yt_ho (zy_so B ln) (zy_wo B ln) tk = 1 := by omega
                          refine ⟨rfl, Sum.inl qp, ?_, Or.inl ⟨_, rfl, rfl, _, _, _, hTp⟩⟩
                          unfold yt_co
                          rw [if_neg (by omega)]
                          exact ⟨Sum.inr (pw1, nw1, some yw1), by rw [if_neg hn2]; exact hsw1, Or.inr ⟨_, _, _, rfl, Sum.inr (pw2, nw2, some yw2), by rw [if_pos h11, if_pos hkd96]; exact hsw2, Or.inr ⟨_, _, _, rfl, Sum.inl qp, hsp, Or.inl ⟨_, rfl, rfl⟩⟩⟩⟩
                        · exfalso
                          omega
                      · subst hzp
                        have hTp : zT u.1 a t x b cd Gp B ln pp nw2 Cw2 szw2 ord := hTTp
                        have hXp := hTp
                        obtain ⟨⟨-, ga0p, ga1p, gx5p⟩, hTtp, ⟨ga3p, ga4p, hnlp⟩, gx7p, hszp, hCp⟩ := hXp
                        have hfp := zTt_f hTtp
                        refine zp_if (pc := 102) (tgt := 116) hx hb (zd_X5_orderClause (102, .ifCond .eq 14, 3, 0, []) (List.mem_of_getElem? (i := 52) rfl)) rfl (fun (hc102 : 1 = 0) => ?_) (fun (hc102 : ¬ (1 = 0)) => ?_)
                        · exfalso
                          omega
                        · refine zp_load (pc := 105) hx hb (zd_X5_orderClause (105, .aload_n 0, 1, 0, []) (List.mem_of_getElem? (i := 53) rfl)) rfl (j := 1) rfl ?_
                          refine zp_call (pc := 106) (how := 0) (idx := 83) (mi := 70) (S := []) hx hb hE hw heff hrm (zX_cnd hW t x b cd B ln pp nw2 Cw2 szw2 uu ord bb cl) rfl (j := 18) rfl rfl (by decide +kernel) (zd_X5_orderClause (106, .invokevirtual 83, 3, 0, []) (List.mem_of_getElem? (i := 54) rfl)) [(a : Int)] rfl ⟨zp_o2 hp, trivial⟩ (Nat.le_of_ble_eq_true rfl) ⟨hTp, hUp, by omega⟩ (fun al hal rnc Pc Gc hextc hfrc hokc hcsc hpsic => ?_)
                          obtain rfl := List.mem_singleton.mp hal
                          have hrc := zp_int (hokc _ rfl).1
                          obtain ⟨rfl, sc, hsc, htc⟩ := hpsic
                          rcases htc with ⟨qc, rfl, hzc, nlc, Cc, szc, hTc⟩ | ⟨pc2, nc, oy, Cc, szc, rfl, hzc, hTTc, hUc, huc, hfc9, hszc9, hCc9, hoc, hXc⟩
                          · subst hzc
                            refine zp_if (pc := 109) (tgt := 116) hx hb (zd_X5_orderClause (109, .ifCond .eq 7, 3, 0, []) (List.mem_of_getElem? (i := 55) rfl)) rfl (fun (hc103 : 0 = 0) => ?_) (fun (hc103 : ¬ (0 = 0)) => ?_)
                            · refine zp_const (pc := 116) hx hb (zd_X5_orderClause (116, .iconst 0, 1, 0, []) (List.mem_of_getElem? (i := 58) rfl)) rfl rfl ?_
                              refine zp_zret (pc := 117) (n := 0) hx hb hE hQ hU5 rfl (by decide) (zd_X5_orderClause (117, .ireturn, 1, 0, []) (List.mem_of_getElem? (i := 59) rfl)) (j := 0) rfl (zp_o0 (by omega) (by omega) (by omega) (by omega)) ?_
                              rw [hps]
                              have hn2 : ¬ yt_ho (zy_so B ln) (zy_wo B ln) tk = 2 := by omega
                              have h11 : yt_ho (zy_so B ln) (zy_wo B ln) tk = 1 := by omega
                              refine ⟨rfl, Sum.inl qc, ?_, Or.inl ⟨_, rfl, rfl, _, _, _, hTc⟩⟩
                              unfold yt_co
                              rw [if_neg (by omega)]
                              exact ⟨Sum.inr (pw1, nw1, some yw1), by rw [if_neg hn2]; exact hsw1, Or.inr ⟨_, _, _, rfl, Sum.inr (pw2, nw2, some yw2), by rw [if_pos h11, if_pos hkd96]; exact hsw2, Or.inr ⟨_, _, _, rfl, _, hsp, Or.inr ⟨_, _, rfl, Sum.inl qc, hsc, Or.inl ⟨_, rfl, rfl⟩⟩⟩⟩⟩
                            · exfalso
                              omega
                          · subst hzc
                            replace hXc : zHid _ := hXc
                            have hTc : zT u.1 a t x b cd Gc B ln pc2 nc Cc szc ord := hTTc
                            have hXc := hTc
                            obtain ⟨⟨-, ga0c, ga1c, gx5c⟩, hTtc, ⟨ga3c, ga4c, hnlc⟩, gx7c, hszc, hCc⟩ := hXc
                            have hfc := zTt_f hTtc
                            refine zp_if (pc := 109) (tgt := 116) hx hb (zd_X5_orderClause (109, .ifCond .eq 7, 3, 0, []) (List.mem_of_getElem? (i := 55) rfl)) rfl (fun (hc104 : 1 = 0) => ?_) (fun (hc104 : ¬ (1 = 0)) => ?_)
                            · exfalso
                              omega
                            · refine zp_const (pc := 112) hx hb (zd_X5_orderClause (112, .iconst 1, 1, 0, []) (List.mem_of_getElem? (i := 56) rfl)) rfl rfl ?_
                              refine zp_goto (tgt := 117) (pc := 113) hx hb (zd_X5_orderClause (113, .goto 4, 3, 0, []) (List.mem_of_getElem? (i := 57) rfl)) rfl ?_
                              refine zp_zret (pc := 117) (n := 1) hx hb hE hQ hU5 rfl (by decide) (zd_X5_orderClause (117, .ireturn, 1, 0, []) (List.mem_of_getElem? (i := 59) rfl)) (j := 0) rfl (zp_o0 (by omega) (by omega) (by omega) (by omega)) ?_
                              rw [hps]
                              have hn2 : ¬ yt_ho (zy_so B ln) (zy_wo B ln) tk = 2 := by omega
                              have h11 : yt_ho (zy_so B ln) (zy_wo B ln) tk = 1 := by omega
                              have hA0 : ∀ j : Nat, Gc (bb 0) (2000 + j) = Go (bb 0) (2000 + j) := fun j => (zU_nc hUo hfrc 0 (by decide) rfl _).trans ((zU_nc hUo hfrp 0 (by decide) rfl _).trans ((zU_nc hUo hfrw2 0 (by decide) rfl _).trans ((zU_nc hUo hfrn98 0 (by decide) rfl _).trans ((zU_nc hUo hfrw1 0 (by decide) rfl _).trans (zU_nc hUo hfrn80 0 (by decide) rfl _)))))
                              have hB1 : ∀ j : Nat, Gc (bb 1) (2000 + j) = Gw1 (bb 1) (2000 + j) := fun j => (zU_nc hUo hfrc 1 (by decide) rfl _).trans ((zU_nc hUo hfrp 1 (by decide) rfl _).trans ((zU_nc hUo hfrw2 1 (by decide) rfl _).trans (zU_nc hUo hfrn98 1 (by decide) rfl _)))
                              have hD1 : ∀ j : Nat, Gn80 (bb 1) (2000 + j) = Go (bb 1) (2000 + j) := fun j => zU_nc hUo hfrn80 1 (by decide) rfl _
                              have hE1 : ∀ j : Nat, j ≠ cl → Gc (bb 1) (2000 + j) = Go (bb 1) (2000 + j) := fun j hj => (hB1 j).trans ((how1 j hj).trans (hD1 j))
                              have hB2 : ∀ j : Nat, Gc (bb 2) (2000 + j) = Gw2 (bb 2) (2000 + j) := fun j => (zU_nc hUo hfrc 2 (by decide) rfl _).trans (zU_nc hUo hfrp 2 (by decide) rfl _)
                              have hD2 : ∀ j : Nat, Gn98 (bb 2) (2000 + j) = Go (bb 2) (2000 + j) := fun j => (zU_nc hUo hfrn98 2 (by decide) rfl _).trans ((zU_nc hUo hfrw1 2 (by decide) rfl _).trans (zU_nc hUo hfrn80 2 (by decide) rfl _))
                              have hE2 : ∀ j : Nat, j ≠ cl → Gc (bb 2) (2000 + j) = Go (bb 2) (2000 + j) := fun j hj => (hB2 j).trans ((how2 j hj).trans (hD2 j))
                              have hB3 : ∀ j : Nat, Gc (bb 3) (2000 + j) = Gp (bb 3) (2000 + j) := fun j => zU_nc hUo hfrc 3 (by decide) rfl _
                              have hD3 : ∀ j : Nat, Gw2 (bb 3) (2000 + j) = Go (bb 3) (2000 + j) := fun j => (zU_nc hUo hfrw2 3 (by decide) rfl _).trans ((zU_nc hUo hfrn98 3 (by decide) rfl _).trans ((zU_nc hUo hfrw1 3 (by decide) rfl _).trans (zU_nc hUo hfrn80 3 (by decide) rfl _)))
                              have hE3 : ∀ j : Nat, j ≠ cl → Gc (bb 3) (2000 + j) = Go (bb 3) (2000 + j) := fun j hj => (hB3 j).trans ((hop j hj).trans (hD3 j))
                              have hB4 : ∀ j : Nat, Gc (bb 4) (2000 + j) = Gc (bb 4) (2000 + j) := fun j => rfl
                              have hD4 : ∀ j : Nat, Gp (bb 4) (2000 + j) = Go (bb 4) (2000 + j) := fun j => (zU_nc hUo hfrp 4 (by decide) rfl _).trans ((zU_nc hUo hfrw2 4 (by decide) rfl _).trans ((zU_nc hUo hfrn98 4 (by decide) rfl _).trans ((zU_nc hUo hfrw1 4 (by decide) rfl _).trans (zU_nc hUo hfrn80 4 (by decide) rfl _))))
                              have hE4 : ∀ j : Nat, j ≠ cl → Gc (bb 4) (2000 + j) = Go (bb 4) (2000 + j) := fun j hj => (hB4 j).trans ((hoc j hj).trans (hD4 j))
                              refine ⟨rfl, Sum.inr (pc2, nc, (yt_ho (zy_so B ln) (zy_wo B ln) tk, some yw1, some yw2, mp, oy)), ?_, Or.inr ⟨pc2, nc, _, Cc, szc, rfl, rfl, hTTc, hUc, by omega, by omega, by omega, fun j hj => ?_, fun i j hi hj => ?_, ?_⟩⟩
                              · unfold yt_co
                                rw [if_neg (by omega)]
                                exact ⟨Sum.inr (pw1, nw1, some yw1), by rw [if_neg hn2]; exact hsw1, Or.inr ⟨_, _, _, rfl, Sum.inr (pw2, nw2, some yw2), by rw [if_pos h11, if_pos hkd96]; exact hsw2, Or.inr ⟨_, _, _, rfl, _, hsp, Or.inr ⟨_, _, rfl, _, hsc, Or.inr ⟨_, _, _, rfl, rfl⟩⟩⟩⟩⟩
                              · exact (hCc9 j (by omega)).trans ((hC9w2 j (by omega)).trans (hC9w1 j hj))
                              · have hi5 : i = 0 ∨ i = 1 ∨ i = 2 ∨ i = 3 ∨ i = 4 := by omega
                                rcases hi5 with rfl | rfl | rfl | rfl | rfl
                                · exact (hA0 j).trans (hoo 0 j (by decide) hj)
                                · exact (hE1 j hj).trans (hoo 1 j (by decide) hj)
                                · exact (hE2 j hj).trans (hoo 2 j (by decide) hj)
                                · exact (hE3 j hj).trans (hoo 3 j (by decide) hj)
                                · exact (hE4 j hj).trans (hoo 4 j (by decide) hj)
                              · refine ⟨⟨(hA0 cl).trans (ho0.trans hv9), by omega, by omega⟩, ?_, ?_, ?_, ?_⟩
                                · refine Or.inr ⟨yw1, rfl, ?_⟩
                                  show zXp Cc szc ord (Gc (bb 1) (2000 + cl)) yw1
                                  rw [hB1 cl]
                                  exact zXp_c hXw1 (by omega) (fun j hj => (hCc9 j (by omega)).trans (hC9w2 j (by omega)))
                                · refine Or.inr ⟨yw2, rfl, ?_⟩
                                  show zXp Cc szc ord (Gc (bb 2) (2000 + cl)) yw2
                                  rw [hB2 cl]
                                  exact zXp_c hXw2 (by omega) (fun j hj => hCc9 j (by omega))
                                · exact (hB3 cl).trans hmp
                                · rcases hXc with ⟨g1, g2⟩ | ⟨y9, g1, g2, g3⟩
                                  · exact Or.inl ⟨g1, g2.trans ((hD4 cl).trans ho4)⟩
                                  · exact Or.inr ⟨y9, g1, g2, g3⟩
                    · exfalso
                      omega
                · exfalso
                  omega
              · have zd96 : ¬ rnd96 = 1 := fun z => hkd96 (htd96.mp z)
                obtain rfl : rnd96 = 0 := by omega
                refine zp_if (pc := 70) (tgt := 75) hx hb (zd_X5_orderClause (70, .ifCond .ne 5, 3, 0, []) (List.mem_of_getElem? (i := 36) rfl)) rfl (fun (hc105 : ¬ 0 = 0) => ?_) (fun (hc105 : ¬ (¬ 0 = 0)) => ?_)
                · exfalso
                  omega
                · refine zp_const (pc := 73) hx hb (zd_X5_orderClause (73, .iconst 0, 1, 0, []) (List.mem_of_getElem? (i := 37) rfl)) rfl rfl ?_
                  refine zp_zret (pc := 74) (n := 0) hx hb hE hQ hU5 rfl (by decide) (zd_X5_orderClause (74, .ireturn, 1, 0, []) (List.mem_of_getElem? (i := 38) rfl)) (j := 0) rfl (zp_o0 (by omega) (by omega) (by omega) (by omega)) ?_
                  rw [hps]
                  have hn2 : ¬ yt_ho (zy_so B ln) (zy_wo B ln) tk = 2 := by omega
                  have h11 : yt_ho (zy_so B ln) (zy_wo B ln) tk = 1 := by omega
                  refine ⟨rfl, Sum.inl pw1, ?_, Or.inl ⟨_, rfl, rfl, _, _, _, hTTw1⟩⟩
                  unfold yt_co
                  rw [if_neg (by omega)]
                  exact ⟨Sum.inr (pw1, nw1, some yw1), by rw [if_neg hn2]; exact hsw1, Or.inr ⟨_, _, _, rfl, Sum.inl pw1, by rw [if_pos h11, if_neg hkd96], Or.inl ⟨_, rfl, rfl⟩⟩⟩
          · exfalso
            omega
    · exfalso
      omega
noncomputable def zφ_rdo (t x b cd : Nat) (B : Nat → Int) (ln : Nat) (bb : Nat → Nat) : (Nat → Option Nat) → (Nat → Nat → Int) → List Int → Prop := fun P G ps => zTa P (zp_0 ps) t x b cd G ∧ ((G t 0 = (b : Int) ∧ G t 1 = (ln : Int) ∧ ln ≤ 400 ∧ ∀ j, G b (2000 + j) = B j) ∧ ∀ j, j < ln → 0 ≤ B j ∧ B j ≤ 255) ∧ (∀ i : Nat, i < 5 → G x i = (bb i : Int) ∧ P (bb i) = some (30 + i)) ∧ ps.getD 1 0 = 1
noncomputable def zψ_rdo (t x b cd : Nat) (B : Nat → Int) (ln : Nat) (bb : Nat → Nat) : (Nat → Option Nat) → (Nat → Nat → Int) → List Int → (Nat → Option Nat) → (Nat → Nat → Int) → Int → Prop := fun P G ps P' G' rn => P' = P ∧ ∃ s, yT (zy_so B ln) (zy_wo B ln) (zy_to B ln) (yt_co (zy_so B ln) (zy_wo B ln) (zy_to B ln) (ylf true B ln)) 12 0 0 s ∧ ((∃ q, s = Sum.inl q ∧ rn = 0 ∧ G' (zp_0 ps) 2 = (zy_fr B ln q : Int)) ∨ ∃ (M : List yK) (C' : Nat → Int) (sz' : Nat), s = Sum.inr M ∧ rn = 1 ∧ G' (zp_0 ps) 2 = -1 ∧ G' x 6 = (M.length : Int) ∧ M.length ≤ 12 ∧ G' x 7 = (sz' : Int) ∧ sz' ≤ 872 ∧ (∀ j, G' cd (2000 + j) = C' j) ∧ zXs (fun i j => G' (bb i) (2000 + j)) C' sz' true 0 M)
noncomputable def zK_rdo : zk_K := (zt_mn 40, prog_7_method_2_code, 4, (Option.some Jvm.ClassFile.FieldType.boolean), 1, 5, [(2, 5, 0, 0), (0, 0, 0, 1)], [(some (0, 0, 0, 1), [])], [(5, 4, 0), (7, 3, 0), (7, 5, 0), (7, 2, 0), (7, 4, 0), (35, 1001, 0), (8, 7, 0), (30, 1001, 0), (31, 1001, 0), (32, 1001, 0), (33, 1001, 0), (34, 1001, 0), (8, 6, 0), (5, 2, 0), (5, 3, 0)], (50, 1147, 0, 0))
theorem zX_rdo {l : Launch} {w : zk_W} (hW : zh_W w) (t x b cd : Nat) (B : Nat → Int) (ln : Nat) (bb : Nat → Nat) : zk_metX l w zt_dv zt_TB zK_rdo (zp_A (zφ_rdo t x b cd B ln bb)) (zp_B (zψ_rdo t x b cd B ln bb)) ∧ zk_cok w zt_TB zK_rdo := by
  refine zp_methX (cn := "WoundTown$Reader") zp_lkallRd hW (pl := 708) rfl (by decide +kernel) (fun p e R s m args below meth c Q u hx hb hE hQ hU5 heff hnL hok hφ => ?_)
  have hw := hW.1
  obtain ⟨p0, p1, hps, k0, k1⟩ := zp_ps2 hok
  obtain ⟨a, rfl, hp⟩ := zp_this k0
  have hrm : zk_Kr (zk_ev (zt_types, zp_lkRd, zt_dv, [], [], zp_lcRd, zK_rdo)) = zk_Kr zK_rdo := rfl
  rw [hps] at hφ ⊢
  show zp_J p l e R s m args below meth c Q w u [] 0 [(0, 2, (a : Int)), (1, 0, p1)] [] u.1 (zp_n u.2.1)
  have hφ : zTa u.1 a t x b cd (zp_n u.2.1) ∧ ((zp_n u.2.1 t 0 = (b : Int) ∧ zp_n u.2.1 t 1 = (ln : Int) ∧ ln ≤ 400 ∧ ∀ j, zp_n u.2.1 b (2000 + j) = B j) ∧ ∀ j, j < ln → 0 ≤ B j ∧ B j ≤ 255) ∧ (∀ i : Nat, i < 5 → zp_n u.2.1 x i = (bb i : Int) ∧ u.1 (bb i) = some (30 + i)) ∧ p1 = 1 := hφ
  obtain ⟨⟨⟨pa, pt, px, pb, pc⟩, ga0, ga1, gx5⟩, ⟨⟨gt0, gt1, hln, hBB⟩, hB255⟩, hbb, hp1⟩ := hφ
  subst hp1
  have nta : t ≠ a := zp_pne pt pa (by decide)
  have nxa : x ≠ a := zp_pne px pa (by decide)
  have nba : b ≠ a := zp_pne pb pa (by decide)
  have nca : cd ≠ a := zp_pne pc pa (by decide)
  have loop : ∀ (n9 k tk nl : Nat) (C : Nat → Int) (sz : Nat) (G : Nat → Nat → Int) (M : List yK), 12 - k < n9 → k ≤ 12 → zT u.1 a t x b cd G B ln tk nl C sz true → zU u.1 x G bb k → sz + (72 - 6 * k) ≤ 2 * zy_fr B ln tk + 72 → M.length = k → zXs (fun i j => G (bb i) (2000 + j)) C sz true 0 M → G a 2 = -1 → (∀ s, yT (zy_so B ln) (zy_wo B ln) (zy_to B ln) (yt_co (zy_so B ln) (zy_wo B ln) (zy_to B ln) (ylf true B ln)) (12 - k) tk nl s → yT (zy_so B ln) (zy_wo B ln) (zy_to B ln) (yt_co (zy_so B ln) (zy_wo B ln) (zy_to B ln) (ylf true B ln)) 12 0 0 (yTg M s)) → zp_J p l e R s m args below meth c Q w u [] 31 [(2, 0, (k : Int)), (0, 2, (a : Int)), (1, 0, 1)] [] u.1 G := by
    intro n9
    induction n9 with
    | zero => intro k tk nl C sz G M h; exact absurd h (Nat.not_lt_zero _)
    | succ n9 ih =>
      intro k tk nl C sz G M hn hk hT0 hU0 hu hM hX0s hg2 hgo
      have hT0 : zT u.1 a t x b cd G B ln tk nl C sz true := hT0
      have hX0 := hT0
      obtain ⟨⟨-, ga00, ga10, gx50⟩, hTt0, ⟨ga30, ga40, hnl0⟩, gx70, hsz0, hC0⟩ := hX0
      have hf0 := zTt_f hTt0
      refine zp_load (pc := 31) hx hb (zd_X5_read (31, .iload_n 2, 1, 0, []) (List.mem_of_getElem? (i := 17) rfl)) rfl (j := 0) rfl ?_
      refine zp_const (pc := 32) hx hb (zd_X5_read (32, .bipush 12, 2, 0, []) (List.mem_of_getElem? (i := 18) rfl)) rfl rfl ?_
      refine zp_icmp (pc := 34) (tgt := 111) hx hb (zd_X5_read (34, .if_icmp .ge 77, 3, 0, []) (List.mem_of_getElem? (i := 19) rfl)) rfl (fun (hc106 : 12 ≤ (k : Int)) => ?_) (fun (hc106 : ¬ (12 ≤ (k : Int))) => ?_)
      · refine zp_load (pc := 111) hx hb (zd_X5_read (111, .aload_n 0, 1, 0, []) (List.mem_of_getElem? (i := 55) rfl)) rfl (j := 1) rfl ?_
        refine zp_load (pc := 112) hx hb (zd_X5_read (112, .aload_n 0, 1, 0, []) (List.mem_of_getElem? (i := 56) rfl)) rfl (j := 1) rfl ?_
        refine zp_getf (n := (t : Int)) (pc := 113) hx hb hE hw (zd_X5_read (113, .getfield 24, 3, 0, []) (List.mem_of_getElem? (i := 57) rfl)) (j := 9) rfl rfl rfl hp ga00 ?_
        refine zp_getf (n := (zy_fr B ln tk : Int)) (pc := 116) hx hb hE hw (zd_X5_read (116, .getfield 57, 3, 0, []) (List.mem_of_getElem? (i := 58) rfl)) (j := 1) rfl rfl rfl pt hTt0.2.2.2.2.1 ?_
        refine zp_putf (pc := 119) hx hb hE hw heff (zd_X5_read (119, .putfield 20, 3, 0, []) (List.mem_of_getElem? (i := 59) rfl)) (j := 11) rfl rfl rfl hp (zp_o0 (by omega) (by omega) (by omega) (by omega)) ?_
        refine zp_const (pc := 122) hx hb (zd_X5_read (122, .iconst 0, 1, 0, []) (List.mem_of_getElem? (i := 60) rfl)) rfl rfl ?_
        refine zp_zret (pc := 123) (n := 0) hx hb hE hQ hU5 rfl (by decide) (zd_X5_read (123, .ireturn, 1, 0, []) (List.mem_of_getElem? (i := 61) rfl)) (j := 0) rfl (zp_o0 (by omega) (by omega) (by omega) (by omega)) ?_
        rw [hps]
        have hk12 : k = 12 := by omega
        have h9 := hgo (Sum.inl tk) (by rw [show 12 - k = 0 by omega]; rfl)
        exact ⟨rfl, Sum.inl tk, h9, Or.inl ⟨_, rfl, rfl, zp_set_self⟩⟩
      · refine zp_load (pc := 37) hx hb (zd_X5_read (37, .iload_n 1, 1, 0, []) (List.mem_of_getElem? (i := 20) rfl)) rfl (j := 2) rfl ?_
        refine zp_if (pc := 38) (tgt := 48) hx hb (zd_X5_read (38, .ifCond .eq 10, 3, 0, []) (List.mem_of_getElem? (i := 21) rfl)) rfl (fun (hc107 : 1 = 0) => ?_) (fun (hc107 : ¬ (1 = 0)) => ?_)
        · exfalso
          omega
        · refine zp_load (pc := 41) hx hb (zd_X5_read (41, .aload_n 0, 1, 0, []) (List.mem_of_getElem? (i := 22) rfl)) rfl (j := 1) rfl ?_
          obtain ⟨r9, hr9⟩ : ∃ r9, 12 - k = r9 + 1 := ⟨11 - k, by omega⟩
          have hr8 : r9 = 12 - (k + 1) := by omega
          refine zp_call (pc := 42) (how := 0) (idx := 43) (mi := 45) (S := []) hx hb hE hw heff hrm (zX_ocl hW t x b cd B ln tk nl C sz (72 - 6 * (k + 1)) true bb k) rfl (j := 3) rfl rfl (by decide +kernel) (zd_X5_read (42, .invokevirtual 43, 3, 0, []) (List.mem_of_getElem? (i := 23) rfl)) [(a : Int)] rfl ⟨zp_o2 hp, trivial⟩ (Nat.le_of_ble_eq_true rfl) ⟨hT0, hU0, by omega, by omega⟩ (fun al hal rnc Pc Gc hextc hfrc hokc hcsc hpsic => ?_)
          obtain rfl := List.mem_singleton.mp hal
          have hrc := zp_int (hokc _ rfl).1
          obtain ⟨rfl, sc, hsc, htc⟩ := hpsic
          have hg2c : Gc a 2 = -1 := (zp_nf hfrc hp rfl).trans hg2
          rcases htc with ⟨qc, rfl, hzc, nlc, Cc, szc, hTc⟩ | ⟨p2, n2, K9, Cc, szc, rfl, hzc, hTTc, hUc, huc, hfc9, hszc9, hCc9, hoc, hXc⟩
          · subst hzc
            have hTf : zT u.1 a t x b cd Gc B ln qc nlc Cc szc true := hTc
            have hXf := hTf
            obtain ⟨⟨-, ga0f, ga1f, gx5f⟩, hTtf, ⟨ga3f, ga4f, hnlf⟩, gx7f, hszf, hCf⟩ := hXf
            have hff := zTt_f hTtf
            refine zp_goto (tgt := 52) (pc := 45) hx hb (zd_X5_read (45, .goto 7, 3, 0, []) (List.mem_of_getElem? (i := 24) rfl)) rfl ?_
            refine zp_store (L' := [(3, 0, 0), (2, 0, (k : Int)), (0, 2, (a : Int)), (1, 0, 1)]) (pc := 52) hx hb hnL (zd_X5_read (52, .istore_n 3, 1, 0, []) (List.mem_of_getElem? (i := 27) rfl)) rfl rfl rfl ?_
            refine zp_load (pc := 53) hx hb (zd_X5_read (53, .iload_n 3, 1, 0, []) (List.mem_of_getElem? (i := 28) rfl)) rfl (j := 0) rfl ?_
            refine zp_if (pc := 54) (tgt := 69) hx hb (zd_X5_read (54, .ifCond .eq 15, 3, 0, []) (List.mem_of_getElem? (i := 29) rfl)) rfl (fun (hc108 : 0 = 0) => ?_) (fun (hc108 : ¬ (0 = 0)) => ?_)
            · refine zp_load (pc := 69) hx hb (zd_X5_read (69, .iload_n 3, 1, 0, []) (List.mem_of_getElem? (i := 36) rfl)) rfl (j := 0) rfl ?_
              refine zp_if (pc := 70) (tgt := 85) hx hb (zd_X5_read (70, .ifCond .eq 15, 3, 0, []) (List.mem_of_getElem? (i := 37) rfl)) rfl (fun (hc109 : 0 = 0) => ?_) (fun (hc109 : ¬ (0 = 0)) => ?_)
              · refine zp_load (pc := 85) hx hb (zd_X5_read (85, .aload_n 0, 1, 0, []) (List.mem_of_getElem? (i := 43) rfl)) rfl (j := 2) rfl ?_
                refine zp_load (pc := 86) hx hb (zd_X5_read (86, .aload_n 0, 1, 0, []) (List.mem_of_getElem? (i := 44) rfl)) rfl (j := 2) rfl ?_
                refine zp_getf (n := (t : Int)) (pc := 87) hx hb hE hw (zd_X5_read (87, .getfield 24, 3, 0, []) (List.mem_of_getElem? (i := 45) rfl)) (j := 9) rfl rfl rfl hp ga0f ?_
                refine zp_getf (n := (zy_fr B ln qc : Int)) (pc := 90) hx hb hE hw (zd_X5_read (90, .getfield 57, 3, 0, []) (List.mem_of_getElem? (i := 46) rfl)) (j := 1) rfl rfl rfl pt hTtf.2.2.2.2.1 ?_
                refine zp_putf (pc := 93) hx hb hE hw heff (zd_X5_read (93, .putfield 20, 3, 0, []) (List.mem_of_getElem? (i := 47) rfl)) (j := 11) rfl rfl rfl hp (zp_o0 (by omega) (by omega) (by omega) (by omega)) ?_
                refine zp_const (pc := 96) hx hb (zd_X5_read (96, .iconst 0, 1, 0, []) (List.mem_of_getElem? (i := 48) rfl)) rfl rfl ?_
                refine zp_zret (pc := 97) (n := 0) hx hb hE hQ hU5 rfl (by decide) (zd_X5_read (97, .ireturn, 1, 0, []) (List.mem_of_getElem? (i := 49) rfl)) (j := 0) rfl (zp_o0 (by omega) (by omega) (by omega) (by omega)) ?_
                rw [hps]
                have h9 := hgo (Sum.inl qc) (by rw [hr9]; exact ⟨_, hsc, Or.inl ⟨_, rfl, rfl⟩⟩)
                exact ⟨rfl, Sum.inl qc, h9, Or.inl ⟨_, rfl, rfl, zp_set_self⟩⟩
              · exfalso
                omega
            · exfalso
              omega
          · subst hzc
            replace hXc : zHid _ := hXc
            have hTf : zT u.1 a t x b cd Gc B ln p2 n2 Cc szc true := hTTc
            have hXf := hTf
            obtain ⟨⟨-, ga0f, ga1f, gx5f⟩, hTtf, ⟨ga3f, ga4f, hnlf⟩, gx7f, hszf, hCf⟩ := hXf
            have hff := zTt_f hTtf
            obtain ⟨so, hso⟩ : ∃ y : Nat, y = zy_so B ln p2 := ⟨_, rfl⟩
            have hXs : zXs (fun i j => Gc (bb i) (2000 + j)) Cc szc true 0 (M ++ [K9]) := zXs_app (zXs_c hszc9 hCc9 hX0s (fun i j hi _ j2 => hoc i j hi (by omega))) (by rw [Nat.zero_add, hM]; exact hXc)
            have hML : (M ++ [K9]).length = k + 1 := by rw [List.length_append, hM]; rfl
            refine zp_goto (tgt := 52) (pc := 45) hx hb (zd_X5_read (45, .goto 7, 3, 0, []) (List.mem_of_getElem? (i := 24) rfl)) rfl ?_
            refine zp_store (L' := [(3, 0, 1), (2, 0, (k : Int)), (0, 2, (a : Int)), (1, 0, 1)]) (pc := 52) hx hb hnL (zd_X5_read (52, .istore_n 3, 1, 0, []) (List.mem_of_getElem? (i := 27) rfl)) rfl rfl rfl ?_
            refine zp_load (pc := 53) hx hb (zd_X5_read (53, .iload_n 3, 1, 0, []) (List.mem_of_getElem? (i := 28) rfl)) rfl (j := 0) rfl ?_
            refine zp_if (pc := 54) (tgt := 69) hx hb (zd_X5_read (54, .ifCond .eq 15, 3, 0, []) (List.mem_of_getElem? (i := 29) rfl)) rfl (fun (hc110 : 1 = 0) => ?_) (fun (hc110 : ¬ (1 = 0)) => ?_)
            · exfalso
              omega
            · refine zp_load (pc := 57) hx hb (zd_X5_read (57, .aload_n 0, 1, 0, []) (List.mem_of_getElem? (i := 30) rfl)) rfl (j := 2) rfl ?_
              refine zp_getf (n := (t : Int)) (pc := 58) hx hb hE hw (zd_X5_read (58, .getfield 24, 3, 0, []) (List.mem_of_getElem? (i := 31) rfl)) (j := 9) rfl rfl rfl hp ga0f ?_
              refine zp_getf (n := (so : Int)) (pc := 61) hx hb hE hw (zd_X5_read (61, .getfield 50, 3, 0, []) (List.mem_of_getElem? (i := 32) rfl)) (j := 0) rfl rfl rfl pt (hTtf.2.2.2.1.trans (by rw [hso])) ?_
              refine zp_if (pc := 64) (tgt := 69) hx hb (zd_X5_read (64, .ifCond .ne 5, 3, 0, []) (List.mem_of_getElem? (i := 33) rfl)) rfl (fun (hc111 : ¬ (so : Int) = 0) => ?_) (fun (hc111 : ¬ (¬ (so : Int) = 0)) => ?_)
              · refine zp_load (pc := 69) hx hb (zd_X5_read (69, .iload_n 3, 1, 0, []) (List.mem_of_getElem? (i := 36) rfl)) rfl (j := 0) rfl ?_
                refine zp_if (pc := 70) (tgt := 85) hx hb (zd_X5_read (70, .ifCond .eq 15, 3, 0, []) (List.mem_of_getElem? (i := 37) rfl)) rfl (fun (hc112 : 1 = 0) => ?_) (fun (hc112 : ¬ (1 = 0)) => ?_)
                · exfalso
                  omega
                · refine zp_load (pc := 73) hx hb (zd_X5_read (73, .aload_n 0, 1, 0, []) (List.mem_of_getElem? (i := 38) rfl)) rfl (j := 2) rfl ?_
                  refine zp_getf (n := (t : Int)) (pc := 74) hx hb hE hw (zd_X5_read (74, .getfield 24, 3, 0, []) (List.mem_of_getElem? (i := 39) rfl)) (j := 9) rfl rfl rfl hp ga0f ?_
                  refine zp_const (pc := 77) hx hb (zd_X5_read (77, .bipush 59, 2, 0, []) (List.mem_of_getElem? (i := 40) rfl)) rfl rfl ?_
                  refine zp_call (pc := 79) (how := 0) (idx := 53) (mi := 64) (S := []) hx hb hE hw heff hrm (zX_csi hW) rfl (j := 12) rfl rfl (by decide +kernel) (zd_X5_read (79, .invokevirtual 53, 3, 0, []) (List.mem_of_getElem? (i := 41) rfl)) [(t : Int), 59] rfl ⟨zp_o2 pt, zp_o0 (by decide) (by decide) (by decide) (by decide), trivial⟩ (Nat.le_of_ble_eq_true rfl) trivial (fun al hal rng113 Pg113 Gg113 hextg113 hfrg113 hokg113 hcsg113 hpsig113 => ?_)
                  obtain rfl := List.mem_singleton.mp hal
                  have hrg113 := zp_int (hokg113 _ rfl).1
                  obtain ⟨hPeg113, hGeg113, htg113⟩ := hpsig113
                  rw [hPeg113, hGeg113]
                  have hsg113 := zT_sg hTtf (ch := 59) (by decide) htg113
                  by_cases hkg113 : yr_s (zy_so B ln) (zy_wo B ln) 59 p2 = true
                  · obtain rfl : rng113 = 1 := hsg113.mpr hkg113
                    refine zp_if (pc := 82) (tgt := 98) hx hb (zd_X5_read (82, .ifCond .ne 16, 3, 0, []) (List.mem_of_getElem? (i := 42) rfl)) rfl (fun (hc114 : ¬ 1 = 0) => ?_) (fun (hc114 : ¬ (¬ 1 = 0)) => ?_)
                    · refine zp_load (pc := 98) hx hb (zd_X5_read (98, .aload_n 0, 1, 0, []) (List.mem_of_getElem? (i := 50) rfl)) rfl (j := 2) rfl ?_
                      refine zp_getf (n := (t : Int)) (pc := 99) hx hb hE hw (zd_X5_read (99, .getfield 24, 3, 0, []) (List.mem_of_getElem? (i := 51) rfl)) (j := 9) rfl rfl rfl hp ga0f ?_
                      refine zp_call (pc := 102) (how := 0) (idx := 60) (mi := 43) (S := []) hx hb hE hw heff hrm (zX_cnx hW) rfl (j := 6) rfl rfl (by decide +kernel) (zd_X5_read (102, .invokevirtual 60, 3, 0, []) (List.mem_of_getElem? (i := 52) rfl)) [(t : Int)] rfl ⟨zp_o2 pt, trivial⟩ (Nat.le_of_ble_eq_true rfl) (zTt_q hTtf) (fun al hal rnn115 Pn115 Gn115 hextn115 hfrn115 hokn115 hcsn115 hpsin115 => ?_)
                      obtain rfl := List.mem_singleton.mp hal
                      obtain ⟨rfl, htn115⟩ := hpsin115
                      have hgon115 := zTt_go hTtf
                      have hTn115 : zT u.1 a t x b cd Gn115 B ln (zy_to B ln p2) n2 Cc szc true := zT_nx hTf hfrn115 htn115
                      have hXn115 := hTn115
                      obtain ⟨⟨-, ga0n115, ga1n115, gx5n115⟩, hTtn115, ⟨ga3n115, ga4n115, hnln115⟩, gx7n115, hszn115, hCn115⟩ := hXn115
                      have hfn115 := zTt_f hTtn115
                      have hs9 := (zTt_go hTtf).1
                      have hUn115 : zU u.1 x Gn115 bb (k + 1) := zU_fr hUc px hfrn115 rfl ((zp_nf hfrn115 px rfl).trans hUc.1) (by omega)
                      have hg2n115 : Gn115 a 2 = -1 := (zp_nf hfrn115 hp rfl).trans hg2c
                      refine zp_iinc (L' := [(2, 0, ((k : Int) + 1)), (3, 0, 1), (0, 2, (a : Int)), (1, 0, 1)]) (n := ((k : Int) + 1)) (pc := 105) hx hb hnL (zd_X5_read (105, .iinc 2 1, 3, 0, []) (List.mem_of_getElem? (i := 53) rfl)) (j := 1) rfl (by omega) (zp_r0 (by omega) (by omega)) rfl rfl ?_
                      refine zp_goto (tgt := 31) (pc := 108) hx hb (zd_X5_read (108, .goto (-77), 3, 0, []) (List.mem_of_getElem? (i := 54) rfl)) rfl ?_
                      refine zp_drop (L' := [(2, 0, ((k + 1 : Nat) : Int)), (0, 2, (a : Int)), (1, 0, 1)]) (by simp <;> omega) ?_
                      refine ih (k + 1) (zy_to B ln p2) n2 Cc szc Gn115 (M ++ [K9]) (by omega) (by omega) hTn115 hUn115 (by omega) hML ?_ hg2n115 (fun s hs => ?_)
                      · refine zXs_c (Nat.le_refl _) (fun _ _ => rfl) hXs (fun i j hi _ _ => ?_)
                        have hi5 : i = 0 ∨ i = 1 ∨ i = 2 ∨ i = 3 ∨ i = 4 := by omega
                        rcases hi5 with rfl | rfl | rfl | rfl | rfl
                        · exact zU_nc hUc hfrn115 0 (by decide) rfl _
                        · exact zU_nc hUc hfrn115 1 (by decide) rfl _
                        · exact zU_nc hUc hfrn115 2 (by decide) rfl _
                        · exact zU_nc hUc hfrn115 3 (by decide) rfl _
                        · exact zU_nc hUc hfrn115 4 (by decide) rfl _
                      · have h9 := hgo (yTg [K9] s) (by rw [hr9]; exact yT_b hsc (by unfold yTb; rw [if_neg (by rw [(yr_s_i.mp hkg113).1]; decide), if_pos hkg113]; rw [hr8]; exact hs))
                        rw [yTg_g] at h9
                        exact h9
                    · exfalso
                      omega
                  · have zg113 : ¬ rng113 = 1 := fun z => hkg113 (hsg113.mp z)
                    obtain rfl : rng113 = 0 := by omega
                    refine zp_if (pc := 82) (tgt := 98) hx hb (zd_X5_read (82, .ifCond .ne 16, 3, 0, []) (List.mem_of_getElem? (i := 42) rfl)) rfl (fun (hc116 : ¬ 0 = 0) => ?_) (fun (hc116 : ¬ (¬ 0 = 0)) => ?_)
                    · exfalso
                      omega
                    · refine zp_load (pc := 85) hx hb (zd_X5_read (85, .aload_n 0, 1, 0, []) (List.mem_of_getElem? (i := 43) rfl)) rfl (j := 2) rfl ?_
                      refine zp_load (pc := 86) hx hb (zd_X5_read (86, .aload_n 0, 1, 0, []) (List.mem_of_getElem? (i := 44) rfl)) rfl (j := 2) rfl ?_
                      refine zp_getf (n := (t : Int)) (pc := 87) hx hb hE hw (zd_X5_read (87, .getfield 24, 3, 0, []) (List.mem_of_getElem? (i := 45) rfl)) (j := 9) rfl rfl rfl hp ga0f ?_
                      refine zp_getf (n := (zy_fr B ln p2 : Int)) (pc := 90) hx hb hE hw (zd_X5_read (90, .getfield 57, 3, 0, []) (List.mem_of_getElem? (i := 46) rfl)) (j := 1) rfl rfl rfl pt hTtf.2.2.2.2.1 ?_
                      refine zp_putf (pc := 93) hx hb hE hw heff (zd_X5_read (93, .putfield 20, 3, 0, []) (List.mem_of_getElem? (i := 47) rfl)) (j := 11) rfl rfl rfl hp (zp_o0 (by omega) (by omega) (by omega) (by omega)) ?_
                      refine zp_const (pc := 96) hx hb (zd_X5_read (96, .iconst 0, 1, 0, []) (List.mem_of_getElem? (i := 48) rfl)) rfl rfl ?_
                      refine zp_zret (pc := 97) (n := 0) hx hb hE hQ hU5 rfl (by decide) (zd_X5_read (97, .ireturn, 1, 0, []) (List.mem_of_getElem? (i := 49) rfl)) (j := 0) rfl (zp_o0 (by omega) (by omega) (by omega) (by omega)) ?_
                      rw [hps]
                      have h9 := hgo (yTg [K9] (Sum.inl p2)) (by rw [hr9]; exact yT_b hsc (by unfold yTb; rw [if_neg (by omega), if_neg hkg113]))
                      exact ⟨rfl, Sum.inl p2, h9, Or.inl ⟨_, rfl, rfl, zp_set_self⟩⟩
              · refine zp_const (pc := 67) hx hb (zd_X5_read (67, .iconst 1, 1, 0, []) (List.mem_of_getElem? (i := 34) rfl)) rfl rfl ?_
                refine zp_zret (pc := 68) (n := 1) hx hb hE hQ hU5 rfl (by decide) (zd_X5_read (68, .ireturn, 1, 0, []) (List.mem_of_getElem? (i := 35) rfl)) (j := 0) rfl (zp_o0 (by omega) (by omega) (by omega) (by omega)) ?_
                rw [hps]
                have h0 : zy_so B ln p2 = 0 := by omega
                have h9 := hgo (yTg [K9] (Sum.inr [])) (by rw [hr9]; exact yT_b hsc (by unfold yTb; rw [if_pos h0]))
                rw [yTg_g] at h9
                refine ⟨rfl, Sum.inr (M ++ [K9]), ?_, Or.inr ⟨M ++ [K9], Cc, szc, rfl, rfl, hg2c, ?_, by omega, hTTc.2.2.2.1, hTTc.2.2.2.2.1, hTTc.2.2.2.2.2, hXs⟩⟩
                · have e : yTg (M ++ [K9]) (Sum.inr []) = Sum.inr (M ++ [K9]) := by
                    show Sum.inr (M ++ [K9] ++ []) = _
                    rw [List.append_nil]
                  rw [e] at h9
                  exact h9
                · rw [hML]
                  exact hUc.1
  refine zp_load (pc := 0) hx hb (zd_X5_read (0, .aload_n 0, 1, 0, []) (List.mem_of_getElem? (i := 0) rfl)) rfl (j := 0) rfl ?_
  refine zp_load (pc := 1) hx hb (zd_X5_read (1, .iload_n 1, 1, 0, []) (List.mem_of_getElem? (i := 1) rfl)) rfl (j := 1) rfl ?_
  refine zp_putf (pc := 2) hx hb hE hw heff (zd_X5_read (2, .putfield 28, 3, 0, []) (List.mem_of_getElem? (i := 2) rfl)) (j := 12) rfl rfl rfl hp (zp_o0 (by decide) (by decide) (by decide) (by decide)) ?_
  refine zp_load (pc := 5) hx hb (zd_X5_read (5, .aload_n 0, 1, 0, []) (List.mem_of_getElem? (i := 3) rfl)) rfl (j := 0) rfl ?_
  refine zp_const (pc := 6) hx hb (zd_X5_read (6, .iconst 0, 1, 0, []) (List.mem_of_getElem? (i := 4) rfl)) rfl rfl ?_
  refine zp_putf (pc := 7) hx hb hE hw heff (zd_X5_read (7, .putfield 32, 3, 0, []) (List.mem_of_getElem? (i := 5) rfl)) (j := 13) rfl rfl rfl hp (zp_o0 (by decide) (by decide) (by decide) (by decide)) ?_
  refine zp_load (pc := 10) hx hb (zd_X5_read (10, .aload_n 0, 1, 0, []) (List.mem_of_getElem? (i := 6) rfl)) rfl (j := 0) rfl ?_
  refine zp_getf (n := (x : Int)) (pc := 11) hx hb hE hw (zd_X5_read (11, .getfield 16, 3, 0, []) (List.mem_of_getElem? (i := 7) rfl)) (j := 10) rfl rfl rfl hp ((zp_set_ne (Or.inr (by decide))).trans ((zp_set_ne (Or.inr (by decide))).trans (ga1))) ?_
  refine zp_call (pc := 14) (how := 0) (idx := 35) (mi := 41) (S := []) hx hb hE hw heff hrm (zX_vcl hW) rfl (j := 1) rfl rfl (by decide +kernel) (zd_X5_read (14, .invokevirtual 35, 3, 0, []) (List.mem_of_getElem? (i := 8) rfl)) [(x : Int)] rfl ⟨zp_o2 px, trivial⟩ (Nat.le_of_ble_eq_true rfl) trivial (fun al hal rnk Pk Gk hextk hfrk hokk hcsk hpsik => ?_)
  obtain rfl := List.mem_singleton.mp hal
  obtain ⟨rfl, hk6, hk7⟩ := hpsik
  have ka0 : Gk a 0 = (t : Int) := (zp_nf hfrk hp rfl).trans ((zp_set_ne (Or.inr (by decide))).trans ((zp_set_ne (Or.inr (by decide))).trans (ga0)))
  have ka1 : Gk a 1 = (x : Int) := (zp_nf hfrk hp rfl).trans ((zp_set_ne (Or.inr (by decide))).trans ((zp_set_ne (Or.inr (by decide))).trans (ga1)))
  have ka3 : Gk a 3 = 1 := (zp_nf hfrk hp rfl).trans ((zp_set_ne (Or.inr (by decide))).trans zp_set_self)
  have ka4 : Gk a 4 = 0 := (zp_nf hfrk hp rfl).trans zp_set_self
  have kt0 : Gk t 0 = (b : Int) := (zp_nf hfrk pt rfl).trans ((zp_set_ne (Or.inl nta)).trans ((zp_set_ne (Or.inl nta)).trans (gt0)))
  have kt1 : Gk t 1 = (ln : Int) := (zp_nf hfrk pt rfl).trans ((zp_set_ne (Or.inl nta)).trans ((zp_set_ne (Or.inl nta)).trans (gt1)))
  have kb : ∀ j, Gk b (2000 + j) = B j := fun j => (zp_nc hfrk pb rfl _).trans ((zp_set_ne (Or.inl nba)).trans ((zp_set_ne (Or.inl nba)).trans ((hBB j))))
  have kx5 : Gk x 5 = (cd : Int) := (zp_nf hfrk px rfl).trans ((zp_set_ne (Or.inl nxa)).trans ((zp_set_ne (Or.inl nxa)).trans (gx5)))
  have kbb : ∀ i : Nat, i < 5 → Gk x i = (bb i : Int) ∧ u.1 (bb i) = some (30 + i) := by
    intro i hi
    refine ⟨?_, (hbb i hi).2⟩
    have hi5 : i = 0 ∨ i = 1 ∨ i = 2 ∨ i = 3 ∨ i = 4 := by omega
    rcases hi5 with rfl | rfl | rfl | rfl | rfl
    · exact (zp_nf hfrk px rfl).trans ((zp_set_ne (Or.inl nxa)).trans ((zp_set_ne (Or.inl nxa)).trans ((hbb 0 hi).1)))
    · exact (zp_nf hfrk px rfl).trans ((zp_set_ne (Or.inl nxa)).trans ((zp_set_ne (Or.inl nxa)).trans ((hbb 1 hi).1)))
    · exact (zp_nf hfrk px rfl).trans ((zp_set_ne (Or.inl nxa)).trans ((zp_set_ne (Or.inl nxa)).trans ((hbb 2 hi).1)))
    · exact (zp_nf hfrk px rfl).trans ((zp_set_ne (Or.inl nxa)).trans ((zp_set_ne (Or.inl nxa)).trans ((hbb 3 hi).1)))
    · exact (zp_nf hfrk px rfl).trans ((zp_set_ne (Or.inl nxa)).trans ((zp_set_ne (Or.inl nxa)).trans ((hbb 4 hi).1)))
  refine zp_load (pc := 17) hx hb (zd_X5_read (17, .aload_n 0, 1, 0, []) (List.mem_of_getElem? (i := 9) rfl)) rfl (j := 0) rfl ?_
  refine zp_getf (n := (t : Int)) (pc := 18) hx hb hE hw (zd_X5_read (18, .getfield 24, 3, 0, []) (List.mem_of_getElem? (i := 10) rfl)) (j := 9) rfl rfl rfl hp ka0 ?_
  refine zp_call (pc := 21) (how := 0) (idx := 38) (mi := 42) (S := []) hx hb hE hw heff hrm (zX_rew hW) rfl (j := 2) rfl rfl (by decide +kernel) (zd_X5_read (21, .invokevirtual 38, 3, 0, []) (List.mem_of_getElem? (i := 11) rfl)) [(t : Int)] rfl ⟨zp_o2 pt, trivial⟩ (Nat.le_of_ble_eq_true rfl) trivial (fun al hal rnr Pr Gr hextr hfrr hokr hcsr hpsir => ?_)
  obtain rfl := List.mem_singleton.mp hal
  obtain ⟨rfl, htr⟩ := hpsir
  have htr : zy_tc (fun j => Gk (Gk t 0).toNat (2000 + j)) (Gk t 1).toNat Gr t 0 := htr
  rw [kt0, kt1, Int.toNat_natCast, Int.toNat_natCast, show (fun j => Gk b (2000 + j)) = B from funext kb] at htr
  have hTr : zT u.1 a t x b cd Gr B ln 0 0 (fun j => Gr cd (2000 + j)) 0 true := ⟨⟨⟨hp, pt, px, pb, pc⟩, (zp_nf hfrr hp rfl).trans ka0, (zp_nf hfrr hp rfl).trans ka1, (zp_nf hfrr px rfl).trans kx5⟩, ⟨⟨(zp_nf hfrr pt rfl).trans kt0, (zp_nf hfrr pt rfl).trans kt1, hln, fun j => (zp_nc hfrr pb rfl _).trans (kb j)⟩, hB255, htr⟩, ⟨(zp_nf hfrr hp rfl).trans ka3, (zp_nf hfrr hp rfl).trans ka4, Nat.zero_le _⟩, (zp_nf hfrr px rfl).trans hk7, Nat.zero_le _, fun j => rfl⟩
  have hUr : zU u.1 x Gr bb 0 := ⟨(zp_nf hfrr px rfl).trans hk6, Nat.zero_le _, fun i hi => by
    refine ⟨?_, (hbb i hi).2⟩
    have hi5 : i = 0 ∨ i = 1 ∨ i = 2 ∨ i = 3 ∨ i = 4 := by omega
    rcases hi5 with rfl | rfl | rfl | rfl | rfl
    · exact (zp_nf hfrr px rfl).trans (kbb 0 hi).1
    · exact (zp_nf hfrr px rfl).trans (kbb 1 hi).1
    · exact (zp_nf hfrr px rfl).trans (kbb 2 hi).1
    · exact (zp_nf hfrr px rfl).trans (kbb 3 hi).1
    · exact (zp_nf hfrr px rfl).trans (kbb 4 hi).1⟩
  refine zp_load (pc := 24) hx hb (zd_X5_read (24, .aload_n 0, 1, 0, []) (List.mem_of_getElem? (i := 12) rfl)) rfl (j := 0) rfl ?_
  refine zp_const (pc := 25) hx hb (zd_X5_read (25, .iconst (-1), 1, 0, []) (List.mem_of_getElem? (i := 13) rfl)) rfl rfl ?_
  refine zp_putf (pc := 26) hx hb hE hw heff (zd_X5_read (26, .putfield 20, 3, 0, []) (List.mem_of_getElem? (i := 14) rfl)) (j := 11) rfl rfl rfl hp (zp_o0 (by decide) (by decide) (by decide) (by decide)) ?_
  refine zp_const (pc := 29) hx hb (zd_X5_read (29, .iconst 0, 1, 0, []) (List.mem_of_getElem? (i := 15) rfl)) rfl rfl ?_
  refine zp_store (L' := [(2, 0, 0), (0, 2, (a : Int)), (1, 0, 1)]) (pc := 30) hx hb hnL (zd_X5_read (30, .istore_n 2, 1, 0, []) (List.mem_of_getElem? (i := 16) rfl)) rfl rfl rfl ?_
  refine zp_drop (L' := [(2, 0, ((0 : Nat) : Int)), (0, 2, (a : Int)), (1, 0, 1)]) (by simp) ?_
  exact loop 13 0 0 0 _ 0 _ [] (by omega) (by omega) (zT_2 hTr) (zU_2 hUr px hp) (by omega) rfl trivial zp_set_self (fun s hs => by
    have e : yTg [] s = s := by
      cases s with
      | inl q => rfl
      | inr N => rfl
    rw [e]
    exact hs)
