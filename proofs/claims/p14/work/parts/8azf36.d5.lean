/-! part d5: the class's reader: a law's clause, the text -/
theorem zU_nc {P : Nat → Option Nat} {x : Nat} {G G0 G' : Nat → Nat → Int} {bb : Nat → Nat} {cl : Nat} {E : List (Nat × Nat × Nat)} {ps : List Int} (h : zU P x G0 bb cl) (hfr : zp_fr E ps P G G') (i : Nat) (hi : i < 5) (he : zp_ncb E (30 + i) = true) (j : Nat) : G' (bb i) j = G (bb i) j := zp_nc hfr (h.2.2 i hi).2 he j
theorem zT_2 {P : Nat → Option Nat} {a t x b c : Nat} {G : Nat → Nat → Int} {B : Nat → Int} {ln tk nl sz : Nat} {C : Nat → Int} {ord : Bool} {v : Int} (h : zT P a t x b c G B ln tk nl C sz ord) : zT P a t x b c (zp_set G a 2 v) B ln tk nl C sz ord := by
  obtain ⟨⟨⟨pa, pt, px, pb, pc⟩, g1, g2, g3⟩, ⟨⟨t1, t2, t3, t4⟩, t5, t6⟩, ⟨r1, r2, r3⟩, x1, x2, x3⟩ := h
  have nt : t ≠ a := zp_pne pt pa (by decide)
  have nx : x ≠ a := zp_pne px pa (by decide)
  have nb : b ≠ a := zp_pne pb pa (by decide)
  have nc : c ≠ a := zp_pne pc pa (by decide)
  exact ⟨⟨⟨pa, pt, px, pb, pc⟩, (zp_set_ne (Or.inr (by decide))).trans g1, (zp_set_ne (Or.inr (by decide))).trans g2, (zp_set_ne (Or.inl nx)).trans g3⟩, ⟨⟨(zp_set_ne (Or.inl nt)).trans t1, (zp_set_ne (Or.inl nt)).trans t2, t3, fun j => (zp_set_ne (Or.inl nb)).trans (t4 j)⟩, t5, zy_tc_s t6 nt⟩, ⟨(zp_set_ne (Or.inr (by decide))).trans r1, (zp_set_ne (Or.inr (by decide))).trans r2, r3⟩, (zp_set_ne (Or.inl nx)).trans x1, x2, fun j => (zp_set_ne (Or.inl nc)).trans (x3 j)⟩
theorem zU_2 {P : Nat → Option Nat} {a x : Nat} {G : Nat → Nat → Int} {bb : Nat → Nat} {cl : Nat} {v : Int} (h : zU P x G bb cl) (px : P x = some 8) (pa : P a = some 5) : zU P x (zp_set G a 2 v) bb cl := by
  have nx : x ≠ a := zp_pne px pa (by decide)
  exact ⟨(zp_set_ne (Or.inl nx)).trans h.1, h.2.1, fun i hi => ⟨(zp_set_ne (Or.inl nx)).trans (h.2.2 i hi).1, (h.2.2 i hi).2⟩⟩
theorem yt_hl_r (so : Nat → Nat) (wo : Nat → Int) (p : Nat) : yt_hl so wo p = -1 ∨ (0 ≤ yt_hl so wo p ∧ yt_hl so wo p ≤ 4 ∧ so p = 1) := by
  rw [yt_hl_eq]
  by_cases h : so p = 1
  · rw [if_pos h]
    have := ych_r ywh 0 (wo p)
    have e : (ywh.length : Int) = 5 := rfl
    rcases this with z | z
    · exact Or.inl z
    · exact Or.inr ⟨by omega, by omega, h⟩
  · rw [if_neg h]
    exact Or.inl rfl
noncomputable def zφ_lcl (t x b cd : Nat) (B : Nat → Int) (ln tk nl : Nat) (C : Nat → Int) (sz uu : Nat) (ord : Bool) (bb : Nat → Nat) (cl : Nat) : (Nat → Option Nat) → (Nat → Nat → Int) → List Int → Prop := fun P G ps => zT P (zp_0 ps) t x b cd G B ln tk nl C sz ord ∧ zU P x G bb cl ∧ sz + (uu + 4) ≤ 2 * zy_fr B ln tk + 72 ∧ cl < 12
noncomputable def zψ_lcl (t x b cd : Nat) (B : Nat → Int) (ln tk nl : Nat) (C : Nat → Int) (sz uu : Nat) (ord : Bool) (bb : Nat → Nat) (cl : Nat) : (Nat → Option Nat) → (Nat → Nat → Int) → List Int → (Nat → Option Nat) → (Nat → Nat → Int) → Int → Prop := fun P G ps P' G' rn => P' = P ∧ ∃ s, yt_cl (zy_so B ln) (zy_wo B ln) (zy_to B ln) (ylf ord B ln) tk nl s ∧ ((∃ q, s = Sum.inl q ∧ rn = 0 ∧ ∃ (nl' : Nat) (C' : Nat → Int) (sz' : Nat), zT P (zp_0 ps) t x b cd G' B ln q nl' C' sz' ord) ∨ ∃ (p2 n2 : Nat) (K : yK) (C' : Nat → Int) (sz' : Nat), s = Sum.inr (p2, n2, K) ∧ rn = 1 ∧ zT P (zp_0 ps) t x b cd G' B ln p2 n2 C' sz' ord ∧ zU P x G' bb (cl + 1) ∧ sz' + uu ≤ 2 * zy_fr B ln p2 + 72 ∧ zy_fr B ln tk + 1 ≤ zy_fr B ln p2 ∧ sz ≤ sz' ∧ (∀ j, j < sz → C' j = C j) ∧ (∀ i j : Nat, i < 5 → j ≠ cl → G' (bb i) (2000 + j) = G (bb i) (2000 + j)) ∧ zXc (fun i j => G' (bb i) (2000 + j)) C' sz' ord cl K)
noncomputable def zK_lcl : zk_K := (zt_mn 77, prog_7_method_3_code, 2, (Option.some Jvm.ClassFile.FieldType.boolean), 1, 5, [(2, 5, 0, 0)], [(some (0, 0, 0, 1), [])], [(5, 4, 0), (7, 3, 0), (7, 5, 0), (7, 2, 0), (7, 4, 0), (35, 1001, 0), (8, 7, 0), (30, 1001, 0), (31, 1001, 0), (32, 1001, 0), (33, 1001, 0), (34, 1001, 0), (8, 6, 0)], (49, 1126, 0, 0))
theorem zX_lcl {l : Launch} {w : zk_W} (hW : zh_W w) (t x b cd : Nat) (B : Nat → Int) (ln tk nl : Nat) (C : Nat → Int) (sz uu : Nat) (ord : Bool) (bb : Nat → Nat) (cl : Nat) : zk_metX l w zt_dv zt_TB zK_lcl (zp_A (zφ_lcl t x b cd B ln tk nl C sz uu ord bb cl)) (zp_B (zψ_lcl t x b cd B ln tk nl C sz uu ord bb cl)) ∧ zk_cok w zt_TB zK_lcl := by
  refine zp_methX (cn := "WoundTown$Reader") zp_lkallRd hW (pl := 873) rfl (by decide +kernel) (fun p e R s m args below meth c Q u hx hb hE hQ hU5 heff hnL hok hφ => ?_)
  have hw := hW.1
  obtain ⟨p0, hps, k0⟩ := zp_ps1 hok
  obtain ⟨a, rfl, hp⟩ := zp_this k0
  have hrm : zk_Kr (zk_ev (zt_types, zp_lkRd, zt_dv, [], [], zp_lcRd, zK_lcl)) = zk_Kr zK_lcl := rfl
  rw [hps] at hφ ⊢
  show zp_J p l e R s m args below meth c Q w u [] 0 [(0, 2, (a : Int))] [] u.1 (zp_n u.2.1)
  have hφ : zT u.1 a t x b cd (zp_n u.2.1) B ln tk nl C sz ord ∧ zU u.1 x (zp_n u.2.1) bb cl ∧ sz + (uu + 4) ≤ 2 * zy_fr B ln tk + 72 ∧ cl < 12 := hφ
  obtain ⟨hT, hU0, hu, hcl⟩ := hφ
  have hX := hT
  obtain ⟨⟨⟨pa, pt, px, pb, pc⟩, -, -, -⟩, -⟩ := hX
  have hT0 : zT u.1 a t x b cd (zp_n u.2.1) B ln tk nl C sz ord := hT
  have hX0 := hT0
  obtain ⟨⟨-, ga00, ga10, gx50⟩, hTt0, ⟨ga30, ga40, hnl0⟩, gx70, hsz0, hC0⟩ := hX0
  have hf0 := zTt_f hTt0
  have hhr := yt_hl_r (zy_so B ln) (zy_wo B ln) tk
  have hg0 := zTt_go hTt0
  refine zp_load (pc := 0) hx hb (zd_X5_lawClause (0, .aload_n 0, 1, 0, []) (List.mem_of_getElem? (i := 0) rfl)) rfl (j := 0) rfl ?_
  refine zp_getf (n := (t : Int)) (pc := 1) hx hb hE hw (zd_X5_lawClause (1, .getfield 24, 3, 0, []) (List.mem_of_getElem? (i := 1) rfl)) (j := 9) rfl rfl rfl hp ga00 ?_
  refine zp_ldS (pc := 4) hx hb hE (zd_X5_lawClause (4, .ldc 63, 2, 0, []) (List.mem_of_getElem? (i := 2) rfl)) (j := 18) rfl (fun tx47 qtx47 => ?_)
  refine zp_call (pc := 6) (how := 0) (idx := 65) (mi := 46) (S := []) hx hb hE hw heff hrm (zX_vwlc hW b B ln tk) rfl (j := 4) rfl rfl (by decide +kernel) (zd_X5_lawClause (6, .invokevirtual 65, 3, 0, []) (List.mem_of_getElem? (i := 3) rfl)) [(t : Int), (tx47 : Int)] rfl ⟨zp_o2 pt, zp_o2 qtx47, trivial⟩ (Nat.le_of_ble_eq_true rfl) hTt0 (fun al hal rnv Pv Gv hextv hfrv hokv hcsv hpsiv => ?_)
  obtain rfl := List.mem_singleton.mp hal
  have hrv := zp_int (hokv _ rfl).1
  obtain ⟨hPev, hGev, htv⟩ := hpsiv
  rw [hPev, hGev]
  have hv9 : rnv = yt_hl (zy_so B ln) (zy_wo B ln) tk := (zv_lc hTt0 htv).trans yt_hl_eq.symm
  refine zp_store (L' := [(1, 0, rnv), (0, 2, (a : Int))]) (pc := 9) hx hb hnL (zd_X5_lawClause (9, .istore_n 1, 1, 0, []) (List.mem_of_getElem? (i := 4) rfl)) rfl rfl rfl ?_
  refine zp_load (pc := 10) hx hb (zd_X5_lawClause (10, .iload_n 1, 1, 0, []) (List.mem_of_getElem? (i := 5) rfl)) rfl (j := 0) rfl ?_
  refine zp_const (pc := 11) hx hb (zd_X5_lawClause (11, .iconst (-1), 1, 0, []) (List.mem_of_getElem? (i := 6) rfl)) rfl rfl ?_
  refine zp_icmp (pc := 12) (tgt := 26) hx hb (zd_X5_lawClause (12, .if_icmp .eq 14, 3, 0, []) (List.mem_of_getElem? (i := 7) rfl)) rfl (fun (hc48 : rnv = (-1)) => ?_) (fun (hc48 : ¬ (rnv = (-1))) => ?_)
  · refine zp_const (pc := 26) hx hb (zd_X5_lawClause (26, .iconst 0, 1, 0, []) (List.mem_of_getElem? (i := 13) rfl)) rfl rfl ?_
    refine zp_zret (pc := 27) (n := 0) hx hb hE hQ hU5 rfl (by decide) (zd_X5_lawClause (27, .ireturn, 1, 0, []) (List.mem_of_getElem? (i := 14) rfl)) (j := 0) rfl (zp_o0 (by omega) (by omega) (by omega) (by omega)) ?_
    rw [hps]
    refine ⟨rfl, Sum.inl tk, ?_, Or.inl ⟨_, rfl, rfl, _, _, _, hT0⟩⟩
    unfold yt_cl
    rw [if_pos (by omega)]
  · refine zp_load (pc := 15) hx hb (zd_X5_lawClause (15, .aload_n 0, 1, 0, []) (List.mem_of_getElem? (i := 8) rfl)) rfl (j := 1) rfl ?_
    refine zp_getf (n := (x : Int)) (pc := 16) hx hb hE hw (zd_X5_lawClause (16, .getfield 16, 3, 0, []) (List.mem_of_getElem? (i := 9) rfl)) (j := 10) rfl rfl rfl hp ga10 ?_
    refine zp_load (pc := 19) hx hb (zd_X5_lawClause (19, .iload_n 1, 1, 0, []) (List.mem_of_getElem? (i := 10) rfl)) rfl (j := 0) rfl ?_
    have hso1 : zy_so B ln tk = 1 := by
      rcases hhr with z | z
      · exfalso
        omega
      · exact z.2.2
    refine zp_call (pc := 20) (how := 0) (idx := 69) (mi := 58) (S := []) hx hb hE hw heff hrm (zX_vop hW bb cl) rfl (j := 5) rfl rfl (by decide +kernel) (zd_X5_lawClause (20, .invokevirtual 69, 3, 0, []) (List.mem_of_getElem? (i := 11) rfl)) [(x : Int), rnv] rfl ⟨zp_o2 px, zp_o0 (by omega) (by omega) (by omega) (by omega), trivial⟩ (Nat.le_of_ble_eq_true rfl) ⟨hU0.1, hcl, hU0.2.2⟩ (fun al hal rno Po Go hexto hfro hoko hcso hpsio => ?_)
    obtain rfl := List.mem_singleton.mp hal
    have hro := zp_int (hoko _ rfl).1
    obtain ⟨rfl, hvo, h6o, hoo, ho0, ho1, ho2, ho3, ho4⟩ := hpsio
    subst hvo
    have hTo : zT u.1 a t x b cd Go B ln tk nl C sz ord := zT_fr hT0 hfro rfl
    have hXo := hTo
    obtain ⟨⟨-, ga0o, ga1o, gx5o⟩, hTto, ⟨ga3o, ga4o, hnlo⟩, gx7o, hszo, hCo⟩ := hXo
    have hfo := zTt_f hTto
    have hUo : zU u.1 x Go bb (cl + 1) := zU_fr hU0 px hfro rfl h6o (by omega)
    refine zp_if (pc := 23) (tgt := 28) hx hb (zd_X5_lawClause (23, .ifCond .ne 5, 3, 0, []) (List.mem_of_getElem? (i := 12) rfl)) rfl (fun (hc49 : ¬ 1 = 0) => ?_) (fun (hc49 : ¬ (¬ 1 = 0)) => ?_)
    · refine zp_load (pc := 28) hx hb (zd_X5_lawClause (28, .aload_n 0, 1, 0, []) (List.mem_of_getElem? (i := 15) rfl)) rfl (j := 1) rfl ?_
      refine zp_getf (n := (t : Int)) (pc := 29) hx hb hE hw (zd_X5_lawClause (29, .getfield 24, 3, 0, []) (List.mem_of_getElem? (i := 16) rfl)) (j := 9) rfl rfl rfl hp ga0o ?_
      refine zp_call (pc := 32) (how := 0) (idx := 60) (mi := 43) (S := []) hx hb hE hw heff hrm (zX_cnx hW) rfl (j := 6) rfl rfl (by decide +kernel) (zd_X5_lawClause (32, .invokevirtual 60, 3, 0, []) (List.mem_of_getElem? (i := 17) rfl)) [(t : Int)] rfl ⟨zp_o2 pt, trivial⟩ (Nat.le_of_ble_eq_true rfl) (zTt_q hTto) (fun al hal rnn50 Pn50 Gn50 hextn50 hfrn50 hokn50 hcsn50 hpsin50 => ?_)
      obtain rfl := List.mem_singleton.mp hal
      obtain ⟨rfl, htn50⟩ := hpsin50
      have hgon50 := zTt_go hTto
      have hTn50 : zT u.1 a t x b cd Gn50 B ln (zy_to B ln tk) nl C sz ord := zT_nx hTo hfrn50 htn50
      have hXn50 := hTn50
      obtain ⟨⟨-, ga0n50, ga1n50, gx5n50⟩, hTtn50, ⟨ga3n50, ga4n50, hnln50⟩, gx7n50, hszn50, hCn50⟩ := hXn50
      have hfn50 := zTt_f hTtn50
      have hUn50 : zU u.1 x Gn50 bb (cl + 1) := zU_fr hUo px hfrn50 rfl ((zp_nf hfrn50 px rfl).trans hUo.1) (by omega)
      have hs9 := hg0.2.1 (by rw [hso1]; decide)
      refine zp_load (pc := 35) hx hb (zd_X5_lawClause (35, .iload_n 1, 1, 0, []) (List.mem_of_getElem? (i := 18) rfl)) rfl (j := 0) rfl ?_
      refine zp_const (pc := 36) hx hb (zd_X5_lawClause (36, .iconst 4, 1, 0, []) (List.mem_of_getElem? (i := 19) rfl)) rfl rfl ?_
      refine zp_icmp (pc := 37) (tgt := 54) hx hb (zd_X5_lawClause (37, .if_icmp .eq 17, 3, 0, []) (List.mem_of_getElem? (i := 20) rfl)) rfl (fun (hc51 : rnv = 4) => ?_) (fun (hc51 : ¬ (rnv = 4)) => ?_)
      · refine zp_load (pc := 54) hx hb (zd_X5_lawClause (54, .aload_n 0, 1, 0, []) (List.mem_of_getElem? (i := 27) rfl)) rfl (j := 1) rfl ?_
        have h44 : yt_hl (zy_so B ln) (zy_wo B ln) tk = 4 := by omega
        refine zp_call (pc := 55) (how := 0) (idx := 83) (mi := 70) (S := []) hx hb hE hw heff hrm (zX_cnd hW t x b cd B ln (zy_to B ln tk) nl C sz uu ord bb cl) rfl (j := 18) rfl rfl (by decide +kernel) (zd_X5_lawClause (55, .invokevirtual 83, 3, 0, []) (List.mem_of_getElem? (i := 28) rfl)) [(a : Int)] rfl ⟨zp_o2 hp, trivial⟩ (Nat.le_of_ble_eq_true rfl) ⟨hTn50, hUn50, by omega⟩ (fun al hal rnc Pc Gc hextc hfrc hokc hcsc hpsic => ?_)
        obtain rfl := List.mem_singleton.mp hal
        have hrc := zp_int (hokc _ rfl).1
        obtain ⟨rfl, sc, hsc, htc⟩ := hpsic
        rcases htc with ⟨qc, rfl, hzc, nlc, Cc, szc, hTc⟩ | ⟨pc2, nc, oy, Cc, szc, rfl, hzc, hTTc, hUc, huc, hfc9, hszc9, hCc9, hoc, hXc⟩
        · subst hzc
          refine zp_if (pc := 58) (tgt := 65) hx hb (zd_X5_lawClause (58, .ifCond .eq 7, 3, 0, []) (List.mem_of_getElem? (i := 29) rfl)) rfl (fun (hc52 : 0 = 0) => ?_) (fun (hc52 : ¬ (0 = 0)) => ?_)
          · refine zp_const (pc := 65) hx hb (zd_X5_lawClause (65, .iconst 0, 1, 0, []) (List.mem_of_getElem? (i := 32) rfl)) rfl rfl ?_
            refine zp_zret (pc := 66) (n := 0) hx hb hE hQ hU5 rfl (by decide) (zd_X5_lawClause (66, .ireturn, 1, 0, []) (List.mem_of_getElem? (i := 33) rfl)) (j := 0) rfl (zp_o0 (by omega) (by omega) (by omega) (by omega)) ?_
            rw [hps]
            refine ⟨rfl, Sum.inl qc, ?_, Or.inl ⟨_, rfl, rfl, _, _, _, hTc⟩⟩
            unfold yt_cl
            rw [if_neg (by omega)]
            exact ⟨Sum.inr (zy_to B ln tk, nl, none), by rw [if_pos h44], Or.inr ⟨_, _, _, rfl, Sum.inl qc, hsc, Or.inl ⟨_, rfl, rfl⟩⟩⟩
          · exfalso
            omega
        · subst hzc
          replace hXc : zHid _ := hXc
          have hTcz : zT u.1 a t x b cd Gc B ln pc2 nc Cc szc ord := hTTc
          have hXcz := hTcz
          obtain ⟨⟨-, ga0cz, ga1cz, gx5cz⟩, hTtcz, ⟨ga3cz, ga4cz, hnlcz⟩, gx7cz, hszcz, hCcz⟩ := hXcz
          have hfcz := zTt_f hTtcz
          refine zp_if (pc := 58) (tgt := 65) hx hb (zd_X5_lawClause (58, .ifCond .eq 7, 3, 0, []) (List.mem_of_getElem? (i := 29) rfl)) rfl (fun (hc53 : 1 = 0) => ?_) (fun (hc53 : ¬ (1 = 0)) => ?_)
          · exfalso
            omega
          · refine zp_const (pc := 61) hx hb (zd_X5_lawClause (61, .iconst 1, 1, 0, []) (List.mem_of_getElem? (i := 30) rfl)) rfl rfl ?_
            refine zp_goto (tgt := 66) (pc := 62) hx hb (zd_X5_lawClause (62, .goto 4, 3, 0, []) (List.mem_of_getElem? (i := 31) rfl)) rfl ?_
            refine zp_zret (pc := 66) (n := 1) hx hb hE hQ hU5 rfl (by decide) (zd_X5_lawClause (66, .ireturn, 1, 0, []) (List.mem_of_getElem? (i := 33) rfl)) (j := 0) rfl (zp_o0 (by omega) (by omega) (by omega) (by omega)) ?_
            rw [hps]
            have hA : ∀ i j : Nat, i < 5 → i ≠ 1 → i ≠ 4 → Gc (bb i) (2000 + j) = Go (bb i) (2000 + j) := by
              intro i j hi h1 h4
              have hi3 : i = 0 ∨ i = 2 ∨ i = 3 := by omega
              rcases hi3 with rfl | rfl | rfl
              · exact (zU_nc hUo hfrc 0 (by decide) rfl _).trans ((zU_nc hUo hfrn50 0 (by decide) rfl _))
              · exact (zU_nc hUo hfrc 2 (by decide) rfl _).trans ((zU_nc hUo hfrn50 2 (by decide) rfl _))
              · exact (zU_nc hUo hfrc 3 (by decide) rfl _).trans ((zU_nc hUo hfrn50 3 (by decide) rfl _))
            have hB1 : ∀ j : Nat, Gc (bb 1) (2000 + j) = Go (bb 1) (2000 + j) := fun j => (zU_nc hUo hfrc 1 (by decide) rfl _).trans (zU_nc hUo hfrn50 1 (by decide) rfl _)
            have hD : ∀ j : Nat, Gn50 (bb 4) (2000 + j) = Go (bb 4) (2000 + j) := fun j => zU_nc hUo hfrn50 4 (by decide) rfl _
            refine ⟨rfl, Sum.inr (pc2, nc, (yt_hl (zy_so B ln) (zy_wo B ln) tk, none, none, 1, oy)), ?_, Or.inr ⟨pc2, nc, _, Cc, szc, rfl, rfl, hTTc, hUc, by omega, by omega, by omega, fun j hj => ?_, fun i j hi hj => ?_, ?_⟩⟩
            · unfold yt_cl
              rw [if_neg (by omega)]
              exact ⟨Sum.inr (zy_to B ln tk, nl, none), by rw [if_pos h44], Or.inr ⟨_, _, _, rfl, _, hsc, Or.inr ⟨_, _, _, rfl, rfl⟩⟩⟩
            · exact hCc9 j hj
            · by_cases h1 : i = 1
              · subst h1
                rw [hB1 j]
                exact hoo 1 j (by decide) hj
              · by_cases h4 : i = 4
                · subst h4
                  exact (hoc j hj).trans ((hD j).trans (hoo 4 j (by decide) hj))
                · exact (hA i j hi h1 h4).trans (hoo i j hi hj)
            · refine ⟨⟨?_, by omega, by omega⟩, ?_, Or.inl ⟨rfl, ?_⟩, ?_, ?_⟩
              · exact (hA 0 cl (by decide) (by decide) (by decide)).trans (ho0.trans hv9)
              · exact Or.inl ⟨rfl, (hB1 cl).trans ho1⟩
              · exact (hA 2 cl (by decide) (by decide) (by decide)).trans ho2
              · exact (hA 3 cl (by decide) (by decide) (by decide)).trans ho3
              · rcases hXc with ⟨g1, g2⟩ | ⟨y9, g1, g2, g3⟩
                · exact Or.inl ⟨g1, g2.trans ((hD cl).trans ho4)⟩
                · exact Or.inr ⟨y9, g1, g2, g3⟩
      · refine zp_load (pc := 40) hx hb (zd_X5_lawClause (40, .aload_n 0, 1, 0, []) (List.mem_of_getElem? (i := 21) rfl)) rfl (j := 1) rfl ?_
        refine zp_load (pc := 41) hx hb (zd_X5_lawClause (41, .aload_n 0, 1, 0, []) (List.mem_of_getElem? (i := 22) rfl)) rfl (j := 1) rfl ?_
        refine zp_getf (n := (x : Int)) (pc := 42) hx hb hE hw (zd_X5_lawClause (42, .getfield 16, 3, 0, []) (List.mem_of_getElem? (i := 23) rfl)) (j := 10) rfl rfl rfl hp ga1n50 ?_
        refine zp_getf (n := ((bb 1 : Nat) : Int)) (pc := 45) hx hb hE hw (zd_X5_lawClause (45, .getfield 75, 3, 0, []) (List.mem_of_getElem? (i := 24) rfl)) (j := 4) rfl rfl rfl px (hUn50.2.2 1 (by decide)).1 ?_
        have hn4 : ¬ yt_hl (zy_so B ln) (zy_wo B ln) tk = 4 := by omega
        refine zp_call (pc := 48) (how := 0) (idx := 79) (mi := 59) (S := []) hx hb hE hw heff hrm (zX_ws1 hW t x b cd B ln (zy_to B ln tk) nl C sz (uu + 2) ord bb cl) rfl (j := 7) rfl rfl (by decide +kernel) (zd_X5_lawClause (48, .invokevirtual 79, 3, 0, []) (List.mem_of_getElem? (i := 25) rfl)) [(a : Int), ((bb 1 : Nat) : Int)] rfl ⟨zp_o2 hp, zp_o2 (hUo.2.2 1 (by decide)).2, trivial⟩ (Nat.le_of_ble_eq_true rfl) ⟨hTn50, hUn50, by omega, rfl⟩ (fun al hal rnw Pw Gw hextw hfrw hokw hcsw hpsiw => ?_)
        obtain rfl := List.mem_singleton.mp hal
        have hrw := zp_int (hokw _ rfl).1
        obtain ⟨rfl, sw, hsw, htw⟩ := hpsiw
        rcases htw with ⟨qw, rfl, hzw, nlw, Cw, szw, hTw⟩ | ⟨pw, nw, yw, Cw, szw, rfl, hzw, hTTw, hUw, huw, hfw9, hszw9, hCw9, how, hXw⟩
        · subst hzw
          refine zp_if (pc := 51) (tgt := 65) hx hb (zd_X5_lawClause (51, .ifCond .eq 14, 3, 0, []) (List.mem_of_getElem? (i := 26) rfl)) rfl (fun (hc54 : 0 = 0) => ?_) (fun (hc54 : ¬ (0 = 0)) => ?_)
          · refine zp_const (pc := 65) hx hb (zd_X5_lawClause (65, .iconst 0, 1, 0, []) (List.mem_of_getElem? (i := 32) rfl)) rfl rfl ?_
            refine zp_zret (pc := 66) (n := 0) hx hb hE hQ hU5 rfl (by decide) (zd_X5_lawClause (66, .ireturn, 1, 0, []) (List.mem_of_getElem? (i := 33) rfl)) (j := 0) rfl (zp_o0 (by omega) (by omega) (by omega) (by omega)) ?_
            rw [hps]
            refine ⟨rfl, Sum.inl qw, ?_, Or.inl ⟨_, rfl, rfl, _, _, _, hTw⟩⟩
            unfold yt_cl
            rw [if_neg (by omega)]
            exact ⟨Sum.inl qw, by rw [if_neg hn4]; exact hsw, Or.inl ⟨_, rfl, rfl⟩⟩
          · exfalso
            omega
        · subst hzw
          have hTw : zT u.1 a t x b cd Gw B ln pw nw Cw szw ord := hTTw
          have hXw := hTw
          obtain ⟨⟨-, ga0w, ga1w, gx5w⟩, hTtw, ⟨ga3w, ga4w, hnlw⟩, gx7w, hszw, hCw⟩ := hXw
          have hfw := zTt_f hTtw
          refine zp_if (pc := 51) (tgt := 65) hx hb (zd_X5_lawClause (51, .ifCond .eq 14, 3, 0, []) (List.mem_of_getElem? (i := 26) rfl)) rfl (fun (hc55 : 1 = 0) => ?_) (fun (hc55 : ¬ (1 = 0)) => ?_)
          · exfalso
            omega
          · refine zp_load (pc := 54) hx hb (zd_X5_lawClause (54, .aload_n 0, 1, 0, []) (List.mem_of_getElem? (i := 27) rfl)) rfl (j := 1) rfl ?_
            refine zp_call (pc := 55) (how := 0) (idx := 83) (mi := 70) (S := []) hx hb hE hw heff hrm (zX_cnd hW t x b cd B ln pw nw Cw szw uu ord bb cl) rfl (j := 18) rfl rfl (by decide +kernel) (zd_X5_lawClause (55, .invokevirtual 83, 3, 0, []) (List.mem_of_getElem? (i := 28) rfl)) [(a : Int)] rfl ⟨zp_o2 hp, trivial⟩ (Nat.le_of_ble_eq_true rfl) ⟨hTw, hUw, by omega⟩ (fun al hal rnc Pc Gc hextc hfrc hokc hcsc hpsic => ?_)
            obtain rfl := List.mem_singleton.mp hal
            have hrc := zp_int (hokc _ rfl).1
            obtain ⟨rfl, sc, hsc, htc⟩ := hpsic
            rcases htc with ⟨qc, rfl, hzc, nlc, Cc, szc, hTc⟩ | ⟨pc2, nc, oy, Cc, szc, rfl, hzc, hTTc, hUc, huc, hfc9, hszc9, hCc9, hoc, hXc⟩
            · subst hzc
              refine zp_if (pc := 58) (tgt := 65) hx hb (zd_X5_lawClause (58, .ifCond .eq 7, 3, 0, []) (List.mem_of_getElem? (i := 29) rfl)) rfl (fun (hc56 : 0 = 0) => ?_) (fun (hc56 : ¬ (0 = 0)) => ?_)
              · refine zp_const (pc := 65) hx hb (zd_X5_lawClause (65, .iconst 0, 1, 0, []) (List.mem_of_getElem? (i := 32) rfl)) rfl rfl ?_
                refine zp_zret (pc := 66) (n := 0) hx hb hE hQ hU5 rfl (by decide) (zd_X5_lawClause (66, .ireturn, 1, 0, []) (List.mem_of_getElem? (i := 33) rfl)) (j := 0) rfl (zp_o0 (by omega) (by omega) (by omega) (by omega)) ?_
                rw [hps]
                refine ⟨rfl, Sum.inl qc, ?_, Or.inl ⟨_, rfl, rfl, _, _, _, hTc⟩⟩
                unfold yt_cl
                rw [if_neg (by omega)]
                exact ⟨Sum.inr (pw, nw, some yw), by rw [if_neg hn4]; exact hsw, Or.inr ⟨_, _, _, rfl, Sum.inl qc, hsc, Or.inl ⟨_, rfl, rfl⟩⟩⟩
              · exfalso
                omega
            · subst hzc
              replace hXc : zHid _ := hXc
              have hTcz : zT u.1 a t x b cd Gc B ln pc2 nc Cc szc ord := hTTc
              have hXcz := hTcz
              obtain ⟨⟨-, ga0cz, ga1cz, gx5cz⟩, hTtcz, ⟨ga3cz, ga4cz, hnlcz⟩, gx7cz, hszcz, hCcz⟩ := hXcz
              have hfcz := zTt_f hTtcz
              refine zp_if (pc := 58) (tgt := 65) hx hb (zd_X5_lawClause (58, .ifCond .eq 7, 3, 0, []) (List.mem_of_getElem? (i := 29) rfl)) rfl (fun (hc57 : 1 = 0) => ?_) (fun (hc57 : ¬ (1 = 0)) => ?_)
              · exfalso
                omega
              · refine zp_const (pc := 61) hx hb (zd_X5_lawClause (61, .iconst 1, 1, 0, []) (List.mem_of_getElem? (i := 30) rfl)) rfl rfl ?_
                refine zp_goto (tgt := 66) (pc := 62) hx hb (zd_X5_lawClause (62, .goto 4, 3, 0, []) (List.mem_of_getElem? (i := 31) rfl)) rfl ?_
                refine zp_zret (pc := 66) (n := 1) hx hb hE hQ hU5 rfl (by decide) (zd_X5_lawClause (66, .ireturn, 1, 0, []) (List.mem_of_getElem? (i := 33) rfl)) (j := 0) rfl (zp_o0 (by omega) (by omega) (by omega) (by omega)) ?_
                rw [hps]
                have hA : ∀ i j : Nat, i < 5 → i ≠ 1 → i ≠ 4 → Gc (bb i) (2000 + j) = Go (bb i) (2000 + j) := by
                  intro i j hi h1 h4
                  have hi3 : i = 0 ∨ i = 2 ∨ i = 3 := by omega
                  rcases hi3 with rfl | rfl | rfl
                  · exact (zU_nc hUo hfrc 0 (by decide) rfl _).trans ((zU_nc hUo hfrw 0 (by decide) rfl _).trans (zU_nc hUo hfrn50 0 (by decide) rfl _))
                  · exact (zU_nc hUo hfrc 2 (by decide) rfl _).trans ((zU_nc hUo hfrw 2 (by decide) rfl _).trans (zU_nc hUo hfrn50 2 (by decide) rfl _))
                  · exact (zU_nc hUo hfrc 3 (by decide) rfl _).trans ((zU_nc hUo hfrw 3 (by decide) rfl _).trans (zU_nc hUo hfrn50 3 (by decide) rfl _))
                have hB1 : ∀ j : Nat, Gc (bb 1) (2000 + j) = Gw (bb 1) (2000 + j) := fun j => zU_nc hUo hfrc 1 (by decide) rfl _
                have hB2 : ∀ j : Nat, Gn50 (bb 1) (2000 + j) = Go (bb 1) (2000 + j) := fun j => zU_nc hUo hfrn50 1 (by decide) rfl _
                have hD : ∀ j : Nat, Gw (bb 4) (2000 + j) = Go (bb 4) (2000 + j) := fun j => (zU_nc hUo hfrw 4 (by decide) rfl _).trans (zU_nc hUo hfrn50 4 (by decide) rfl _)
                refine ⟨rfl, Sum.inr (pc2, nc, (yt_hl (zy_so B ln) (zy_wo B ln) tk, some yw, none, 1, oy)), ?_, Or.inr ⟨pc2, nc, _, Cc, szc, rfl, rfl, hTTc, hUc, by omega, by omega, by omega, fun j hj => ?_, fun i j hi hj => ?_, ?_⟩⟩
                · unfold yt_cl
                  rw [if_neg (by omega)]
                  exact ⟨Sum.inr (pw, nw, some yw), by rw [if_neg hn4]; exact hsw, Or.inr ⟨_, _, _, rfl, _, hsc, Or.inr ⟨_, _, _, rfl, rfl⟩⟩⟩
                · exact (hCc9 j (by omega)).trans (hCw9 j hj)
                · by_cases h1 : i = 1
                  · subst h1
                    rw [hB1 j]
                    exact (how j hj).trans ((hB2 j).trans (hoo 1 j (by decide) hj))
                  · by_cases h4 : i = 4
                    · subst h4
                      exact (hoc j hj).trans ((hD j).trans (hoo 4 j (by decide) hj))
                    · exact (hA i j hi h1 h4).trans (hoo i j hi hj)
                · refine ⟨⟨?_, by omega, by omega⟩, ?_, Or.inl ⟨rfl, ?_⟩, ?_, ?_⟩
                  · exact (hA 0 cl (by decide) (by decide) (by decide)).trans (ho0.trans hv9)
                  · refine Or.inr ⟨yw, rfl, ?_⟩
                    show zXp Cc szc ord (Gc (bb 1) (2000 + cl)) yw
                    rw [hB1 cl]
                    exact zXp_c hXw (by omega) hCc9
                  · exact (hA 2 cl (by decide) (by decide) (by decide)).trans ho2
                  · exact (hA 3 cl (by decide) (by decide) (by decide)).trans ho3
                  · rcases hXc with ⟨g1, g2⟩ | ⟨y9, g1, g2, g3⟩
                    · exact Or.inl ⟨g1, g2.trans ((hD cl).trans ho4)⟩
                    · exact Or.inr ⟨y9, g1, g2, g3⟩
    · exfalso
      omega
noncomputable def zφ_rdl (t x b cd : Nat) (B : Nat → Int) (ln : Nat) (bb : Nat → Nat) : (Nat → Option Nat) → (Nat → Nat → Int) → List Int → Prop := fun P G ps => zTa P (zp_0 ps) t x b cd G ∧ ((G t 0 = (b : Int) ∧ G t 1 = (ln : Int) ∧ ln ≤ 400 ∧ ∀ j, G b (2000 + j) = B j) ∧ ∀ j, j < ln → 0 ≤ B j ∧ B j ≤ 255) ∧ (∀ i : Nat, i < 5 → G x i = (bb i : Int) ∧ P (bb i) = some (30 + i)) ∧ ps.getD 1 0 = 0
noncomputable def zψ_rdl (t x b cd : Nat) (B : Nat → Int) (ln : Nat) (bb : Nat → Nat) : (Nat → Option Nat) → (Nat → Nat → Int) → List Int → (Nat → Option Nat) → (Nat → Nat → Int) → Int → Prop := fun P G ps P' G' rn => P' = P ∧ ∃ s, yT (zy_so B ln) (zy_wo B ln) (zy_to B ln) (yt_cl (zy_so B ln) (zy_wo B ln) (zy_to B ln) (ylf false B ln)) 12 0 0 s ∧ ((∃ q, s = Sum.inl q ∧ rn = 0 ∧ G' (zp_0 ps) 2 = (zy_fr B ln q : Int)) ∨ ∃ (M : List yK) (C' : Nat → Int) (sz' : Nat), s = Sum.inr M ∧ rn = 1 ∧ G' (zp_0 ps) 2 = -1 ∧ G' x 6 = (M.length : Int) ∧ M.length ≤ 12 ∧ G' x 7 = (sz' : Int) ∧ sz' ≤ 872 ∧ (∀ j, G' cd (2000 + j) = C' j) ∧ zXs (fun i j => G' (bb i) (2000 + j)) C' sz' false 0 M)
noncomputable def zK_rdl : zk_K := (zt_mn 40, prog_7_method_2_code, 4, (Option.some Jvm.ClassFile.FieldType.boolean), 1, 5, [(2, 5, 0, 0), (0, 0, 0, 1)], [(some (0, 0, 0, 1), [])], [(5, 4, 0), (7, 3, 0), (7, 5, 0), (7, 2, 0), (7, 4, 0), (35, 1001, 0), (8, 7, 0), (30, 1001, 0), (31, 1001, 0), (32, 1001, 0), (33, 1001, 0), (34, 1001, 0), (8, 6, 0), (5, 2, 0), (5, 3, 0)], (50, 1147, 0, 0))
theorem zX_rdl {l : Launch} {w : zk_W} (hW : zh_W w) (t x b cd : Nat) (B : Nat → Int) (ln : Nat) (bb : Nat → Nat) : zk_metX l w zt_dv zt_TB zK_rdl (zp_A (zφ_rdl t x b cd B ln bb)) (zp_B (zψ_rdl t x b cd B ln bb)) ∧ zk_cok w zt_TB zK_rdl := by
  refine zp_methX (cn := "WoundTown$Reader") zp_lkallRd hW (pl := 708) rfl (by decide +kernel) (fun p e R s m args below meth c Q u hx hb hE hQ hU5 heff hnL hok hφ => ?_)
  have hw := hW.1
  obtain ⟨p0, p1, hps, k0, k1⟩ := zp_ps2 hok
  obtain ⟨a, rfl, hp⟩ := zp_this k0
  have hrm : zk_Kr (zk_ev (zt_types, zp_lkRd, zt_dv, [], [], zp_lcRd, zK_rdl)) = zk_Kr zK_rdl := rfl
  rw [hps] at hφ ⊢
  show zp_J p l e R s m args below meth c Q w u [] 0 [(0, 2, (a : Int)), (1, 0, p1)] [] u.1 (zp_n u.2.1)
  have hφ : zTa u.1 a t x b cd (zp_n u.2.1) ∧ ((zp_n u.2.1 t 0 = (b : Int) ∧ zp_n u.2.1 t 1 = (ln : Int) ∧ ln ≤ 400 ∧ ∀ j, zp_n u.2.1 b (2000 + j) = B j) ∧ ∀ j, j < ln → 0 ≤ B j ∧ B j ≤ 255) ∧ (∀ i : Nat, i < 5 → zp_n u.2.1 x i = (bb i : Int) ∧ u.1 (bb i) = some (30 + i)) ∧ p1 = 0 := hφ
  obtain ⟨⟨⟨pa, pt, px, pb, pc⟩, ga0, ga1, gx5⟩, ⟨⟨gt0, gt1, hln, hBB⟩, hB255⟩, hbb, hp1⟩ := hφ
  subst hp1
  have nta : t ≠ a := zp_pne pt pa (by decide)
  have nxa : x ≠ a := zp_pne px pa (by decide)
  have nba : b ≠ a := zp_pne pb pa (by decide)
  have nca : cd ≠ a := zp_pne pc pa (by decide)
  have loop : ∀ (n9 k tk nl : Nat) (C : Nat → Int) (sz : Nat) (G : Nat → Nat → Int) (M : List yK), 12 - k < n9 → k ≤ 12 → zT u.1 a t x b cd G B ln tk nl C sz false → zU u.1 x G bb k → sz + (72 - 6 * k) ≤ 2 * zy_fr B ln tk + 72 → M.length = k → zXs (fun i j => G (bb i) (2000 + j)) C sz false 0 M → G a 2 = -1 → (∀ s, yT (zy_so B ln) (zy_wo B ln) (zy_to B ln) (yt_cl (zy_so B ln) (zy_wo B ln) (zy_to B ln) (ylf false B ln)) (12 - k) tk nl s → yT (zy_so B ln) (zy_wo B ln) (zy_to B ln) (yt_cl (zy_so B ln) (zy_wo B ln) (zy_to B ln) (ylf false B ln)) 12 0 0 (yTg M s)) → zp_J p l e R s m args below meth c Q w u [] 31 [(2, 0, (k : Int)), (0, 2, (a : Int)), (1, 0, 0)] [] u.1 G := by
    intro n9
    induction n9 with
    | zero => intro k tk nl C sz G M h; exact absurd h (Nat.not_lt_zero _)
    | succ n9 ih =>
      intro k tk nl C sz G M hn hk hT0 hU0 hu hM hX0s hg2 hgo
      have hT0 : zT u.1 a t x b cd G B ln tk nl C sz false := hT0
      have hX0 := hT0
      obtain ⟨⟨-, ga00, ga10, gx50⟩, hTt0, ⟨ga30, ga40, hnl0⟩, gx70, hsz0, hC0⟩ := hX0
      have hf0 := zTt_f hTt0
      refine zp_load (pc := 31) hx hb (zd_X5_read (31, .iload_n 2, 1, 0, []) (List.mem_of_getElem? (i := 17) rfl)) rfl (j := 0) rfl ?_
      refine zp_const (pc := 32) hx hb (zd_X5_read (32, .bipush 12, 2, 0, []) (List.mem_of_getElem? (i := 18) rfl)) rfl rfl ?_
      refine zp_icmp (pc := 34) (tgt := 111) hx hb (zd_X5_read (34, .if_icmp .ge 77, 3, 0, []) (List.mem_of_getElem? (i := 19) rfl)) rfl (fun (hc58 : 12 ≤ (k : Int)) => ?_) (fun (hc58 : ¬ (12 ≤ (k : Int))) => ?_)
      · refine zp_load (pc := 111) hx hb (zd_X5_read (111, .aload_n 0, 1, 0, []) (List.mem_of_getElem? (i := 55) rfl)) rfl (j := 1) rfl ?_
        refine zp_load (pc := 112) hx hb (zd_X5_read (112, .aload_n 0, 1, 0, []) (List.mem_of_getElem? (i := 56) rfl)) rfl (j := 1) rfl ?_
        refine zp_getf (n := (t : Int)) (pc := 113) hx hb hE hw (zd_X5_read (113, .getfield 24, 3, 0, []) (List.mem_of_getElem? (i := 57) rfl)) (j := 9) rfl rfl rfl hp ga00 ?_
        refine zp_getf (n := (zy_fr B ln tk : Int)) (pc := 116) hx hb hE hw (zd_X5_read (116, .getfield 57, 3, 0, []) (List.mem_of_getElem? (i := 58) rfl)) (j := 1) rfl rfl rfl pt hTt0.2.2.2.2.1 ?_
        refine zp_putf (pc := 119) hx hb hE hw heff (zd_X5_read (119, .putfield 20, 3, 0, []) (List.mem_of_getElem? (i := 59) rfl)) (j := 11) rfl rfl rfl hp (zp_o0 (by omega) (by omega) (by omega) (by omega)) ?_
        refine zp_const (pc := 122) hx hb (zd_X5_read (122, .iconst 0, 1, 0, []) (List.mem_of_getElem? (i := 60) rfl)) rfl rfl ?_
        refine zp_zret (pc := 123) (n := 0) hx hb hE hQ hU5 rfl (by decide) (zd_X5_read (123, .ireturn, 1, 0, []) (List.mem_of_getElem? (i := 61) rfl)) (j := 0) rfl (zp_o0 (by omega) (by omega) (by omega) (by omega)) ?_
        rw [hps]
        have hk12 : k = 12 := by omega
        have h9 := hgo (Sum.inl tk) (by rw [show 12 - k = 0 by omega]; rfl)
        exact ⟨rfl, Sum.inl tk, h9, Or.inl ⟨_, rfl, rfl, zp_set_self⟩⟩
      · refine zp_load (pc := 37) hx hb (zd_X5_read (37, .iload_n 1, 1, 0, []) (List.mem_of_getElem? (i := 20) rfl)) rfl (j := 2) rfl ?_
        refine zp_if (pc := 38) (tgt := 48) hx hb (zd_X5_read (38, .ifCond .eq 10, 3, 0, []) (List.mem_of_getElem? (i := 21) rfl)) rfl (fun (hc59 : 0 = 0) => ?_) (fun (hc59 : ¬ (0 = 0)) => ?_)
        · refine zp_load (pc := 48) hx hb (zd_X5_read (48, .aload_n 0, 1, 0, []) (List.mem_of_getElem? (i := 25) rfl)) rfl (j := 1) rfl ?_
          obtain ⟨r9, hr9⟩ : ∃ r9, 12 - k = r9 + 1 := ⟨11 - k, by omega⟩
          have hr8 : r9 = 12 - (k + 1) := by omega
          refine zp_call (pc := 49) (how := 0) (idx := 47) (mi := 77) (S := []) hx hb hE hw heff hrm (zX_lcl hW t x b cd B ln tk nl C sz (72 - 6 * (k + 1)) false bb k) rfl (j := 25) rfl rfl (by decide +kernel) (zd_X5_read (49, .invokevirtual 47, 3, 0, []) (List.mem_of_getElem? (i := 26) rfl)) [(a : Int)] rfl ⟨zp_o2 hp, trivial⟩ (Nat.le_of_ble_eq_true rfl) ⟨hT0, hU0, by omega, by omega⟩ (fun al hal rnc Pc Gc hextc hfrc hokc hcsc hpsic => ?_)
          obtain rfl := List.mem_singleton.mp hal
          have hrc := zp_int (hokc _ rfl).1
          obtain ⟨rfl, sc, hsc, htc⟩ := hpsic
          have hg2c : Gc a 2 = -1 := (zp_nf hfrc hp rfl).trans hg2
          rcases htc with ⟨qc, rfl, hzc, nlc, Cc, szc, hTc⟩ | ⟨p2, n2, K9, Cc, szc, rfl, hzc, hTTc, hUc, huc, hfc9, hszc9, hCc9, hoc, hXc⟩
          · subst hzc
            have hTf : zT u.1 a t x b cd Gc B ln qc nlc Cc szc false := hTc
            have hXf := hTf
            obtain ⟨⟨-, ga0f, ga1f, gx5f⟩, hTtf, ⟨ga3f, ga4f, hnlf⟩, gx7f, hszf, hCf⟩ := hXf
            have hff := zTt_f hTtf
            refine zp_store (L' := [(3, 0, 0), (2, 0, (k : Int)), (0, 2, (a : Int)), (1, 0, 0)]) (pc := 52) hx hb hnL (zd_X5_read (52, .istore_n 3, 1, 0, []) (List.mem_of_getElem? (i := 27) rfl)) rfl rfl rfl ?_
            refine zp_load (pc := 53) hx hb (zd_X5_read (53, .iload_n 3, 1, 0, []) (List.mem_of_getElem? (i := 28) rfl)) rfl (j := 0) rfl ?_
            refine zp_if (pc := 54) (tgt := 69) hx hb (zd_X5_read (54, .ifCond .eq 15, 3, 0, []) (List.mem_of_getElem? (i := 29) rfl)) rfl (fun (hc60 : 0 = 0) => ?_) (fun (hc60 : ¬ (0 = 0)) => ?_)
            · refine zp_load (pc := 69) hx hb (zd_X5_read (69, .iload_n 3, 1, 0, []) (List.mem_of_getElem? (i := 36) rfl)) rfl (j := 0) rfl ?_
              refine zp_if (pc := 70) (tgt := 85) hx hb (zd_X5_read (70, .ifCond .eq 15, 3, 0, []) (List.mem_of_getElem? (i := 37) rfl)) rfl (fun (hc61 : 0 = 0) => ?_) (fun (hc61 : ¬ (0 = 0)) => ?_)
              · refine zp_load (pc := 85) hx hb (zd_X5_read (85, .aload_n 0, 1, 0, []) (List.mem_of_getElem? (i := 43) rfl)) rfl (j := 2) rfl ?_
                refine zp_load (pc := 86) hx hb (zd_X5_read (86, .aload_n 0, 1, 0, []) (List.mem_of_getElem? (i := 44) rfl)) rfl (j := 2) rfl ?_
                refine zp_getf (n := (t : Int)) (pc := 87) hx hb hE hw (zd_X5_read (87, .getfield 24, 3, 0, []) (List.mem_of_getElem? (i := 45) rfl)) (j := 9) rfl rfl rfl hp ga0f ?_
                refine zp_getf (n := (zy_fr B ln qc : Int)) (pc := 90) hx hb hE hw (zd_X5_read (90, .getfield 57, 3, 0, []) (List.mem_of_getElem? (i := 46) rfl)) (j := 1) rfl rfl rfl pt hTtf.2.2.2.2.1 ?_
                refine zp_putf (pc := 93) hx hb hE hw heff (zd_X5_read (93, .putfield 20, 3, 0, []) (List.mem_of_getElem? (i := 47) rfl)) (j := 11) rfl rfl rfl hp (zp_o0 (by omega) (by omega) (by omega) (by omega)) ?_
                refine zp_const (pc := 96) hx hb (zd_X5_read (96, .iconst 0, 1, 0, []) (List.mem_of_getElem? (i := 48) rfl)) rfl rfl ?_
                refine zp_zret (pc := 97) (n := 0) hx hb hE hQ hU5 rfl (by decide) (zd_X5_read (97, .ireturn, 1, 0, []) (List.mem_of_getElem? (i := 49) rfl)) (j := 0) rfl (zp_o0 (by omega) (by omega) (by omega) (by omega)) ?_
                rw [hps]
                have h9 := hgo (Sum.inl qc) (by rw [hr9]; exact ⟨_, hsc, Or.inl ⟨_, rfl, rfl⟩⟩)
                exact ⟨rfl, Sum.inl qc, h9, Or.inl ⟨_, rfl, rfl, zp_set_self⟩⟩
              · exfalso
                omega
            · exfalso
              omega
          · subst hzc
            replace hXc : zHid _ := hXc
            have hTf : zT u.1 a t x b cd Gc B ln p2 n2 Cc szc false := hTTc
            have hXf := hTf
            obtain ⟨⟨-, ga0f, ga1f, gx5f⟩, hTtf, ⟨ga3f, ga4f, hnlf⟩, gx7f, hszf, hCf⟩ := hXf
            have hff := zTt_f hTtf
            obtain ⟨so, hso⟩ : ∃ y : Nat, y = zy_so B ln p2 := ⟨_, rfl⟩
            have hXs : zXs (fun i j => Gc (bb i) (2000 + j)) Cc szc false 0 (M ++ [K9]) := zXs_app (zXs_c hszc9 hCc9 hX0s (fun i j hi _ j2 => hoc i j hi (by omega))) (by rw [Nat.zero_add, hM]; exact hXc)
            have hML : (M ++ [K9]).length = k + 1 := by rw [List.length_append, hM]; rfl
            refine zp_store (L' := [(3, 0, 1), (2, 0, (k : Int)), (0, 2, (a : Int)), (1, 0, 0)]) (pc := 52) hx hb hnL (zd_X5_read (52, .istore_n 3, 1, 0, []) (List.mem_of_getElem? (i := 27) rfl)) rfl rfl rfl ?_
            refine zp_load (pc := 53) hx hb (zd_X5_read (53, .iload_n 3, 1, 0, []) (List.mem_of_getElem? (i := 28) rfl)) rfl (j := 0) rfl ?_
            refine zp_if (pc := 54) (tgt := 69) hx hb (zd_X5_read (54, .ifCond .eq 15, 3, 0, []) (List.mem_of_getElem? (i := 29) rfl)) rfl (fun (hc62 : 1 = 0) => ?_) (fun (hc62 : ¬ (1 = 0)) => ?_)
            · exfalso
              omega
            · refine zp_load (pc := 57) hx hb (zd_X5_read (57, .aload_n 0, 1, 0, []) (List.mem_of_getElem? (i := 30) rfl)) rfl (j := 2) rfl ?_
              refine zp_getf (n := (t : Int)) (pc := 58) hx hb hE hw (zd_X5_read (58, .getfield 24, 3, 0, []) (List.mem_of_getElem? (i := 31) rfl)) (j := 9) rfl rfl rfl hp ga0f ?_
              refine zp_getf (n := (so : Int)) (pc := 61) hx hb hE hw (zd_X5_read (61, .getfield 50, 3, 0, []) (List.mem_of_getElem? (i := 32) rfl)) (j := 0) rfl rfl rfl pt (hTtf.2.2.2.1.trans (by rw [hso])) ?_
              refine zp_if (pc := 64) (tgt := 69) hx hb (zd_X5_read (64, .ifCond .ne 5, 3, 0, []) (List.mem_of_getElem? (i := 33) rfl)) rfl (fun (hc63 : ¬ (so : Int) = 0) => ?_) (fun (hc63 : ¬ (¬ (so : Int) = 0)) => ?_)
              · refine zp_load (pc := 69) hx hb (zd_X5_read (69, .iload_n 3, 1, 0, []) (List.mem_of_getElem? (i := 36) rfl)) rfl (j := 0) rfl ?_
                refine zp_if (pc := 70) (tgt := 85) hx hb (zd_X5_read (70, .ifCond .eq 15, 3, 0, []) (List.mem_of_getElem? (i := 37) rfl)) rfl (fun (hc64 : 1 = 0) => ?_) (fun (hc64 : ¬ (1 = 0)) => ?_)
                · exfalso
                  omega
                · refine zp_load (pc := 73) hx hb (zd_X5_read (73, .aload_n 0, 1, 0, []) (List.mem_of_getElem? (i := 38) rfl)) rfl (j := 2) rfl ?_
                  refine zp_getf (n := (t : Int)) (pc := 74) hx hb hE hw (zd_X5_read (74, .getfield 24, 3, 0, []) (List.mem_of_getElem? (i := 39) rfl)) (j := 9) rfl rfl rfl hp ga0f ?_
                  refine zp_const (pc := 77) hx hb (zd_X5_read (77, .bipush 59, 2, 0, []) (List.mem_of_getElem? (i := 40) rfl)) rfl rfl ?_
                  refine zp_call (pc := 79) (how := 0) (idx := 53) (mi := 64) (S := []) hx hb hE hw heff hrm (zX_csi hW) rfl (j := 12) rfl rfl (by decide +kernel) (zd_X5_read (79, .invokevirtual 53, 3, 0, []) (List.mem_of_getElem? (i := 41) rfl)) [(t : Int), 59] rfl ⟨zp_o2 pt, zp_o0 (by decide) (by decide) (by decide) (by decide), trivial⟩ (Nat.le_of_ble_eq_true rfl) trivial (fun al hal rng65 Pg65 Gg65 hextg65 hfrg65 hokg65 hcsg65 hpsig65 => ?_)
                  obtain rfl := List.mem_singleton.mp hal
                  have hrg65 := zp_int (hokg65 _ rfl).1
                  obtain ⟨hPeg65, hGeg65, htg65⟩ := hpsig65
                  rw [hPeg65, hGeg65]
                  have hsg65 := zT_sg hTtf (ch := 59) (by decide) htg65
                  by_cases hkg65 : yr_s (zy_so B ln) (zy_wo B ln) 59 p2 = true
                  · obtain rfl : rng65 = 1 := hsg65.mpr hkg65
                    refine zp_if (pc := 82) (tgt := 98) hx hb (zd_X5_read (82, .ifCond .ne 16, 3, 0, []) (List.mem_of_getElem? (i := 42) rfl)) rfl (fun (hc66 : ¬ 1 = 0) => ?_) (fun (hc66 : ¬ (¬ 1 = 0)) => ?_)
                    · refine zp_load (pc := 98) hx hb (zd_X5_read (98, .aload_n 0, 1, 0, []) (List.mem_of_getElem? (i := 50) rfl)) rfl (j := 2) rfl ?_
                      refine zp_getf (n := (t : Int)) (pc := 99) hx hb hE hw (zd_X5_read (99, .getfield 24, 3, 0, []) (List.mem_of_getElem? (i := 51) rfl)) (j := 9) rfl rfl rfl hp ga0f ?_
                      refine zp_call (pc := 102) (how := 0) (idx := 60) (mi := 43) (S := []) hx hb hE hw heff hrm (zX_cnx hW) rfl (j := 6) rfl rfl (by decide +kernel) (zd_X5_read (102, .invokevirtual 60, 3, 0, []) (List.mem_of_getElem? (i := 52) rfl)) [(t : Int)] rfl ⟨zp_o2 pt, trivial⟩ (Nat.le_of_ble_eq_true rfl) (zTt_q hTtf) (fun al hal rnn67 Pn67 Gn67 hextn67 hfrn67 hokn67 hcsn67 hpsin67 => ?_)
                      obtain rfl := List.mem_singleton.mp hal
                      obtain ⟨rfl, htn67⟩ := hpsin67
                      have hgon67 := zTt_go hTtf
                      have hTn67 : zT u.1 a t x b cd Gn67 B ln (zy_to B ln p2) n2 Cc szc false := zT_nx hTf hfrn67 htn67
                      have hXn67 := hTn67
                      obtain ⟨⟨-, ga0n67, ga1n67, gx5n67⟩, hTtn67, ⟨ga3n67, ga4n67, hnln67⟩, gx7n67, hszn67, hCn67⟩ := hXn67
                      have hfn67 := zTt_f hTtn67
                      have hs9 := (zTt_go hTtf).1
                      have hUn67 : zU u.1 x Gn67 bb (k + 1) := zU_fr hUc px hfrn67 rfl ((zp_nf hfrn67 px rfl).trans hUc.1) (by omega)
                      have hg2n67 : Gn67 a 2 = -1 := (zp_nf hfrn67 hp rfl).trans hg2c
                      refine zp_iinc (L' := [(2, 0, ((k : Int) + 1)), (3, 0, 1), (0, 2, (a : Int)), (1, 0, 0)]) (n := ((k : Int) + 1)) (pc := 105) hx hb hnL (zd_X5_read (105, .iinc 2 1, 3, 0, []) (List.mem_of_getElem? (i := 53) rfl)) (j := 1) rfl (by omega) (zp_r0 (by omega) (by omega)) rfl rfl ?_
                      refine zp_goto (tgt := 31) (pc := 108) hx hb (zd_X5_read (108, .goto (-77), 3, 0, []) (List.mem_of_getElem? (i := 54) rfl)) rfl ?_
                      refine zp_drop (L' := [(2, 0, ((k + 1 : Nat) : Int)), (0, 2, (a : Int)), (1, 0, 0)]) (by simp <;> omega) ?_
                      refine ih (k + 1) (zy_to B ln p2) n2 Cc szc Gn67 (M ++ [K9]) (by omega) (by omega) hTn67 hUn67 (by omega) hML ?_ hg2n67 (fun s hs => ?_)
                      · refine zXs_c (Nat.le_refl _) (fun _ _ => rfl) hXs (fun i j hi _ _ => ?_)
                        have hi5 : i = 0 ∨ i = 1 ∨ i = 2 ∨ i = 3 ∨ i = 4 := by omega
                        rcases hi5 with rfl | rfl | rfl | rfl | rfl
                        · exact zU_nc hUc hfrn67 0 (by decide) rfl _
                        · exact zU_nc hUc hfrn67 1 (by decide) rfl _
                        · exact zU_nc hUc hfrn67 2 (by decide) rfl _
                        · exact zU_nc hUc hfrn67 3 (by decide) rfl _
                        · exact zU_nc hUc hfrn67 4 (by decide) rfl _
                      · have h9 := hgo (yTg [K9] s) (by rw [hr9]; exact yT_b hsc (by unfold yTb; rw [if_neg (by rw [(yr_s_i.mp hkg65).1]; decide), if_pos hkg65]; rw [hr8]; exact hs))
                        rw [yTg_g] at h9
                        exact h9
                    · exfalso
                      omega
                  · have zg65 : ¬ rng65 = 1 := fun z => hkg65 (hsg65.mp z)
                    obtain rfl : rng65 = 0 := by omega
                    refine zp_if (pc := 82) (tgt := 98) hx hb (zd_X5_read (82, .ifCond .ne 16, 3, 0, []) (List.mem_of_getElem? (i := 42) rfl)) rfl (fun (hc68 : ¬ 0 = 0) => ?_) (fun (hc68 : ¬ (¬ 0 = 0)) => ?_)
                    · exfalso
                      omega
                    · refine zp_load (pc := 85) hx hb (zd_X5_read (85, .aload_n 0, 1, 0, []) (List.mem_of_getElem? (i := 43) rfl)) rfl (j := 2) rfl ?_
                      refine zp_load (pc := 86) hx hb (zd_X5_read (86, .aload_n 0, 1, 0, []) (List.mem_of_getElem? (i := 44) rfl)) rfl (j := 2) rfl ?_
                      refine zp_getf (n := (t : Int)) (pc := 87) hx hb hE hw (zd_X5_read (87, .getfield 24, 3, 0, []) (List.mem_of_getElem? (i := 45) rfl)) (j := 9) rfl rfl rfl hp ga0f ?_
                      refine zp_getf (n := (zy_fr B ln p2 : Int)) (pc := 90) hx hb hE hw (zd_X5_read (90, .getfield 57, 3, 0, []) (List.mem_of_getElem? (i := 46) rfl)) (j := 1) rfl rfl rfl pt hTtf.2.2.2.2.1 ?_
                      refine zp_putf (pc := 93) hx hb hE hw heff (zd_X5_read (93, .putfield 20, 3, 0, []) (List.mem_of_getElem? (i := 47) rfl)) (j := 11) rfl rfl rfl hp (zp_o0 (by omega) (by omega) (by omega) (by omega)) ?_
                      refine zp_const (pc := 96) hx hb (zd_X5_read (96, .iconst 0, 1, 0, []) (List.mem_of_getElem? (i := 48) rfl)) rfl rfl ?_
                      refine zp_zret (pc := 97) (n := 0) hx hb hE hQ hU5 rfl (by decide) (zd_X5_read (97, .ireturn, 1, 0, []) (List.mem_of_getElem? (i := 49) rfl)) (j := 0) rfl (zp_o0 (by omega) (by omega) (by omega) (by omega)) ?_
                      rw [hps]
                      have h9 := hgo (yTg [K9] (Sum.inl p2)) (by rw [hr9]; exact yT_b hsc (by unfold yTb; rw [if_neg (by omega), if_neg hkg65]))
                      exact ⟨rfl, Sum.inl p2, h9, Or.inl ⟨_, rfl, rfl, zp_set_self⟩⟩
              · refine zp_const (pc := 67) hx hb (zd_X5_read (67, .iconst 1, 1, 0, []) (List.mem_of_getElem? (i := 34) rfl)) rfl rfl ?_
                refine zp_zret (pc := 68) (n := 1) hx hb hE hQ hU5 rfl (by decide) (zd_X5_read (68, .ireturn, 1, 0, []) (List.mem_of_getElem? (i := 35) rfl)) (j := 0) rfl (zp_o0 (by omega) (by omega) (by omega) (by omega)) ?_
                rw [hps]
                have h0 : zy_so B ln p2 = 0 := by omega
                have h9 := hgo (yTg [K9] (Sum.inr [])) (by rw [hr9]; exact yT_b hsc (by unfold yTb; rw [if_pos h0]))
                rw [yTg_g] at h9
                refine ⟨rfl, Sum.inr (M ++ [K9]), ?_, Or.inr ⟨M ++ [K9], Cc, szc, rfl, rfl, hg2c, ?_, by omega, hTTc.2.2.2.1, hTTc.2.2.2.2.1, hTTc.2.2.2.2.2, hXs⟩⟩
                · have e : yTg (M ++ [K9]) (Sum.inr []) = Sum.inr (M ++ [K9]) := by
                    show Sum.inr (M ++ [K9] ++ []) = _
                    rw [List.append_nil]
                  rw [e] at h9
                  exact h9
                · rw [hML]
                  exact hUc.1
        · exfalso
          omega
  refine zp_load (pc := 0) hx hb (zd_X5_read (0, .aload_n 0, 1, 0, []) (List.mem_of_getElem? (i := 0) rfl)) rfl (j := 0) rfl ?_
  refine zp_load (pc := 1) hx hb (zd_X5_read (1, .iload_n 1, 1, 0, []) (List.mem_of_getElem? (i := 1) rfl)) rfl (j := 1) rfl ?_
  refine zp_putf (pc := 2) hx hb hE hw heff (zd_X5_read (2, .putfield 28, 3, 0, []) (List.mem_of_getElem? (i := 2) rfl)) (j := 12) rfl rfl rfl hp (zp_o0 (by decide) (by decide) (by decide) (by decide)) ?_
  refine zp_load (pc := 5) hx hb (zd_X5_read (5, .aload_n 0, 1, 0, []) (List.mem_of_getElem? (i := 3) rfl)) rfl (j := 0) rfl ?_
  refine zp_const (pc := 6) hx hb (zd_X5_read (6, .iconst 0, 1, 0, []) (List.mem_of_getElem? (i := 4) rfl)) rfl rfl ?_
  refine zp_putf (pc := 7) hx hb hE hw heff (zd_X5_read (7, .putfield 32, 3, 0, []) (List.mem_of_getElem? (i := 5) rfl)) (j := 13) rfl rfl rfl hp (zp_o0 (by decide) (by decide) (by decide) (by decide)) ?_
  refine zp_load (pc := 10) hx hb (zd_X5_read (10, .aload_n 0, 1, 0, []) (List.mem_of_getElem? (i := 6) rfl)) rfl (j := 0) rfl ?_
  refine zp_getf (n := (x : Int)) (pc := 11) hx hb hE hw (zd_X5_read (11, .getfield 16, 3, 0, []) (List.mem_of_getElem? (i := 7) rfl)) (j := 10) rfl rfl rfl hp ((zp_set_ne (Or.inr (by decide))).trans ((zp_set_ne (Or.inr (by decide))).trans (ga1))) ?_
  refine zp_call (pc := 14) (how := 0) (idx := 35) (mi := 41) (S := []) hx hb hE hw heff hrm (zX_vcl hW) rfl (j := 1) rfl rfl (by decide +kernel) (zd_X5_read (14, .invokevirtual 35, 3, 0, []) (List.mem_of_getElem? (i := 8) rfl)) [(x : Int)] rfl ⟨zp_o2 px, trivial⟩ (Nat.le_of_ble_eq_true rfl) trivial (fun al hal rnk Pk Gk hextk hfrk hokk hcsk hpsik => ?_)
  obtain rfl := List.mem_singleton.mp hal
  obtain ⟨rfl, hk6, hk7⟩ := hpsik
  have ka0 : Gk a 0 = (t : Int) := (zp_nf hfrk hp rfl).trans ((zp_set_ne (Or.inr (by decide))).trans ((zp_set_ne (Or.inr (by decide))).trans (ga0)))
  have ka1 : Gk a 1 = (x : Int) := (zp_nf hfrk hp rfl).trans ((zp_set_ne (Or.inr (by decide))).trans ((zp_set_ne (Or.inr (by decide))).trans (ga1)))
  have ka3 : Gk a 3 = 0 := (zp_nf hfrk hp rfl).trans ((zp_set_ne (Or.inr (by decide))).trans zp_set_self)
  have ka4 : Gk a 4 = 0 := (zp_nf hfrk hp rfl).trans zp_set_self
  have kt0 : Gk t 0 = (b : Int) := (zp_nf hfrk pt rfl).trans ((zp_set_ne (Or.inl nta)).trans ((zp_set_ne (Or.inl nta)).trans (gt0)))
  have kt1 : Gk t 1 = (ln : Int) := (zp_nf hfrk pt rfl).trans ((zp_set_ne (Or.inl nta)).trans ((zp_set_ne (Or.inl nta)).trans (gt1)))
  have kb : ∀ j, Gk b (2000 + j) = B j := fun j => (zp_nc hfrk pb rfl _).trans ((zp_set_ne (Or.inl nba)).trans ((zp_set_ne (Or.inl nba)).trans ((hBB j))))
  have kx5 : Gk x 5 = (cd : Int) := (zp_nf hfrk px rfl).trans ((zp_set_ne (Or.inl nxa)).trans ((zp_set_ne (Or.inl nxa)).trans (gx5)))
  have kbb : ∀ i : Nat, i < 5 → Gk x i = (bb i : Int) ∧ u.1 (bb i) = some (30 + i) := by
    intro i hi
    refine ⟨?_, (hbb i hi).2⟩
    have hi5 : i = 0 ∨ i = 1 ∨ i = 2 ∨ i = 3 ∨ i = 4 := by omega
    rcases hi5 with rfl | rfl | rfl | rfl | rfl
    · exact (zp_nf hfrk px rfl).trans ((zp_set_ne (Or.inl nxa)).trans ((zp_set_ne (Or.inl nxa)).trans ((hbb 0 hi).1)))
    · exact (zp_nf hfrk px rfl).trans ((zp_set_ne (Or.inl nxa)).trans ((zp_set_ne (Or.inl nxa)).trans ((hbb 1 hi).1)))
    · exact (zp_nf hfrk px rfl).trans ((zp_set_ne (Or.inl nxa)).trans ((zp_set_ne (Or.inl nxa)).trans ((hbb 2 hi).1)))
    · exact (zp_nf hfrk px rfl).trans ((zp_set_ne (Or.inl nxa)).trans ((zp_set_ne (Or.inl nxa)).trans ((hbb 3 hi).1)))
    · exact (zp_nf hfrk px rfl).trans ((zp_set_ne (Or.inl nxa)).trans ((zp_set_ne (Or.inl nxa)).trans ((hbb 4 hi).1)))
  refine zp_load (pc := 17) hx hb (zd_X5_read (17, .aload_n 0, 1, 0, []) (List.mem_of_getElem? (i := 9) rfl)) rfl (j := 0) rfl ?_
  refine zp_getf (n := (t : Int)) (pc := 18) hx hb hE hw (zd_X5_read (18, .getfield 24, 3, 0, []) (List.mem_of_getElem? (i := 10) rfl)) (j := 9) rfl rfl rfl hp ka0 ?_
  refine zp_call (pc := 21) (how := 0) (idx := 38) (mi := 42) (S := []) hx hb hE hw heff hrm (zX_rew hW) rfl (j := 2) rfl rfl (by decide +kernel) (zd_X5_read (21, .invokevirtual 38, 3, 0, []) (List.mem_of_getElem? (i := 11) rfl)) [(t : Int)] rfl ⟨zp_o2 pt, trivial⟩ (Nat.le_of_ble_eq_true rfl) trivial (fun al hal rnr Pr Gr hextr hfrr hokr hcsr hpsir => ?_)
  obtain rfl := List.mem_singleton.mp hal
  obtain ⟨rfl, htr⟩ := hpsir
  have htr : zy_tc (fun j => Gk (Gk t 0).toNat (2000 + j)) (Gk t 1).toNat Gr t 0 := htr
  rw [kt0, kt1, Int.toNat_natCast, Int.toNat_natCast, show (fun j => Gk b (2000 + j)) = B from funext kb] at htr
  have hTr : zT u.1 a t x b cd Gr B ln 0 0 (fun j => Gr cd (2000 + j)) 0 false := ⟨⟨⟨hp, pt, px, pb, pc⟩, (zp_nf hfrr hp rfl).trans ka0, (zp_nf hfrr hp rfl).trans ka1, (zp_nf hfrr px rfl).trans kx5⟩, ⟨⟨(zp_nf hfrr pt rfl).trans kt0, (zp_nf hfrr pt rfl).trans kt1, hln, fun j => (zp_nc hfrr pb rfl _).trans (kb j)⟩, hB255, htr⟩, ⟨(zp_nf hfrr hp rfl).trans ka3, (zp_nf hfrr hp rfl).trans ka4, Nat.zero_le _⟩, (zp_nf hfrr px rfl).trans hk7, Nat.zero_le _, fun j => rfl⟩
  have hUr : zU u.1 x Gr bb 0 := ⟨(zp_nf hfrr px rfl).trans hk6, Nat.zero_le _, fun i hi => by
    refine ⟨?_, (hbb i hi).2⟩
    have hi5 : i = 0 ∨ i = 1 ∨ i = 2 ∨ i = 3 ∨ i = 4 := by omega
    rcases hi5 with rfl | rfl | rfl | rfl | rfl
    · exact (zp_nf hfrr px rfl).trans (kbb 0 hi).1
    · exact (zp_nf hfrr px rfl).trans (kbb 1 hi).1
    · exact (zp_nf hfrr px rfl).trans (kbb 2 hi).1
    · exact (zp_nf hfrr px rfl).trans (kbb 3 hi).1
    · exact (zp_nf hfrr px rfl).trans (kbb 4 hi).1⟩
  refine zp_load (pc := 24) hx hb (zd_X5_read (24, .aload_n 0, 1, 0, []) (List.mem_of_getElem? (i := 12) rfl)) rfl (j := 0) rfl ?_
  refine zp_const (pc := 25) hx hb (zd_X5_read (25, .iconst (-1), 1, 0, []) (List.mem_of_getElem? (i := 13) rfl)) rfl rfl ?_
  refine zp_putf (pc := 26) hx hb hE hw heff (zd_X5_read (26, .putfield 20, 3, 0, []) (List.mem_of_getElem? (i := 14) rfl)) (j := 11) rfl rfl rfl hp (zp_o0 (by decide) (by decide) (by decide) (by decide)) ?_
  refine zp_const (pc := 29) hx hb (zd_X5_read (29, .iconst 0, 1, 0, []) (List.mem_of_getElem? (i := 15) rfl)) rfl rfl ?_
  refine zp_store (L' := [(2, 0, 0), (0, 2, (a : Int)), (1, 0, 0)]) (pc := 30) hx hb hnL (zd_X5_read (30, .istore_n 2, 1, 0, []) (List.mem_of_getElem? (i := 16) rfl)) rfl rfl rfl ?_
  refine zp_drop (L' := [(2, 0, ((0 : Nat) : Int)), (0, 2, (a : Int)), (1, 0, 0)]) (by simp) ?_
  exact loop 13 0 0 0 _ 0 _ [] (by omega) (by omega) (zT_2 hTr) (zU_2 hUr px hp) (by omega) rfl trivial zp_set_self (fun s hs => by
    have e : yTg [] s = s := by
      cases s with
      | inl q => rfl
      | inr N => rfl
    rw [e]
    exact hs)
