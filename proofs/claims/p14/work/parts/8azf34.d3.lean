/-! part d3: the class's reader: sums, tests, exactly -/
noncomputable def zp_lkRd : List zk_L := zt_lk_WoundTown_Reader.map (fun r => r.1) ++ [(9, 63, 209, 0, 0), (9, 86, 200, 0, 0), (9, 88, 203, 0, 0), (9, 100, 204, 0, 0), (9, 112, 205, 0, 0), (9, 132, 208, 0, 0), (9, 141, 207, 0, 0), (9, 143, 206, 0, 0), (9, 161, 201, 0, 0), (9, 163, 202, 0, 0)]
noncomputable def zp_lcRd : List (Nat × Nat × Nat) := zt_lc_WoundTown_Reader.map (fun r => r.1)
theorem zp_lkallRd : (zp_lkRd.all (zt_lkin "WoundTown$Reader") && zp_lcRd.all (zt_lcin "WoundTown$Reader")) = true := by decide +kernel
noncomputable def zK_upa (d : Nat) : zk_K := (zt_mn 63, prog_7_method_16_code, 6, (Option.some Jvm.ClassFile.FieldType.boolean), 1, 5, [(2, 5, 0, 0), (0, 0, 0, 8)], [(some (0, 0, 0, 1), [])], [(5, 4, 0), (7, 3, 0), (7, 5, 0), (7, 2, 0), (7, 4, 0), (35, 1001, 0), (8, 7, 0)], (10 + 3 * (8 - d), 246 + 71 * (8 - d), 0, 0))
theorem zb_upa : ∀ d, d < 9 → (zt_cokb 806 (zK_upa d) && (zk_e0b (zt_types, zp_lkRd, zt_dv, [], [], zp_lcRd, zK_upa d) && (zk_Kk (zK_upa d) != 2 && (zk_Kp (zK_upa d)).all (fun f => decide (f.1 ≤ 2))))) = true := by decide +kernel
noncomputable def zφ_upa (d : Nat) (t x b cd : Nat) (B : Nat → Int) (ln tk nl : Nat) (C : Nat → Int) (sz uu : Nat) (ord : Bool) (x0 : yD) : (Nat → Option Nat) → (Nat → Nat → Int) → List Int → Prop := fun P G ps => zT P (zp_0 ps) t x b cd G B ln tk nl C sz ord ∧ ps.getD 1 0 = (d : Int) ∧ sz + uu ≤ 2 * zy_fr B ln tk + 72
noncomputable def zψ_upa (d : Nat) (t x b cd : Nat) (B : Nat → Int) (ln tk nl : Nat) (C : Nat → Int) (sz uu : Nat) (ord : Bool) (x0 : yD) : (Nat → Option Nat) → (Nat → Nat → Int) → List Int → (Nat → Option Nat) → (Nat → Nat → Int) → Int → Prop := fun P G ps P' G' rn => P' = P ∧ ∃ s, yZ (zy_so B ln) (zy_wo B ln) (zy_to B ln) (ylf ord B ln) 0 d nl tk x0 s ∧ zTr P (zp_0 ps) t x b cd G' B ln ord nl sz uu tk C false rn s
noncomputable def zQ_upa (l : Launch) (w : zk_W) (d : Nat) : Prop := ∀ (t x b cd : Nat) (B : Nat → Int) (ln tk nl : Nat) (C : Nat → Int) (sz uu : Nat) (ord : Bool) (x0 : yD), zk_metX l w zt_dv zt_TB (zK_upa d) (zp_A (zφ_upa d t x b cd B ln tk nl C sz uu ord x0)) (zp_B (zψ_upa d t x b cd B ln tk nl C sz uu ord x0)) ∧ zk_cok w zt_TB (zK_upa d)
noncomputable def zK_ute (d : Nat) : zk_K := (zt_mn 62, prog_7_method_14_code, 4, (Option.some Jvm.ClassFile.FieldType.boolean), 1, 5, [(2, 5, 0, 0), (0, 0, 0, 8)], [(some (0, 0, 0, 1), [])], [(5, 4, 0), (7, 3, 0), (7, 5, 0), (7, 2, 0), (7, 4, 0), (35, 1001, 0), (8, 7, 0)], (11 + 3 * (8 - d), 271 + 71 * (8 - d), 0, 0))
theorem zb_ute : ∀ d, d < 9 → (zt_cokb 802 (zK_ute d) && (zk_e0b (zt_types, zp_lkRd, zt_dv, [], [], zp_lcRd, zK_ute d) && (zk_Kk (zK_ute d) != 2 && (zk_Kp (zK_ute d)).all (fun f => decide (f.1 ≤ 2))))) = true := by decide +kernel
noncomputable def zφ_ute (d : Nat) (t x b cd : Nat) (B : Nat → Int) (ln tk nl : Nat) (C : Nat → Int) (sz uu : Nat) (ord : Bool) (x0 : yD) : (Nat → Option Nat) → (Nat → Nat → Int) → List Int → Prop := fun P G ps => zT P (zp_0 ps) t x b cd G B ln tk nl C sz ord ∧ ps.getD 1 0 = (d : Int) ∧ sz + uu ≤ 2 * zy_fr B ln tk + 72
noncomputable def zψ_ute (d : Nat) (t x b cd : Nat) (B : Nat → Int) (ln tk nl : Nat) (C : Nat → Int) (sz uu : Nat) (ord : Bool) (x0 : yD) : (Nat → Option Nat) → (Nat → Nat → Int) → List Int → (Nat → Option Nat) → (Nat → Nat → Int) → Int → Prop := fun P G ps P' G' rn => P' = P ∧ ∃ s, yZ (zy_so B ln) (zy_wo B ln) (zy_to B ln) (ylf ord B ln) 1 d nl tk x0 s ∧ zTr P (zp_0 ps) t x b cd G' B ln ord nl sz uu tk C false rn s
noncomputable def zQ_ute (l : Launch) (w : zk_W) (d : Nat) : Prop := ∀ (t x b cd : Nat) (B : Nat → Int) (ln tk nl : Nat) (C : Nat → Int) (sz uu : Nat) (ord : Bool) (x0 : yD), zk_metX l w zt_dv zt_TB (zK_ute d) (zp_A (zφ_ute d t x b cd B ln tk nl C sz uu ord x0)) (zp_B (zψ_ute d t x b cd B ln tk nl C sz uu ord x0)) ∧ zk_cok w zt_TB (zK_ute d)
noncomputable def zK_usu (d : Nat) : zk_K := (zt_mn 61, prog_7_method_13_code, 4, (Option.some Jvm.ClassFile.FieldType.boolean), 1, 5, [(2, 5, 0, 0), (0, 0, 0, 8)], [(some (0, 0, 0, 1), [])], [(5, 4, 0), (7, 3, 0), (7, 5, 0), (7, 2, 0), (7, 4, 0), (35, 1001, 0), (8, 7, 0)], (12 + 3 * (8 - d), 294 + 71 * (8 - d), 0, 0))
theorem zb_usu : ∀ d, d < 9 → (zt_cokb 798 (zK_usu d) && (zk_e0b (zt_types, zp_lkRd, zt_dv, [], [], zp_lcRd, zK_usu d) && (zk_Kk (zK_usu d) != 2 && (zk_Kp (zK_usu d)).all (fun f => decide (f.1 ≤ 2))))) = true := by decide +kernel
noncomputable def zφ_usu (d : Nat) (t x b cd : Nat) (B : Nat → Int) (ln tk nl : Nat) (C : Nat → Int) (sz uu : Nat) (ord : Bool) (x0 : yD) : (Nat → Option Nat) → (Nat → Nat → Int) → List Int → Prop := fun P G ps => zT P (zp_0 ps) t x b cd G B ln tk nl C sz ord ∧ ps.getD 1 0 = (d : Int) ∧ sz + uu ≤ 2 * zy_fr B ln tk + 72
noncomputable def zψ_usu (d : Nat) (t x b cd : Nat) (B : Nat → Int) (ln tk nl : Nat) (C : Nat → Int) (sz uu : Nat) (ord : Bool) (x0 : yD) : (Nat → Option Nat) → (Nat → Nat → Int) → List Int → (Nat → Option Nat) → (Nat → Nat → Int) → Int → Prop := fun P G ps P' G' rn => P' = P ∧ ∃ s, yZ (zy_so B ln) (zy_wo B ln) (zy_to B ln) (ylf ord B ln) 3 d nl tk x0 s ∧ zTr P (zp_0 ps) t x b cd G' B ln ord nl sz uu tk C false rn s
noncomputable def zQ_usu (l : Launch) (w : zk_W) (d : Nat) : Prop := ∀ (t x b cd : Nat) (B : Nat → Int) (ln tk nl : Nat) (C : Nat → Int) (sz uu : Nat) (ord : Bool) (x0 : yD), zk_metX l w zt_dv zt_TB (zK_usu d) (zp_A (zφ_usu d t x b cd B ln tk nl C sz uu ord x0)) (zp_B (zψ_usu d t x b cd B ln tk nl C sz uu ord x0)) ∧ zk_cok w zt_TB (zK_usu d)
noncomputable def zK_ubr (d : Nat) : zk_K := (zt_mn 74, prog_7_method_12_code, 2, (Option.some Jvm.ClassFile.FieldType.boolean), 1, 5, [(2, 5, 0, 0), (0, 0, 0, 8)], [(some (0, 0, 0, 1), [])], [(5, 4, 0), (7, 3, 0), (7, 5, 0), (7, 2, 0), (7, 4, 0), (35, 1001, 0), (8, 7, 0)], (12 + 4 * (8 - d), 296 + 90 * (8 - d), 0, 0))
theorem zb_ubr : ∀ d, d < 9 → (zt_cokb 859 (zK_ubr d) && (zk_e0b (zt_types, zp_lkRd, zt_dv, [], [], zp_lcRd, zK_ubr d) && (zk_Kk (zK_ubr d) != 2 && (zk_Kp (zK_ubr d)).all (fun f => decide (f.1 ≤ 2))))) = true := by decide +kernel
noncomputable def zφ_ubr (d : Nat) (t x b cd : Nat) (B : Nat → Int) (ln tk nl : Nat) (C : Nat → Int) (sz uu : Nat) (ord : Bool) (x0 : yD) : (Nat → Option Nat) → (Nat → Nat → Int) → List Int → Prop := fun P G ps => zT P (zp_0 ps) t x b cd G B ln tk nl C sz ord ∧ ps.getD 1 0 = (d : Int) ∧ sz + uu ≤ 2 * zy_fr B ln tk + 72 ∧ yr_s (zy_so B ln) (zy_wo B ln) 40 tk = true
noncomputable def zψ_ubr (d : Nat) (t x b cd : Nat) (B : Nat → Int) (ln tk nl : Nat) (C : Nat → Int) (sz uu : Nat) (ord : Bool) (x0 : yD) : (Nat → Option Nat) → (Nat → Nat → Int) → List Int → (Nat → Option Nat) → (Nat → Nat → Int) → Int → Prop := fun P G ps P' G' rn => P' = P ∧ ∃ s, yZ (zy_so B ln) (zy_wo B ln) (zy_to B ln) (ylf ord B ln) 5 d nl tk x0 s ∧ zTr P (zp_0 ps) t x b cd G' B ln ord nl sz uu tk C true rn s
noncomputable def zQ_ubr (l : Launch) (w : zk_W) (d : Nat) : Prop := ∀ (t x b cd : Nat) (B : Nat → Int) (ln tk nl : Nat) (C : Nat → Int) (sz uu : Nat) (ord : Bool) (x0 : yD), zk_metX l w zt_dv zt_TB (zK_ubr d) (zp_A (zφ_ubr d t x b cd B ln tk nl C sz uu ord x0)) (zp_B (zψ_ubr d t x b cd B ln tk nl C sz uu ord x0)) ∧ zk_cok w zt_TB (zK_ubr d)
noncomputable def zK_upl (d : Nat) : zk_K := (zt_mn 73, prog_7_method_10_code, 4, (Option.some Jvm.ClassFile.FieldType.boolean), 1, 5, [(2, 5, 0, 0), (0, 0, 0, 8)], [(some (0, 0, 0, 1), [])], [(5, 4, 0), (7, 3, 0), (7, 5, 0), (7, 2, 0), (7, 4, 0), (35, 1001, 0), (8, 7, 0)], (13 + 4 * (8 - d), 317 + 90 * (8 - d), 0, 0))
theorem zb_upl : ∀ d, d < 9 → (zt_cokb 854 (zK_upl d) && (zk_e0b (zt_types, zp_lkRd, zt_dv, [], [], zp_lcRd, zK_upl d) && (zk_Kk (zK_upl d) != 2 && (zk_Kp (zK_upl d)).all (fun f => decide (f.1 ≤ 2))))) = true := by decide +kernel
noncomputable def zφ_upl (d : Nat) (t x b cd : Nat) (B : Nat → Int) (ln tk nl : Nat) (C : Nat → Int) (sz uu : Nat) (ord : Bool) (x0 : yD) : (Nat → Option Nat) → (Nat → Nat → Int) → List Int → Prop := fun P G ps => zT P (zp_0 ps) t x b cd G B ln tk nl C sz ord ∧ ps.getD 1 0 = (d : Int) ∧ sz + uu ≤ 2 * zy_fr B ln tk + 72
noncomputable def zψ_upl (d : Nat) (t x b cd : Nat) (B : Nat → Int) (ln tk nl : Nat) (C : Nat → Int) (sz uu : Nat) (ord : Bool) (x0 : yD) : (Nat → Option Nat) → (Nat → Nat → Int) → List Int → (Nat → Option Nat) → (Nat → Nat → Int) → Int → Prop := fun P G ps P' G' rn => P' = P ∧ ∃ s, yZ (zy_so B ln) (zy_wo B ln) (zy_to B ln) (ylf ord B ln) 5 d nl tk x0 s ∧ zTr P (zp_0 ps) t x b cd G' B ln ord nl sz uu tk C true rn s
noncomputable def zQ_upl (l : Launch) (w : zk_W) (d : Nat) : Prop := ∀ (t x b cd : Nat) (B : Nat → Int) (ln tk nl : Nat) (C : Nat → Int) (sz uu : Nat) (ord : Bool) (x0 : yD), zk_metX l w zt_dv zt_TB (zK_upl d) (zp_A (zφ_upl d t x b cd B ln tk nl C sz uu ord x0)) (zp_B (zψ_upl d t x b cd B ln tk nl C sz uu ord x0)) ∧ zk_cok w zt_TB (zK_upl d)
noncomputable def zK_ubo (d : Nat) : zk_K := (zt_mn 72, prog_7_method_9_code, 4, (Option.some Jvm.ClassFile.FieldType.boolean), 1, 5, [(2, 5, 0, 0), (0, 0, 0, 8)], [(some (0, 0, 0, 1), [])], [(5, 4, 0), (7, 3, 0), (7, 5, 0), (7, 2, 0), (7, 4, 0), (35, 1001, 0), (8, 7, 0)], (14 + 4 * (8 - d), 340 + 90 * (8 - d), 0, 0))
theorem zb_ubo : ∀ d, d < 9 → (zt_cokb 850 (zK_ubo d) && (zk_e0b (zt_types, zp_lkRd, zt_dv, [], [], zp_lcRd, zK_ubo d) && (zk_Kk (zK_ubo d) != 2 && (zk_Kp (zK_ubo d)).all (fun f => decide (f.1 ≤ 2))))) = true := by decide +kernel
noncomputable def zφ_ubo (d : Nat) (t x b cd : Nat) (B : Nat → Int) (ln tk nl : Nat) (C : Nat → Int) (sz uu : Nat) (ord : Bool) (x0 : yD) : (Nat → Option Nat) → (Nat → Nat → Int) → List Int → Prop := fun P G ps => zT P (zp_0 ps) t x b cd G B ln tk nl C sz ord ∧ ps.getD 1 0 = (d : Int) ∧ sz + uu ≤ 2 * zy_fr B ln tk + 72
noncomputable def zψ_ubo (d : Nat) (t x b cd : Nat) (B : Nat → Int) (ln tk nl : Nat) (C : Nat → Int) (sz uu : Nat) (ord : Bool) (x0 : yD) : (Nat → Option Nat) → (Nat → Nat → Int) → List Int → (Nat → Option Nat) → (Nat → Nat → Int) → Int → Prop := fun P G ps P' G' rn => P' = P ∧ ∃ s, yZ (zy_so B ln) (zy_wo B ln) (zy_to B ln) (ylf ord B ln) 6 d nl tk x0 s ∧ zTr P (zp_0 ps) t x b cd G' B ln ord nl sz uu tk C true rn s
noncomputable def zQ_ubo (l : Launch) (w : zk_W) (d : Nat) : Prop := ∀ (t x b cd : Nat) (B : Nat → Int) (ln tk nl : Nat) (C : Nat → Int) (sz uu : Nat) (ord : Bool) (x0 : yD), zk_metX l w zt_dv zt_TB (zK_ubo d) (zp_A (zφ_ubo d t x b cd B ln tk nl C sz uu ord x0)) (zp_B (zψ_ubo d t x b cd B ln tk nl C sz uu ord x0)) ∧ zk_cok w zt_TB (zK_ubo d)
noncomputable def zK_uts (d : Nat) : zk_K := (zt_mn 71, prog_7_method_8_code, 4, (Option.some Jvm.ClassFile.FieldType.boolean), 1, 5, [(2, 5, 0, 0), (0, 0, 0, 8)], [(some (0, 0, 0, 1), [])], [(5, 4, 0), (7, 3, 0), (7, 5, 0), (7, 2, 0), (7, 4, 0), (35, 1001, 0), (8, 7, 0)], (15 + 4 * (8 - d), 363 + 90 * (8 - d), 0, 0))
theorem zb_uts : ∀ d, d < 9 → (zt_cokb 846 (zK_uts d) && (zk_e0b (zt_types, zp_lkRd, zt_dv, [], [], zp_lcRd, zK_uts d) && (zk_Kk (zK_uts d) != 2 && (zk_Kp (zK_uts d)).all (fun f => decide (f.1 ≤ 2))))) = true := by decide +kernel
noncomputable def zφ_uts (d : Nat) (t x b cd : Nat) (B : Nat → Int) (ln tk nl : Nat) (C : Nat → Int) (sz uu : Nat) (ord : Bool) (x0 : yD) : (Nat → Option Nat) → (Nat → Nat → Int) → List Int → Prop := fun P G ps => zT P (zp_0 ps) t x b cd G B ln tk nl C sz ord ∧ ps.getD 1 0 = (d : Int) ∧ sz + uu ≤ 2 * zy_fr B ln tk + 72
noncomputable def zψ_uts (d : Nat) (t x b cd : Nat) (B : Nat → Int) (ln tk nl : Nat) (C : Nat → Int) (sz uu : Nat) (ord : Bool) (x0 : yD) : (Nat → Option Nat) → (Nat → Nat → Int) → List Int → (Nat → Option Nat) → (Nat → Nat → Int) → Int → Prop := fun P G ps P' G' rn => P' = P ∧ ∃ s, yZ (zy_so B ln) (zy_wo B ln) (zy_to B ln) (ylf ord B ln) 8 d nl tk x0 s ∧ zTr P (zp_0 ps) t x b cd G' B ln ord nl sz uu tk C true rn s
noncomputable def zQ_uts (l : Launch) (w : zk_W) (d : Nat) : Prop := ∀ (t x b cd : Nat) (B : Nat → Int) (ln tk nl : Nat) (C : Nat → Int) (sz uu : Nat) (ord : Bool) (x0 : yD), zk_metX l w zt_dv zt_TB (zK_uts d) (zp_A (zφ_uts d t x b cd B ln tk nl C sz uu ord x0)) (zp_B (zψ_uts d t x b cd B ln tk nl C sz uu ord x0)) ∧ zk_cok w zt_TB (zK_uts d)
noncomputable def zK_um : zk_K := (zt_mn 67, prog_7_method_15_code, 1, (Option.some Jvm.ClassFile.FieldType.int), 1, 5, [(2, 5, 0, 0)], [(some (0, 0, (-1), 13), [])], [], (1, 21, 0, 0))
noncomputable def zφ_um (t x b cd : Nat) (B : Nat → Int) (ln tk nl : Nat) (C : Nat → Int) (sz : Nat) (ord : Bool) : (Nat → Option Nat) → (Nat → Nat → Int) → List Int → Prop := fun P G ps => zT P (zp_0 ps) t x b cd G B ln tk nl C sz ord
noncomputable def zψ_um (t x b cd : Nat) (B : Nat → Int) (ln tk nl : Nat) (C : Nat → Int) (sz : Nat) (ord : Bool) : (Nat → Option Nat) → (Nat → Nat → Int) → List Int → (Nat → Option Nat) → (Nat → Nat → Int) → Int → Prop := fun P G ps P' G' rn => P' = P ∧ G' = G ∧ rn = if yr_mu (zy_so B ln) (zy_wo B ln) tk = -1 then -1 else yr_mu (zy_so B ln) (zy_wo B ln) tk - 14
theorem zX_um {l : Launch} {w : zk_W} (hW : zh_W w) (t x b cd : Nat) (B : Nat → Int) (ln tk nl : Nat) (C : Nat → Int) (sz : Nat) (ord : Bool) : zk_metX l w zt_dv zt_TB zK_um (zp_A (zφ_um t x b cd B ln tk nl C sz ord)) (zp_B (zψ_um t x b cd B ln tk nl C sz ord)) ∧ zk_cok w zt_TB zK_um := by
  refine zp_methX (cn := "WoundTown$Reader") zp_lkallRd hW (pl := 826) rfl (by decide +kernel) (fun p e R s m args below meth c Q u hx hb hE hQ hU5 heff hnL hok hφ => ?_)
  have hw := hW.1
  obtain ⟨p0, hps, k0⟩ := zp_ps1 hok
  obtain ⟨a, rfl, hp⟩ := zp_this k0
  have hrm : zk_Kr (zk_ev (zt_types, zp_lkRd, zt_dv, [], [], zp_lcRd, zK_um)) = zk_Kr zK_um := rfl
  rw [hps] at hφ ⊢
  show zp_J p l e R s m args below meth c Q w u [] 0 [(0, 2, (a : Int))] [] u.1 (zp_n u.2.1)
  have hT : zT u.1 a t x b cd (zp_n u.2.1) B ln tk nl C sz ord := hφ
  have hX := hT
  obtain ⟨⟨⟨pa, pt, px, pb, pc⟩, -, -, -⟩, -⟩ := hX
  have hT0 : zT u.1 a t x b cd (zp_n u.2.1) B ln tk nl C sz ord := hT
  have hX0 := hT0
  obtain ⟨⟨-, ga00, ga10, gx50⟩, hTt0, ⟨ga30, ga40, hnl0⟩, gx70, hsz0, hC0⟩ := hX0
  have hf0 := zTt_f hTt0
  refine zp_load (pc := 0) hx hb (zd_X5_timesOrBy (0, .aload_n 0, 1, 0, []) (List.mem_of_getElem? (i := 0) rfl)) rfl (j := 0) rfl ?_
  refine zp_getf (n := (t : Int)) (pc := 1) hx hb hE hw (zd_X5_timesOrBy (1, .getfield 24, 3, 0, []) (List.mem_of_getElem? (i := 1) rfl)) (j := 9) rfl rfl rfl hp ga00 ?_
  refine zp_const (pc := 4) hx hb (zd_X5_timesOrBy (4, .bipush 42, 2, 0, []) (List.mem_of_getElem? (i := 2) rfl)) rfl rfl ?_
  refine zp_call (pc := 6) (how := 0) (idx := 53) (mi := 64) (S := []) hx hb hE hw heff hrm (zX_csi hW) rfl (j := 12) rfl rfl (by decide +kernel) (zd_X5_timesOrBy (6, .invokevirtual 53, 3, 0, []) (List.mem_of_getElem? (i := 3) rfl)) [(t : Int), 42] rfl ⟨zp_o2 pt, zp_o0 (by decide) (by decide) (by decide) (by decide), trivial⟩ (Nat.le_of_ble_eq_true rfl) trivial (fun al hal rng42 Pg42 Gg42 hextg42 hfrg42 hokg42 hcsg42 hpsig42 => ?_)
  obtain rfl := List.mem_singleton.mp hal
  have hrg42 := zp_int (hokg42 _ rfl).1
  obtain ⟨hPeg42, hGeg42, htg42⟩ := hpsig42
  rw [hPeg42, hGeg42]
  have hsg42 := zT_sg hTt0 (ch := 42) (by decide) htg42
  refine zp_if (pc := 9) (tgt := 15) hx hb (zd_X5_timesOrBy (9, .ifCond .eq 6, 3, 0, []) (List.mem_of_getElem? (i := 4) rfl)) rfl (fun (hc21 : rng42 = 0) => ?_) (fun (hc21 : ¬ (rng42 = 0)) => ?_)
  · refine zp_load (pc := 15) hx hb (zd_X5_timesOrBy (15, .aload_n 0, 1, 0, []) (List.mem_of_getElem? (i := 7) rfl)) rfl (j := 0) rfl ?_
    refine zp_getf (n := (t : Int)) (pc := 16) hx hb hE hw (zd_X5_timesOrBy (16, .getfield 24, 3, 0, []) (List.mem_of_getElem? (i := 8) rfl)) (j := 9) rfl rfl rfl hp ga00 ?_
    refine zp_const (pc := 19) hx hb (zd_X5_timesOrBy (19, .bipush 47, 2, 0, []) (List.mem_of_getElem? (i := 9) rfl)) rfl rfl ?_
    refine zp_call (pc := 21) (how := 0) (idx := 53) (mi := 64) (S := []) hx hb hE hw heff hrm (zX_csi hW) rfl (j := 12) rfl rfl (by decide +kernel) (zd_X5_timesOrBy (21, .invokevirtual 53, 3, 0, []) (List.mem_of_getElem? (i := 10) rfl)) [(t : Int), 47] rfl ⟨zp_o2 pt, zp_o0 (by decide) (by decide) (by decide) (by decide), trivial⟩ (Nat.le_of_ble_eq_true rfl) trivial (fun al hal rng47 Pg47 Gg47 hextg47 hfrg47 hokg47 hcsg47 hpsig47 => ?_)
    obtain rfl := List.mem_singleton.mp hal
    have hrg47 := zp_int (hokg47 _ rfl).1
    obtain ⟨hPeg47, hGeg47, htg47⟩ := hpsig47
    rw [hPeg47, hGeg47]
    have hsg47 := zT_sg hTt0 (ch := 47) (by decide) htg47
    refine zp_if (pc := 24) (tgt := 30) hx hb (zd_X5_timesOrBy (24, .ifCond .eq 6, 3, 0, []) (List.mem_of_getElem? (i := 11) rfl)) rfl (fun (hc22 : rng47 = 0) => ?_) (fun (hc22 : ¬ (rng47 = 0)) => ?_)
    · refine zp_load (pc := 30) hx hb (zd_X5_timesOrBy (30, .aload_n 0, 1, 0, []) (List.mem_of_getElem? (i := 14) rfl)) rfl (j := 0) rfl ?_
      refine zp_getf (n := (t : Int)) (pc := 31) hx hb hE hw (zd_X5_timesOrBy (31, .getfield 24, 3, 0, []) (List.mem_of_getElem? (i := 15) rfl)) (j := 9) rfl rfl rfl hp ga00 ?_
      refine zp_const (pc := 34) hx hb (zd_X5_timesOrBy (34, .bipush 37, 2, 0, []) (List.mem_of_getElem? (i := 16) rfl)) rfl rfl ?_
      refine zp_call (pc := 36) (how := 0) (idx := 53) (mi := 64) (S := []) hx hb hE hw heff hrm (zX_csi hW) rfl (j := 12) rfl rfl (by decide +kernel) (zd_X5_timesOrBy (36, .invokevirtual 53, 3, 0, []) (List.mem_of_getElem? (i := 17) rfl)) [(t : Int), 37] rfl ⟨zp_o2 pt, zp_o0 (by decide) (by decide) (by decide) (by decide), trivial⟩ (Nat.le_of_ble_eq_true rfl) trivial (fun al hal rng37 Pg37 Gg37 hextg37 hfrg37 hokg37 hcsg37 hpsig37 => ?_)
      obtain rfl := List.mem_singleton.mp hal
      have hrg37 := zp_int (hokg37 _ rfl).1
      obtain ⟨hPeg37, hGeg37, htg37⟩ := hpsig37
      rw [hPeg37, hGeg37]
      have hsg37 := zT_sg hTt0 (ch := 37) (by decide) htg37
      refine zp_if (pc := 39) (tgt := 47) hx hb (zd_X5_timesOrBy (39, .ifCond .eq 8, 3, 0, []) (List.mem_of_getElem? (i := 18) rfl)) rfl (fun (hc23 : rng37 = 0) => ?_) (fun (hc23 : ¬ (rng37 = 0)) => ?_)
      · refine zp_const (pc := 47) hx hb (zd_X5_timesOrBy (47, .iconst (-1), 1, 0, []) (List.mem_of_getElem? (i := 21) rfl)) rfl rfl ?_
        refine zp_iret (pc := 48) (n := (-1)) hx hb hE hQ hU5 rfl (show (1 : Nat) ≠ 2 by decide) (zd_X5_timesOrBy (48, .ireturn, 1, 0, []) (List.mem_of_getElem? (i := 22) rfl)) (j := 0) rfl (zp_o0 (by omega) (by omega) (by omega) (by omega)) ?_
        rw [hps]
        refine ⟨rfl, rfl, ?_⟩
        have e : yr_mu (zy_so B ln) (zy_wo B ln) tk = -1 := by
          unfold yr_mu
          rw [if_neg (fun z => by have h9 := hsg42.mpr z; omega), if_neg (fun z => by have h9 := hsg47.mpr z; omega), if_neg (fun z => by have h9 := hsg37.mpr z; omega)]
        rw [e]
        decide
      · refine zp_const (pc := 42) hx hb (zd_X5_timesOrBy (42, .bipush 10, 2, 0, []) (List.mem_of_getElem? (i := 19) rfl)) rfl rfl ?_
        refine zp_goto (tgt := 48) (pc := 44) hx hb (zd_X5_timesOrBy (44, .goto 4, 3, 0, []) (List.mem_of_getElem? (i := 20) rfl)) rfl ?_
        refine zp_iret (pc := 48) (n := 10) hx hb hE hQ hU5 rfl (show (1 : Nat) ≠ 2 by decide) (zd_X5_timesOrBy (48, .ireturn, 1, 0, []) (List.mem_of_getElem? (i := 22) rfl)) (j := 0) rfl (zp_o0 (by omega) (by omega) (by omega) (by omega)) ?_
        rw [hps]
        refine ⟨rfl, rfl, ?_⟩
        have e : yr_mu (zy_so B ln) (zy_wo B ln) tk = 24 := by
          unfold yr_mu
          rw [if_neg (fun z => by have h9 := hsg42.mpr z; omega), if_neg (fun z => by have h9 := hsg47.mpr z; omega), if_pos (hsg37.mp (by omega))]
        rw [e]
        decide
    · refine zp_const (pc := 27) hx hb (zd_X5_timesOrBy (27, .bipush 9, 2, 0, []) (List.mem_of_getElem? (i := 12) rfl)) rfl rfl ?_
      refine zp_iret (pc := 29) (n := 9) hx hb hE hQ hU5 rfl (show (1 : Nat) ≠ 2 by decide) (zd_X5_timesOrBy (29, .ireturn, 1, 0, []) (List.mem_of_getElem? (i := 13) rfl)) (j := 0) rfl (zp_o0 (by omega) (by omega) (by omega) (by omega)) ?_
      rw [hps]
      refine ⟨rfl, rfl, ?_⟩
      have e : yr_mu (zy_so B ln) (zy_wo B ln) tk = 23 := by
        unfold yr_mu
        rw [if_neg (fun z => by have h9 := hsg42.mpr z; omega), if_pos (hsg47.mp (by omega))]
      rw [e]
      decide
  · refine zp_const (pc := 12) hx hb (zd_X5_timesOrBy (12, .bipush 8, 2, 0, []) (List.mem_of_getElem? (i := 5) rfl)) rfl rfl ?_
    refine zp_iret (pc := 14) (n := 8) hx hb hE hQ hU5 rfl (show (1 : Nat) ≠ 2 by decide) (zd_X5_timesOrBy (14, .ireturn, 1, 0, []) (List.mem_of_getElem? (i := 6) rfl)) (j := 0) rfl (zp_o0 (by omega) (by omega) (by omega) (by omega)) ?_
    rw [hps]
    refine ⟨rfl, rfl, ?_⟩
    have e : yr_mu (zy_so B ln) (zy_wo B ln) tk = 22 := by
      unfold yr_mu
      rw [if_pos (hsg42.mp (by omega))]
    rw [e]
    decide
noncomputable def zK_uc : zk_K := (zt_mn 75, prog_7_method_11_code, 1, (Option.some Jvm.ClassFile.FieldType.int), 1, 5, [(2, 5, 0, 0)], [(some (0, 0, (-1), 13), [])], [], (1, 21, 0, 0))
noncomputable def zφ_uc (t x b cd : Nat) (B : Nat → Int) (ln tk nl : Nat) (C : Nat → Int) (sz : Nat) (ord : Bool) : (Nat → Option Nat) → (Nat → Nat → Int) → List Int → Prop := fun P G ps => zT P (zp_0 ps) t x b cd G B ln tk nl C sz ord
noncomputable def zψ_uc (t x b cd : Nat) (B : Nat → Int) (ln tk nl : Nat) (C : Nat → Int) (sz : Nat) (ord : Bool) : (Nat → Option Nat) → (Nat → Nat → Int) → List Int → (Nat → Option Nat) → (Nat → Nat → Int) → Int → Prop := fun P G ps P' G' rn => P' = P ∧ G' = G ∧ rn = if yr_cm (zy_so B ln) (zy_wo B ln) tk = -1 then -1 else yr_cm (zy_so B ln) (zy_wo B ln) tk - 14
theorem zX_uc {l : Launch} {w : zk_W} (hW : zh_W w) (t x b cd : Nat) (B : Nat → Int) (ln tk nl : Nat) (C : Nat → Int) (sz : Nat) (ord : Bool) : zk_metX l w zt_dv zt_TB zK_uc (zp_A (zφ_uc t x b cd B ln tk nl C sz ord)) (zp_B (zψ_uc t x b cd B ln tk nl C sz ord)) ∧ zk_cok w zt_TB zK_uc := by
  refine zp_methX (cn := "WoundTown$Reader") zp_lkallRd hW (pl := 863) rfl (by decide +kernel) (fun p e R s m args below meth c Q u hx hb hE hQ hU5 heff hnL hok hφ => ?_)
  have hw := hW.1
  obtain ⟨p0, hps, k0⟩ := zp_ps1 hok
  obtain ⟨a, rfl, hp⟩ := zp_this k0
  have hrm : zk_Kr (zk_ev (zt_types, zp_lkRd, zt_dv, [], [], zp_lcRd, zK_uc)) = zk_Kr zK_uc := rfl
  rw [hps] at hφ ⊢
  show zp_J p l e R s m args below meth c Q w u [] 0 [(0, 2, (a : Int))] [] u.1 (zp_n u.2.1)
  have hT : zT u.1 a t x b cd (zp_n u.2.1) B ln tk nl C sz ord := hφ
  have hX := hT
  obtain ⟨⟨⟨pa, pt, px, pb, pc⟩, -, -, -⟩, -⟩ := hX
  have hT0 : zT u.1 a t x b cd (zp_n u.2.1) B ln tk nl C sz ord := hT
  have hX0 := hT0
  obtain ⟨⟨-, ga00, ga10, gx50⟩, hTt0, ⟨ga30, ga40, hnl0⟩, gx70, hsz0, hC0⟩ := hX0
  have hf0 := zTt_f hTt0
  refine zp_load (pc := 0) hx hb (zd_X5_comparison (0, .aload_n 0, 1, 0, []) (List.mem_of_getElem? (i := 0) rfl)) rfl (j := 0) rfl ?_
  refine zp_getf (n := (t : Int)) (pc := 1) hx hb hE hw (zd_X5_comparison (1, .getfield 24, 3, 0, []) (List.mem_of_getElem? (i := 1) rfl)) (j := 9) rfl rfl rfl hp ga00 ?_
  refine zp_const (pc := 4) hx hb (zd_X5_comparison (4, .bipush 60, 2, 0, []) (List.mem_of_getElem? (i := 2) rfl)) rfl rfl ?_
  refine zp_call (pc := 6) (how := 0) (idx := 53) (mi := 64) (S := []) hx hb hE hw heff hrm (zX_csi hW) rfl (j := 12) rfl rfl (by decide +kernel) (zd_X5_comparison (6, .invokevirtual 53, 3, 0, []) (List.mem_of_getElem? (i := 3) rfl)) [(t : Int), 60] rfl ⟨zp_o2 pt, zp_o0 (by decide) (by decide) (by decide) (by decide), trivial⟩ (Nat.le_of_ble_eq_true rfl) trivial (fun al hal rng60 Pg60 Gg60 hextg60 hfrg60 hokg60 hcsg60 hpsig60 => ?_)
  obtain rfl := List.mem_singleton.mp hal
  have hrg60 := zp_int (hokg60 _ rfl).1
  obtain ⟨hPeg60, hGeg60, htg60⟩ := hpsig60
  rw [hPeg60, hGeg60]
  have hsg60 := zT_sg hTt0 (ch := 60) (by decide) htg60
  refine zp_if (pc := 9) (tgt := 15) hx hb (zd_X5_comparison (9, .ifCond .eq 6, 3, 0, []) (List.mem_of_getElem? (i := 4) rfl)) rfl (fun (hc24 : rng60 = 0) => ?_) (fun (hc24 : ¬ (rng60 = 0)) => ?_)
  · refine zp_load (pc := 15) hx hb (zd_X5_comparison (15, .aload_n 0, 1, 0, []) (List.mem_of_getElem? (i := 7) rfl)) rfl (j := 0) rfl ?_
    refine zp_getf (n := (t : Int)) (pc := 16) hx hb hE hw (zd_X5_comparison (16, .getfield 24, 3, 0, []) (List.mem_of_getElem? (i := 8) rfl)) (j := 9) rfl rfl rfl hp ga00 ?_
    refine zp_const (pc := 19) hx hb (zd_X5_comparison (19, .bipush 62, 2, 0, []) (List.mem_of_getElem? (i := 9) rfl)) rfl rfl ?_
    refine zp_call (pc := 21) (how := 0) (idx := 53) (mi := 64) (S := []) hx hb hE hw heff hrm (zX_csi hW) rfl (j := 12) rfl rfl (by decide +kernel) (zd_X5_comparison (21, .invokevirtual 53, 3, 0, []) (List.mem_of_getElem? (i := 10) rfl)) [(t : Int), 62] rfl ⟨zp_o2 pt, zp_o0 (by decide) (by decide) (by decide) (by decide), trivial⟩ (Nat.le_of_ble_eq_true rfl) trivial (fun al hal rng62 Pg62 Gg62 hextg62 hfrg62 hokg62 hcsg62 hpsig62 => ?_)
    obtain rfl := List.mem_singleton.mp hal
    have hrg62 := zp_int (hokg62 _ rfl).1
    obtain ⟨hPeg62, hGeg62, htg62⟩ := hpsig62
    rw [hPeg62, hGeg62]
    have hsg62 := zT_sg hTt0 (ch := 62) (by decide) htg62
    refine zp_if (pc := 24) (tgt := 30) hx hb (zd_X5_comparison (24, .ifCond .eq 6, 3, 0, []) (List.mem_of_getElem? (i := 11) rfl)) rfl (fun (hc25 : rng62 = 0) => ?_) (fun (hc25 : ¬ (rng62 = 0)) => ?_)
    · refine zp_load (pc := 30) hx hb (zd_X5_comparison (30, .aload_n 0, 1, 0, []) (List.mem_of_getElem? (i := 14) rfl)) rfl (j := 0) rfl ?_
      refine zp_getf (n := (t : Int)) (pc := 31) hx hb hE hw (zd_X5_comparison (31, .getfield 24, 3, 0, []) (List.mem_of_getElem? (i := 15) rfl)) (j := 9) rfl rfl rfl hp ga00 ?_
      refine zp_const (pc := 34) hx hb (zd_X5_comparison (34, .bipush 61, 2, 0, []) (List.mem_of_getElem? (i := 16) rfl)) rfl rfl ?_
      refine zp_call (pc := 36) (how := 0) (idx := 53) (mi := 64) (S := []) hx hb hE hw heff hrm (zX_csi hW) rfl (j := 12) rfl rfl (by decide +kernel) (zd_X5_comparison (36, .invokevirtual 53, 3, 0, []) (List.mem_of_getElem? (i := 17) rfl)) [(t : Int), 61] rfl ⟨zp_o2 pt, zp_o0 (by decide) (by decide) (by decide) (by decide), trivial⟩ (Nat.le_of_ble_eq_true rfl) trivial (fun al hal rng61 Pg61 Gg61 hextg61 hfrg61 hokg61 hcsg61 hpsig61 => ?_)
      obtain rfl := List.mem_singleton.mp hal
      have hrg61 := zp_int (hokg61 _ rfl).1
      obtain ⟨hPeg61, hGeg61, htg61⟩ := hpsig61
      rw [hPeg61, hGeg61]
      have hsg61 := zT_sg hTt0 (ch := 61) (by decide) htg61
      refine zp_if (pc := 39) (tgt := 47) hx hb (zd_X5_comparison (39, .ifCond .eq 8, 3, 0, []) (List.mem_of_getElem? (i := 18) rfl)) rfl (fun (hc26 : rng61 = 0) => ?_) (fun (hc26 : ¬ (rng61 = 0)) => ?_)
      · refine zp_const (pc := 47) hx hb (zd_X5_comparison (47, .iconst (-1), 1, 0, []) (List.mem_of_getElem? (i := 21) rfl)) rfl rfl ?_
        refine zp_iret (pc := 48) (n := (-1)) hx hb hE hQ hU5 rfl (show (1 : Nat) ≠ 2 by decide) (zd_X5_comparison (48, .ireturn, 1, 0, []) (List.mem_of_getElem? (i := 22) rfl)) (j := 0) rfl (zp_o0 (by omega) (by omega) (by omega) (by omega)) ?_
        rw [hps]
        refine ⟨rfl, rfl, ?_⟩
        have e : yr_cm (zy_so B ln) (zy_wo B ln) tk = -1 := by
          unfold yr_cm
          rw [if_neg (fun z => by have h9 := hsg60.mpr z; omega), if_neg (fun z => by have h9 := hsg62.mpr z; omega), if_neg (fun z => by have h9 := hsg61.mpr z; omega)]
        rw [e]
        decide
      · refine zp_const (pc := 42) hx hb (zd_X5_comparison (42, .bipush 13, 2, 0, []) (List.mem_of_getElem? (i := 19) rfl)) rfl rfl ?_
        refine zp_goto (tgt := 48) (pc := 44) hx hb (zd_X5_comparison (44, .goto 4, 3, 0, []) (List.mem_of_getElem? (i := 20) rfl)) rfl ?_
        refine zp_iret (pc := 48) (n := 13) hx hb hE hQ hU5 rfl (show (1 : Nat) ≠ 2 by decide) (zd_X5_comparison (48, .ireturn, 1, 0, []) (List.mem_of_getElem? (i := 22) rfl)) (j := 0) rfl (zp_o0 (by omega) (by omega) (by omega) (by omega)) ?_
        rw [hps]
        refine ⟨rfl, rfl, ?_⟩
        have e : yr_cm (zy_so B ln) (zy_wo B ln) tk = 27 := by
          unfold yr_cm
          rw [if_neg (fun z => by have h9 := hsg60.mpr z; omega), if_neg (fun z => by have h9 := hsg62.mpr z; omega), if_pos (hsg61.mp (by omega))]
        rw [e]
        decide
    · refine zp_const (pc := 27) hx hb (zd_X5_comparison (27, .bipush 12, 2, 0, []) (List.mem_of_getElem? (i := 12) rfl)) rfl rfl ?_
      refine zp_iret (pc := 29) (n := 12) hx hb hE hQ hU5 rfl (show (1 : Nat) ≠ 2 by decide) (zd_X5_comparison (29, .ireturn, 1, 0, []) (List.mem_of_getElem? (i := 13) rfl)) (j := 0) rfl (zp_o0 (by omega) (by omega) (by omega) (by omega)) ?_
      rw [hps]
      refine ⟨rfl, rfl, ?_⟩
      have e : yr_cm (zy_so B ln) (zy_wo B ln) tk = 26 := by
        unfold yr_cm
        rw [if_neg (fun z => by have h9 := hsg60.mpr z; omega), if_pos (hsg62.mp (by omega))]
      rw [e]
      decide
  · refine zp_const (pc := 12) hx hb (zd_X5_comparison (12, .bipush 11, 2, 0, []) (List.mem_of_getElem? (i := 5) rfl)) rfl rfl ?_
    refine zp_iret (pc := 14) (n := 11) hx hb hE hQ hU5 rfl (show (1 : Nat) ≠ 2 by decide) (zd_X5_comparison (14, .ireturn, 1, 0, []) (List.mem_of_getElem? (i := 6) rfl)) (j := 0) rfl (zp_o0 (by omega) (by omega) (by omega) (by omega)) ?_
    rw [hps]
    refine ⟨rfl, rfl, ?_⟩
    have e : yr_cm (zy_so B ln) (zy_wo B ln) tk = 25 := by
      unfold yr_cm
      rw [if_pos (hsg60.mp (by omega))]
    rw [e]
    decide
theorem ych_sh {v : Int} : ∀ (L : List Int) (d : Int), 0 ≤ d → ych L (d + 1) v = if ych L d v = -1 then -1 else ych L d v + 1
  | [], d, _ => rfl
  | x :: r, d, hd => by
    have ih := ych_sh (v := v) r (d + 1) (by omega)
    show (if v = x then d + 1 else ych r (d + 1 + 1) v) = if (if v = x then d else ych r (d + 1) v) = -1 then -1 else (if v = x then d else ych r (d + 1) v) + 1
    by_cases hx : v = x
    · rw [if_pos hx, if_pos hx, if_neg (by omega)]
    · rw [if_neg hx, if_neg hx, ih]
theorem ych_s {v : Int} {L : List Int} : ych L 1 v = if ych L 0 v = -1 then -1 else ych L 0 v + 1 := ych_sh L 0 (Int.le_refl 0)
theorem zy_wo_nn {t b : Nat} {G : Nat → Nat → Int} {B : Nat → Int} {ln tk : Nat} (h : zTt t b G B ln tk) (hs : zy_so B ln tk = 2) : 0 ≤ zy_wo B ln tk := by
  obtain ⟨h1, h2⟩ := zBc_dig h hs
  obtain ⟨g1, g2, g3, g4⟩ := zv_nf_d _ h1
  rw [← h2]
  by_cases z : zv_nf B (zy_fr B ln tk) (zy_to B ln tk - zy_fr B ln tk) < 10000
  · rw [g3 z]
    exact g1
  · have := g4 (by omega)
    omega
theorem yr_mu_q (so : Nat → Nat) (wo : Nat → Int) (p : Nat) : yr_mu so wo p = -1 ∨ (22 ≤ yr_mu so wo p ∧ yr_mu so wo p ≤ 24) := by
  unfold yr_mu
  repeat' split
  all_goals omega
theorem yr_cm_q (so : Nat → Nat) (wo : Nat → Int) (p : Nat) : yr_cm so wo p = -1 ∨ (25 ≤ yr_cm so wo p ∧ yr_cm so wo p ≤ 27) := by
  unfold yr_cm
  repeat' split
  all_goals omega
/-- turned, or not -/
noncomputable def ytw (it : Nat) (s : yR) : yR := match s with
  | Sum.inl q => Sum.inl q
  | Sum.inr (p, n, y) => Sum.inr (p, n, if it = 0 then y else yd_nt y)
theorem ytw_id {s : yR} : ytw 0 s = s := by
  cases s with
  | inl q => rfl
  | inr y => rfl
noncomputable def ytn (s : yR) : yR := match s with
  | Sum.inl q => Sum.inl q
  | Sum.inr (p, n, y) => Sum.inr (p, n, yd_nt y)
theorem ytw_nt {so : Nat → Nat} {wo : Nat → Int} {nx : Nat → Nat} {lf : Nat → Nat ⊕ (Nat × Int × Int)} {d n p : Nat} {x : yD} {s : yR} (h : yZ so wo nx lf 5 d n p x s) : (∃ q, ytn s = Sum.inl q ∧ yZ so wo nx lf 5 d n p x (Sum.inl q)) ∨ ∃ p1 n1 y, yZ so wo nx lf 5 d n p x (Sum.inr (p1, n1, y)) ∧ ytn s = Sum.inr (p1, n1, yd_nt y) := by
  cases s with
  | inl q => exact Or.inl ⟨q, rfl, h⟩
  | inr y => exact Or.inr ⟨y.1, y.2.1, y.2.2, h, rfl⟩
theorem ytw_1 {s : yR} : ytw 0 (ytn s) = ytw 1 s := by
  cases s with
  | inl q => rfl
  | inr y => rfl
theorem ytw_0 {s : yR} : ytw 1 (ytn s) = ytw 0 s := by
  cases s with
  | inl q => rfl
  | inr y =>
    show (Sum.inr (y.1, y.2.1, yd_nt (yd_nt y.2.2)) : yR) = Sum.inr (y.1, y.2.1, y.2.2)
    rw [yd_nn]
theorem zcb_upa_csi : ∀ d, d < 9 → zp_cb (zk_Ke (zK_upa d)) (zk_Kr (zK_upa d)) (zK_csi) 0 = true := by decide +kernel
theorem zcb_upa_cnx : ∀ d, d < 9 → zp_cb (zk_Ke (zK_upa d)) (zk_Kr (zK_upa d)) (zK_cnx) 0 = true := by decide +kernel
theorem zcb_upa_usuu : ∀ d, d < 8 → zp_cb (zk_Ke (zK_upa d)) (zk_Kr (zK_upa d)) (zK_usu (d + 1)) 0 = true := by decide +kernel
theorem zcb_upa_vwlw : ∀ d, d < 9 → zp_cb (zk_Ke (zK_upa d)) (zk_Kr (zK_upa d)) (zK_vwlw) 0 = true := by decide +kernel
theorem zcb_upa_vad : ∀ d, d < 9 → zp_cb (zk_Ke (zK_upa d)) (zk_Kr (zK_upa d)) (zK_vad) 0 = true := by decide +kernel
theorem zcb_upa_vwow : ∀ d, d < 9 → zp_cb (zk_Ke (zK_upa d)) (zk_Kr (zK_upa d)) (zK_vwow) 0 = true := by decide +kernel
theorem zcb_upa_vnw : ∀ d, d < 9 → zp_cb (zk_Ke (zK_upa d)) (zk_Kr (zK_upa d)) (zK_vnw) 0 = true := by decide +kernel
theorem zX_upa {l : Launch} {w : zk_W} (hW : zh_W w) (d : Nat) (hd : d < 9) (ih : d < 8 → zQ_usu l w (d + 1)) : zQ_upa l w d := by
  intro t x b cd B ln tk nl C sz uu ord x0
  refine zp_methX (cn := "WoundTown$Reader") zp_lkallRd hW (pl := 806) rfl (zb_upa d hd) (fun p e R s m args below meth c Q u hx hb hE hQ hU5 heff hnL hok hφ => ?_)
  have hw := hW.1
  obtain ⟨p0, p1, hps, k0, k1⟩ := zp_ps2 hok
  obtain ⟨a, rfl, hp⟩ := zp_this k0
  have hrm : zk_Kr (zk_ev (zt_types, zp_lkRd, zt_dv, [], [], zp_lcRd, zK_upa d)) = zk_Kr (zK_upa d) := rfl
  rw [hps] at hφ ⊢
  show zp_J p l e R s m args below meth c Q w u [] 0 [(0, 2, (a : Int)), (1, 0, p1)] [] u.1 (zp_n u.2.1)
  obtain ⟨hT, hd9, hu⟩ : zT u.1 a t x b cd (zp_n u.2.1) B ln tk nl C sz ord ∧ p1 = (d : Int) ∧ sz + uu ≤ 2 * zy_fr B ln tk + 72 := hφ
  subst hd9
  have hX := hT
  obtain ⟨⟨⟨pa, pt, px, pb, pc⟩, -, -, -⟩, -⟩ := hX
  have hT0 : zT u.1 a t x b cd (zp_n u.2.1) B ln tk nl C sz ord := hT
  have hX0 := hT0
  obtain ⟨⟨-, ga00, ga10, gx50⟩, hTt0, ⟨ga30, ga40, hnl0⟩, gx70, hsz0, hC0⟩ := hX0
  have hf0 := zTt_f hTt0
  refine zp_load (pc := 0) hx hb (zd_X5_part (0, .aload_n 0, 1, 0, []) (List.mem_of_getElem? (i := 0) rfl)) rfl (j := 0) rfl ?_
  refine zp_getf (n := (t : Int)) (pc := 1) hx hb hE hw (zd_X5_part (1, .getfield 24, 3, 0, []) (List.mem_of_getElem? (i := 1) rfl)) (j := 9) rfl rfl rfl hp ga00 ?_
  refine zp_const (pc := 4) hx hb (zd_X5_part (4, .bipush 91, 2, 0, []) (List.mem_of_getElem? (i := 2) rfl)) rfl rfl ?_
  refine zp_call (pc := 6) (how := 0) (idx := 53) (mi := 64) (S := []) hx hb hE hw heff hrm (zX_csi hW) rfl (j := 12) rfl rfl (zcb_upa_csi d hd) (zd_X5_part (6, .invokevirtual 53, 3, 0, []) (List.mem_of_getElem? (i := 3) rfl)) [(t : Int), 91] rfl ⟨zp_o2 pt, zp_o0 (by decide) (by decide) (by decide) (by decide), trivial⟩ (Nat.le_of_ble_eq_true rfl) trivial (fun al hal rng27 Pg27 Gg27 hextg27 hfrg27 hokg27 hcsg27 hpsig27 => ?_)
  obtain rfl := List.mem_singleton.mp hal
  have hrg27 := zp_int (hokg27 _ rfl).1
  obtain ⟨hPeg27, hGeg27, htg27⟩ := hpsig27
  rw [hPeg27, hGeg27]
  have hsg27 := zT_sg hTt0 (ch := 91) (by decide) htg27
  by_cases hkg27 : yr_s (zy_so B ln) (zy_wo B ln) 91 tk = true
  · obtain rfl : rng27 = 1 := hsg27.mpr hkg27
    refine zp_if (pc := 9) (tgt := 60) hx hb (zd_X5_part (9, .ifCond .eq 51, 3, 0, []) (List.mem_of_getElem? (i := 4) rfl)) rfl (fun (hc28 : 1 = 0) => ?_) (fun (hc28 : ¬ (1 = 0)) => ?_)
    · exfalso
      omega
    · refine zp_load (pc := 12) hx hb (zd_X5_part (12, .iload_n 1, 1, 0, []) (List.mem_of_getElem? (i := 5) rfl)) rfl (j := 1) rfl ?_
      refine zp_const (pc := 13) hx hb (zd_X5_part (13, .bipush 8, 2, 0, []) (List.mem_of_getElem? (i := 6) rfl)) rfl rfl ?_
      refine zp_icmp (pc := 15) (tgt := 20) hx hb (zd_X5_part (15, .if_icmp .lt 5, 3, 0, []) (List.mem_of_getElem? (i := 7) rfl)) rfl (fun (hc29 : (d : Int) < 8) => ?_) (fun (hc29 : ¬ ((d : Int) < 8)) => ?_)
      · refine zp_load (pc := 20) hx hb (zd_X5_part (20, .aload_n 0, 1, 0, []) (List.mem_of_getElem? (i := 10) rfl)) rfl (j := 0) rfl ?_
        refine zp_getf (n := (t : Int)) (pc := 21) hx hb hE hw (zd_X5_part (21, .getfield 24, 3, 0, []) (List.mem_of_getElem? (i := 11) rfl)) (j := 9) rfl rfl rfl hp ga00 ?_
        have hs90 := (zTt_go hTt0).2.1 (by rw [(yr_s_i.mp hkg27).1]; decide)
        refine zp_call (pc := 24) (how := 0) (idx := 60) (mi := 43) (S := []) hx hb hE hw heff hrm (zX_cnx hW) rfl (j := 6) rfl rfl (zcb_upa_cnx d hd) (zd_X5_part (24, .invokevirtual 60, 3, 0, []) (List.mem_of_getElem? (i := 12) rfl)) [(t : Int)] rfl ⟨zp_o2 pt, trivial⟩ (Nat.le_of_ble_eq_true rfl) (zTt_q hTt0) (fun al hal rnn30 Pn30 Gn30 hextn30 hfrn30 hokn30 hcsn30 hpsin30 => ?_)
        obtain rfl := List.mem_singleton.mp hal
        obtain ⟨rfl, htn30⟩ := hpsin30
        have hgon30 := zTt_go hTt0
        have hTn30 : zT u.1 a t x b cd Gn30 B ln (zy_to B ln tk) nl C sz ord := zT_nx hT0 hfrn30 htn30
        have hXn30 := hTn30
        obtain ⟨⟨-, ga0n30, ga1n30, gx5n30⟩, hTtn30, ⟨ga3n30, ga4n30, hnln30⟩, gx7n30, hszn30, hCn30⟩ := hXn30
        have hfn30 := zTt_f hTtn30
        refine zp_load (pc := 27) hx hb (zd_X5_part (27, .aload_n 0, 1, 0, []) (List.mem_of_getElem? (i := 13) rfl)) rfl (j := 0) rfl ?_
        refine zp_load (pc := 28) hx hb (zd_X5_part (28, .iload_n 1, 1, 0, []) (List.mem_of_getElem? (i := 14) rfl)) rfl (j := 1) rfl ?_
        refine zp_const (pc := 29) hx hb (zd_X5_part (29, .iconst 1, 1, 0, []) (List.mem_of_getElem? (i := 15) rfl)) rfl rfl ?_
        refine zp_add (n := ((d : Int) + 1)) (pc := 30) hx hb (zd_X5_part (30, .iadd, 1, 0, []) (List.mem_of_getElem? (i := 16) rfl)) (by omega) (zp_r0 (by omega) (by omega)) ?_
        refine zp_call (pc := 31) (how := 0) (idx := 126) (mi := 61) (S := []) hx hb hE hw heff hrm (ih (by omega) t x b cd B ln (zy_to B ln tk) nl C sz uu ord x0) rfl (j := 9) rfl rfl (zcb_upa_usuu d (by omega)) (zd_X5_part (31, .invokevirtual 126, 3, 0, []) (List.mem_of_getElem? (i := 17) rfl)) [(a : Int), ((d : Int) + 1)] rfl ⟨zp_o2 hp, zp_o0 (by omega) (by omega) (by omega) (by omega), trivial⟩ (Nat.le_of_ble_eq_true rfl) ⟨hTn30, by show ((d : Int) + 1) = ((d + 1 : Nat) : Int); omega, by omega⟩ (fun al hal rnr31 Pr31 Gr31 hextr31 hfrr31 hokr31 hcsr31 hpsir31 => ?_)
        obtain rfl := List.mem_singleton.mp hal
        have hrr31 := zp_int (hokr31 _ rfl).1
        obtain ⟨rfl, sr31, hsr31, htr31⟩ := hpsir31
        rcases sr31 with qr31 | ⟨pr31, nr31, yr31⟩
        · obtain ⟨hzr31, nlr31, Cr31, szr31, hTr31⟩ : rnr31 = 0 ∧ ∃ (nl' : Nat) (C' : Nat → Int) (sz' : Nat), zT u.1 a t x b cd Gr31 B ln qr31 nl' C' sz' ord := htr31
          subst hzr31
          refine zp_if (pc := 34) (tgt := 49) hx hb (zd_X5_part (34, .ifCond .eq 15, 3, 0, []) (List.mem_of_getElem? (i := 18) rfl)) rfl (fun (hc32 : 0 = 0) => ?_) (fun (hc32 : ¬ (0 = 0)) => ?_)
          · refine zp_const (pc := 49) hx hb (zd_X5_part (49, .iconst 0, 1, 0, []) (List.mem_of_getElem? (i := 24) rfl)) rfl rfl ?_
            refine zp_zret (pc := 50) (n := 0) hx hb hE hQ hU5 rfl (show (1 : Nat) ≠ 2 by decide) (zd_X5_part (50, .ireturn, 1, 0, []) (List.mem_of_getElem? (i := 25) rfl)) (j := 0) rfl (zp_o0 (by omega) (by omega) (by omega) (by omega)) ?_
            rw [hps]
            refine ⟨rfl, Sum.inl qr31, ?_, rfl, _, _, _, hTr31⟩
            exact yZ_sq hkg27 (by omega) (Or.inl ⟨_, rfl, hsr31⟩)
          · exfalso
            omega
        · obtain ⟨hzr31, hyr31, kr31, Cr31, szr31, hnr31, hTTr31, hHr31, hur31, hf9r31⟩ : rnr31 = 1 ∧ (_ → yd_T yr31) ∧ ∃ (k : Nat) (C' : Nat → Int) (sz' : Nat), nr31 = nl + k ∧ zT u.1 a t x b cd Gr31 B ln pr31 nr31 C' sz' ord ∧ yH ord sz C C' sz' k yr31 ∧ sz' + uu ≤ 2 * zy_fr B ln pr31 + 72 ∧ zy_fr B ln (zy_to B ln tk) + 1 ≤ zy_fr B ln pr31 := htr31
          subst hzr31
          obtain rfl : nr31 = nl + kr31 := by omega
          have hTr31 : zT u.1 a t x b cd Gr31 B ln pr31 (nl + kr31) Cr31 szr31 ord := hTTr31
          have hXr31 := hTr31
          obtain ⟨⟨-, ga0r31, ga1r31, gx5r31⟩, hTtr31, ⟨ga3r31, ga4r31, hnlr31⟩, gx7r31, hszr31, hCr31⟩ := hXr31
          have hfr31 := zTt_f hTtr31
          refine zp_if (pc := 34) (tgt := 49) hx hb (zd_X5_part (34, .ifCond .eq 15, 3, 0, []) (List.mem_of_getElem? (i := 18) rfl)) rfl (fun (hc33 : 1 = 0) => ?_) (fun (hc33 : ¬ (1 = 0)) => ?_)
          · exfalso
            omega
          · refine zp_load (pc := 37) hx hb (zd_X5_part (37, .aload_n 0, 1, 0, []) (List.mem_of_getElem? (i := 19) rfl)) rfl (j := 0) rfl ?_
            refine zp_getf (n := (t : Int)) (pc := 38) hx hb hE hw (zd_X5_part (38, .getfield 24, 3, 0, []) (List.mem_of_getElem? (i := 20) rfl)) (j := 9) rfl rfl rfl hp ga0r31 ?_
            refine zp_const (pc := 41) hx hb (zd_X5_part (41, .bipush 93, 2, 0, []) (List.mem_of_getElem? (i := 21) rfl)) rfl rfl ?_
            refine zp_call (pc := 43) (how := 0) (idx := 53) (mi := 64) (S := []) hx hb hE hw heff hrm (zX_csi hW) rfl (j := 12) rfl rfl (zcb_upa_csi d hd) (zd_X5_part (43, .invokevirtual 53, 3, 0, []) (List.mem_of_getElem? (i := 22) rfl)) [(t : Int), 93] rfl ⟨zp_o2 pt, zp_o0 (by decide) (by decide) (by decide) (by decide), trivial⟩ (Nat.le_of_ble_eq_true rfl) trivial (fun al hal rng34 Pg34 Gg34 hextg34 hfrg34 hokg34 hcsg34 hpsig34 => ?_)
            obtain rfl := List.mem_singleton.mp hal
            have hrg34 := zp_int (hokg34 _ rfl).1
            obtain ⟨hPeg34, hGeg34, htg34⟩ := hpsig34
            rw [hPeg34, hGeg34]
            have hsg34 := zT_sg hTtr31 (ch := 93) (by decide) htg34
            by_cases hkg34 : yr_s (zy_so B ln) (zy_wo B ln) 93 pr31 = true
            · obtain rfl : rng34 = 1 := hsg34.mpr hkg34
              refine zp_if (pc := 46) (tgt := 51) hx hb (zd_X5_part (46, .ifCond .ne 5, 3, 0, []) (List.mem_of_getElem? (i := 23) rfl)) rfl (fun (hc35 : ¬ 1 = 0) => ?_) (fun (hc35 : ¬ (¬ 1 = 0)) => ?_)
              · refine zp_load (pc := 51) hx hb (zd_X5_part (51, .aload_n 0, 1, 0, []) (List.mem_of_getElem? (i := 26) rfl)) rfl (j := 0) rfl ?_
                refine zp_getf (n := (t : Int)) (pc := 52) hx hb hE hw (zd_X5_part (52, .getfield 24, 3, 0, []) (List.mem_of_getElem? (i := 27) rfl)) (j := 9) rfl rfl rfl hp ga0r31 ?_
                have hs9r31 := (zTt_go hTtr31).2.1 (by rw [(yr_s_i.mp hkg34).1]; decide)
                refine zp_call (pc := 55) (how := 0) (idx := 60) (mi := 43) (S := []) hx hb hE hw heff hrm (zX_cnx hW) rfl (j := 6) rfl rfl (zcb_upa_cnx d hd) (zd_X5_part (55, .invokevirtual 60, 3, 0, []) (List.mem_of_getElem? (i := 28) rfl)) [(t : Int)] rfl ⟨zp_o2 pt, trivial⟩ (Nat.le_of_ble_eq_true rfl) (zTt_q hTtr31) (fun al hal rnn36 Pn36 Gn36 hextn36 hfrn36 hokn36 hcsn36 hpsin36 => ?_)
                obtain rfl := List.mem_singleton.mp hal
                obtain ⟨rfl, htn36⟩ := hpsin36
                have hgon36 := zTt_go hTtr31
                have hTn36 : zT u.1 a t x b cd Gn36 B ln (zy_to B ln pr31) (nl + kr31) Cr31 szr31 ord := zT_nx hTr31 hfrn36 htn36
                have hXn36 := hTn36
                obtain ⟨⟨-, ga0n36, ga1n36, gx5n36⟩, hTtn36, ⟨ga3n36, ga4n36, hnln36⟩, gx7n36, hszn36, hCn36⟩ := hXn36
                have hfn36 := zTt_f hTtn36
                refine zp_const (pc := 58) hx hb (zd_X5_part (58, .iconst 1, 1, 0, []) (List.mem_of_getElem? (i := 29) rfl)) rfl rfl ?_
                refine zp_zret (pc := 59) (n := 1) hx hb hE hQ hU5 rfl (show (1 : Nat) ≠ 2 by decide) (zd_X5_part (59, .ireturn, 1, 0, []) (List.mem_of_getElem? (i := 30) rfl)) (j := 0) rfl (zp_o0 (by omega) (by omega) (by omega) (by omega)) ?_
                rw [hps]
                refine ⟨rfl, Sum.inr ((zy_to B ln pr31), _, yr31), ?_, rfl, fun z => absurd z (by decide), kr31, Cr31, szr31, rfl, hTn36, hHr31, by omega, by omega⟩
                exact yZ_sq hkg27 (by omega) (Or.inr ⟨_, _, _, hsr31, (if_pos hkg34).symm⟩)
              · exfalso
                omega
            · have zg34 : ¬ rng34 = 1 := fun z => hkg34 (hsg34.mp z)
              obtain rfl : rng34 = 0 := by omega
              refine zp_if (pc := 46) (tgt := 51) hx hb (zd_X5_part (46, .ifCond .ne 5, 3, 0, []) (List.mem_of_getElem? (i := 23) rfl)) rfl (fun (hc37 : ¬ 0 = 0) => ?_) (fun (hc37 : ¬ (¬ 0 = 0)) => ?_)
              · exfalso
                omega
              · refine zp_const (pc := 49) hx hb (zd_X5_part (49, .iconst 0, 1, 0, []) (List.mem_of_getElem? (i := 24) rfl)) rfl rfl ?_
                refine zp_zret (pc := 50) (n := 0) hx hb hE hQ hU5 rfl (show (1 : Nat) ≠ 2 by decide) (zd_X5_part (50, .ireturn, 1, 0, []) (List.mem_of_getElem? (i := 25) rfl)) (j := 0) rfl (zp_o0 (by omega) (by omega) (by omega) (by omega)) ?_
                rw [hps]
                refine ⟨rfl, Sum.inl pr31, ?_, rfl, _, _, _, hTr31⟩
                exact yZ_sq hkg27 (by omega) (Or.inr ⟨_, _, _, hsr31, (if_neg hkg34).symm⟩)
      · refine zp_const (pc := 18) hx hb (zd_X5_part (18, .iconst 0, 1, 0, []) (List.mem_of_getElem? (i := 8) rfl)) rfl rfl ?_
        refine zp_zret (pc := 19) (n := 0) hx hb hE hQ hU5 rfl (show (1 : Nat) ≠ 2 by decide) (zd_X5_part (19, .ireturn, 1, 0, []) (List.mem_of_getElem? (i := 9) rfl)) (j := 0) rfl (zp_o0 (by omega) (by omega) (by omega) (by omega)) ?_
        rw [hps]
        refine ⟨rfl, Sum.inl tk, ?_, rfl, _, _, _, hT0⟩
        exact yZ_deep hkg27 (by omega)
  · have zg27 : ¬ rng27 = 1 := fun z => hkg27 (hsg27.mp z)
    obtain rfl : rng27 = 0 := by omega
    refine zp_if (pc := 9) (tgt := 60) hx hb (zd_X5_part (9, .ifCond .eq 51, 3, 0, []) (List.mem_of_getElem? (i := 4) rfl)) rfl (fun (hc38 : 0 = 0) => ?_) (fun (hc38 : ¬ (0 = 0)) => ?_)
    · have h91 := hkg27
      refine zp_load (pc := 60) hx hb (zd_X5_part (60, .aload_n 0, 1, 0, []) (List.mem_of_getElem? (i := 31) rfl)) rfl (j := 0) rfl ?_
      refine zp_getf (n := (nl : Int)) (pc := 61) hx hb hE hw (zd_X5_part (61, .getfield 32, 3, 0, []) (List.mem_of_getElem? (i := 32) rfl)) (j := 13) rfl rfl rfl hp ga40 ?_
      refine zp_const (pc := 64) hx hb (zd_X5_part (64, .bipush 50, 2, 0, []) (List.mem_of_getElem? (i := 33) rfl)) rfl rfl ?_
      refine zp_icmp (pc := 66) (tgt := 71) hx hb (zd_X5_part (66, .if_icmp .lt 5, 3, 0, []) (List.mem_of_getElem? (i := 34) rfl)) rfl (fun (hc39 : (nl : Int) < 50) => ?_) (fun (hc39 : ¬ ((nl : Int) < 50)) => ?_)
      · refine zp_load (pc := 71) hx hb (zd_X5_part (71, .aload_n 0, 1, 0, []) (List.mem_of_getElem? (i := 37) rfl)) rfl (j := 0) rfl ?_
        refine zp_dup (pc := 72) hx hb (zd_X5_part (72, .dup, 1, 0, []) (List.mem_of_getElem? (i := 38) rfl)) (show (2 : Nat) ≠ 1 by decide) ?_
        refine zp_getf (n := (nl : Int)) (pc := 73) hx hb hE hw (zd_X5_part (73, .getfield 32, 3, 0, []) (List.mem_of_getElem? (i := 39) rfl)) (j := 13) rfl rfl rfl hp ga40 ?_
        refine zp_const (pc := 76) hx hb (zd_X5_part (76, .iconst 1, 1, 0, []) (List.mem_of_getElem? (i := 40) rfl)) rfl rfl ?_
        refine zp_add (n := ((nl : Int) + 1)) (pc := 77) hx hb (zd_X5_part (77, .iadd, 1, 0, []) (List.mem_of_getElem? (i := 41) rfl)) (by omega) (zp_r0 (by omega) (by omega)) ?_
        refine zp_putf (pc := 78) hx hb hE hw heff (zd_X5_part (78, .putfield 32, 3, 0, []) (List.mem_of_getElem? (i := 42) rfl)) (j := 13) rfl rfl rfl hp (zp_o0 (by omega) (by omega) (by omega) (by omega)) ?_
        have hT1 : zT u.1 a t x b cd (zp_set (zp_n u.2.1) a 4 ((nl : Int) + 1)) B ln tk (nl + 1) C sz ord := zT_4 hT0 (by omega) (by omega)
        have hX1 := hT1
        obtain ⟨⟨-, ga01, ga11, gx51⟩, hTt1, ⟨ga31, ga41, hnl1⟩, gx71, hsz1, hC1⟩ := hX1
        have hf1 := zTt_f hTt1
        obtain ⟨so, hso⟩ : ∃ y : Nat, y = zy_so B ln tk := ⟨_, rfl⟩
        have c2 : (zp_set (zp_n u.2.1) a 4 ((nl : Int) + 1)) t 2 = (so : Int) := by
          rw [hso]
          exact hTt1.2.2.2.1
        have hgo1 := zTt_go hTt1
        refine zp_load (pc := 81) hx hb (zd_X5_part (81, .aload_n 0, 1, 0, []) (List.mem_of_getElem? (i := 43) rfl)) rfl (j := 0) rfl ?_
        refine zp_getf (n := (t : Int)) (pc := 82) hx hb hE hw (zd_X5_part (82, .getfield 24, 3, 0, []) (List.mem_of_getElem? (i := 44) rfl)) (j := 9) rfl rfl rfl hp ga01 ?_
        refine zp_getf (n := (so : Int)) (pc := 85) hx hb hE hw (zd_X5_part (85, .getfield 50, 3, 0, []) (List.mem_of_getElem? (i := 45) rfl)) (j := 0) rfl rfl rfl pt c2 ?_
        refine zp_const (pc := 88) hx hb (zd_X5_part (88, .iconst 2, 1, 0, []) (List.mem_of_getElem? (i := 46) rfl)) rfl rfl ?_
        refine zp_icmp (pc := 89) (tgt := 96) hx hb (zd_X5_part (89, .if_icmp .ne 7, 3, 0, []) (List.mem_of_getElem? (i := 47) rfl)) rfl (fun (hc40 : ¬ (so : Int) = 2) => ?_) (fun (hc40 : ¬ (¬ (so : Int) = 2)) => ?_)
        · cases ord with
          | false =>
            refine zp_const (pc := 96) hx hb (zd_X5_part (96, .iconst 2, 1, 0, []) (List.mem_of_getElem? (i := 50) rfl)) rfl rfl ?_
            refine zp_store (L' := [(2, 0, 2), (0, 2, (a : Int)), (1, 0, (d : Int))]) (pc := 97) hx hb hnL (zd_X5_part (97, .istore_n 2, 1, 0, []) (List.mem_of_getElem? (i := 51) rfl)) rfl rfl rfl ?_
            refine zp_load (pc := 98) hx hb (zd_X5_part (98, .iload_n 2, 1, 0, []) (List.mem_of_getElem? (i := 52) rfl)) rfl (j := 0) rfl ?_
            refine zp_const (pc := 99) hx hb (zd_X5_part (99, .iconst 1, 1, 0, []) (List.mem_of_getElem? (i := 53) rfl)) rfl rfl ?_
            refine zp_icmp (pc := 100) (tgt := 117) hx hb (zd_X5_part (100, .if_icmp .ne 17, 3, 0, []) (List.mem_of_getElem? (i := 54) rfl)) rfl (fun (hc41 : ¬ 2 = 1) => ?_) (fun (hc41 : ¬ (¬ 2 = 1)) => ?_)
            · refine zp_load (pc := 117) hx hb (zd_X5_part (117, .aload_n 0, 1, 0, []) (List.mem_of_getElem? (i := 61) rfl)) rfl (j := 1) rfl ?_
              refine zp_getf (n := (t : Int)) (pc := 118) hx hb hE hw (zd_X5_part (118, .getfield 24, 3, 0, []) (List.mem_of_getElem? (i := 62) rfl)) (j := 9) rfl rfl rfl hp ga01 ?_
              refine zp_load (pc := 121) hx hb (zd_X5_part (121, .aload_n 0, 1, 0, []) (List.mem_of_getElem? (i := 63) rfl)) rfl (j := 1) rfl ?_
              refine zp_getf (n := 0) (pc := 122) hx hb hE hw (zd_X5_part (122, .getfield 28, 3, 0, []) (List.mem_of_getElem? (i := 64) rfl)) (j := 12) rfl rfl rfl hp ga31 ?_
              refine zp_if (pc := 125) (tgt := 133) hx hb (zd_X5_part (125, .ifCond .eq 8, 3, 0, []) (List.mem_of_getElem? (i := 65) rfl)) rfl (fun (hc42 : 0 = 0) => ?_) (fun (hc42 : ¬ (0 = 0)) => ?_)
              · refine zp_ldS (pc := 133) hx hb hE (zd_X5_part (133, .ldc 163, 2, 0, []) (List.mem_of_getElem? (i := 68) rfl)) (j := 27) rfl (fun tx43 qtx43 => ?_)
                refine zp_call (pc := 135) (how := 0) (idx := 65) (mi := 46) (S := []) hx hb hE hw heff hrm (zX_vwlw hW b B ln tk) rfl (j := 4) rfl rfl (zcb_upa_vwlw d hd) (zd_X5_part (135, .invokevirtual 65, 3, 0, []) (List.mem_of_getElem? (i := 69) rfl)) [(t : Int), (tx43 : Int)] rfl ⟨zp_o2 pt, zp_o2 qtx43, trivial⟩ (Nat.le_of_ble_eq_true rfl) hTt1 (fun al hal rnv Pv Gv hextv hfrv hokv hcsv hpsiv => ?_)
                obtain rfl := List.mem_singleton.mp hal
                have hrv := zp_int (hokv _ rfl).1
                obtain ⟨hPev, hGev, htv⟩ := hpsiv
                rw [hPev, hGev]
                have hv9 := zv_lw hTt1 htv
                have hlw : ylw false B ln tk = if zy_so B ln tk = 1 then ych ywd 1 (zy_wo B ln tk) else -1 := by
                  unfold ylw
                  by_cases z : zy_so B ln tk = 1
                  · rw [if_pos z, if_pos z]
                    exact if_neg (by decide)
                  · rw [if_neg z, if_neg z]
                have hlr : ylw false B ln tk = if rnv = -1 then -1 else rnv + 1 := by
                  rw [hlw, hv9]
                  by_cases z : zy_so B ln tk = 1
                  · rw [if_pos z, if_pos z]
                    exact ych_s
                  · rw [if_neg z, if_neg z, if_pos rfl]
                have hlb := ylw_r false B ln tk
                refine zp_store (L' := [(3, 0, rnv), (2, 0, 2), (0, 2, (a : Int)), (1, 0, (d : Int))]) (pc := 138) hx hb hnL (zd_X5_part (138, .istore_n 3, 1, 0, []) (List.mem_of_getElem? (i := 70) rfl)) rfl rfl rfl ?_
                refine zp_load (pc := 139) hx hb (zd_X5_part (139, .iload_n 3, 1, 0, []) (List.mem_of_getElem? (i := 71) rfl)) rfl (j := 0) rfl ?_
                refine zp_const (pc := 140) hx hb (zd_X5_part (140, .iconst (-1), 1, 0, []) (List.mem_of_getElem? (i := 72) rfl)) rfl rfl ?_
                refine zp_icmp (pc := 141) (tgt := 146) hx hb (zd_X5_part (141, .if_icmp .ne 5, 3, 0, []) (List.mem_of_getElem? (i := 73) rfl)) rfl (fun (hc44 : ¬ rnv = (-1)) => ?_) (fun (hc44 : ¬ (¬ rnv = (-1))) => ?_)
                · refine zp_load (pc := 146) hx hb (zd_X5_part (146, .aload_n 0, 1, 0, []) (List.mem_of_getElem? (i := 76) rfl)) rfl (j := 2) rfl ?_
                  refine zp_getf (n := (t : Int)) (pc := 147) hx hb hE hw (zd_X5_part (147, .getfield 24, 3, 0, []) (List.mem_of_getElem? (i := 77) rfl)) (j := 9) rfl rfl rfl hp ga01 ?_
                  have hlr9 : ylw false B ln tk = rnv + 1 := hlr.trans (if_neg (by omega))
                  have hlb9 : 1 ≤ ylw false B ln tk ∧ ylw false B ln tk ≤ 9 ∧ zy_so B ln tk = 1 ∧ (false = true → ylw false B ln tk ≤ 7) := hlb.resolve_left (by omega)
                  have hso9 : zy_so B ln tk ≠ 0 := by omega
                  have hg9 := hgo1.2.1 hso9
                  refine zp_call (pc := 150) (how := 0) (idx := 60) (mi := 43) (S := []) hx hb hE hw heff hrm (zX_cnx hW) rfl (j := 6) rfl rfl (zcb_upa_cnx d hd) (zd_X5_part (150, .invokevirtual 60, 3, 0, []) (List.mem_of_getElem? (i := 78) rfl)) [(t : Int)] rfl ⟨zp_o2 pt, trivial⟩ (Nat.le_of_ble_eq_true rfl) (zTt_q hTt1) (fun al hal rnn45 Pn45 Gn45 hextn45 hfrn45 hokn45 hcsn45 hpsin45 => ?_)
                  obtain rfl := List.mem_singleton.mp hal
                  obtain ⟨rfl, htn45⟩ := hpsin45
                  have hgon45 := zTt_go hTt1
                  have hTn45 : zT u.1 a t x b cd Gn45 B ln (zy_to B ln tk) (nl + 1) C sz false := zT_nx hT1 hfrn45 htn45
                  have hXn45 := hTn45
                  obtain ⟨⟨-, ga0n45, ga1n45, gx5n45⟩, hTtn45, ⟨ga3n45, ga4n45, hnln45⟩, gx7n45, hszn45, hCn45⟩ := hXn45
                  have hfn45 := zTt_f hTtn45
                  refine zp_load (pc := 153) hx hb (zd_X5_part (153, .aload_n 0, 1, 0, []) (List.mem_of_getElem? (i := 79) rfl)) rfl (j := 2) rfl ?_
                  refine zp_getf (n := 0) (pc := 154) hx hb hE hw (zd_X5_part (154, .getfield 28, 3, 0, []) (List.mem_of_getElem? (i := 80) rfl)) (j := 12) rfl rfl rfl hp ga3n45 ?_
                  refine zp_if (pc := 157) (tgt := 233) hx hb (zd_X5_part (157, .ifCond .eq 76, 3, 0, []) (List.mem_of_getElem? (i := 81) rfl)) rfl (fun (hc46 : 0 = 0) => ?_) (fun (hc46 : ¬ (0 = 0)) => ?_)
                  · refine zp_load (pc := 233) hx hb (zd_X5_part (233, .aload_n 0, 1, 0, []) (List.mem_of_getElem? (i := 121) rfl)) rfl (j := 2) rfl ?_
                    refine zp_getf (n := (x : Int)) (pc := 234) hx hb hE hw (zd_X5_part (234, .getfield 16, 3, 0, []) (List.mem_of_getElem? (i := 122) rfl)) (j := 10) rfl rfl rfl hp ga1n45 ?_
                    refine zp_load (pc := 237) hx hb (zd_X5_part (237, .iload_n 2, 1, 0, []) (List.mem_of_getElem? (i := 123) rfl)) rfl (j := 1) rfl ?_
                    refine zp_load (pc := 238) hx hb (zd_X5_part (238, .iload_n 3, 1, 0, []) (List.mem_of_getElem? (i := 124) rfl)) rfl (j := 0) rfl ?_
                    refine zp_call (pc := 239) (how := 0) (idx := 123) (mi := 66) (S := []) hx hb hE hw heff hrm (zX_vad hW cd sz C) rfl (j := 14) rfl rfl (zcb_upa_vad d hd) (zd_X5_part (239, .invokevirtual 123, 3, 0, []) (List.mem_of_getElem? (i := 125) rfl)) [(x : Int), 2, rnv] rfl ⟨zp_o2 px, zp_o0 (by decide) (by decide) (by decide) (by decide), zp_o0 (by omega) (by omega) (by omega) (by omega), trivial⟩ (Nat.le_of_ble_eq_true rfl) ⟨⟨gx7n45, by omega⟩, gx5n45, pc, hCn45⟩ (fun al hal rna47 Pa47 Ga47 hexta47 hfra47 hoka47 hcsa47 hpsia47 => ?_)
                    obtain rfl := List.mem_singleton.mp hal
                    have hra47 := zp_int (hoka47 _ rfl).1
                    obtain ⟨rfl, htra47, ht7a47, htca47⟩ := hpsia47
                    have hTa47 : zT u.1 a t x b cd Ga47 B ln (zy_to B ln tk) (nl + 1) (yh C sz 2 rnv) (sz + 2) false := zT_ad hTn45 hfra47 ht7a47 (by omega) htca47
                    have hXa47 := hTa47
                    obtain ⟨⟨-, ga0a47, ga1a47, gx5a47⟩, hTta47, ⟨ga3a47, ga4a47, hnla47⟩, gx7a47, hsza47, hCa47⟩ := hXa47
                    have hfa47 := zTt_f hTta47
                    refine zp_pop (pc := 242) hx hb (zd_X5_part (242, .pop, 1, 0, []) (List.mem_of_getElem? (i := 126) rfl)) (show (0 : Nat) ≠ 1 by decide) ?_
                    refine zp_const (pc := 243) hx hb (zd_X5_part (243, .iconst 1, 1, 0, []) (List.mem_of_getElem? (i := 127) rfl)) rfl rfl ?_
                    refine zp_zret (pc := 244) (n := 1) hx hb hE hQ hU5 rfl (show (1 : Nat) ≠ 2 by decide) (zd_X5_part (244, .ireturn, 1, 0, []) (List.mem_of_getElem? (i := 128) rfl)) (j := 0) rfl (zp_o0 (by omega) (by omega) (by omega) (by omega)) ?_
                    rw [hps]
                    refine ⟨rfl, Sum.inr (zy_to B ln tk, nl + 1, yd_lf (ylw false B ln tk) 0), ?_, rfl, fun z => absurd z (by decide), 1, yh C sz 2 rnv, sz + 2, rfl, hTa47, ?_, by omega, by omega⟩
                    · refine yZ_lf h91 (by omega) ?_
                      unfold ylf
                      rw [if_neg (by omega), if_neg (fun z => absurd z.1 (by decide))]
                    · have h9 := yH_lf (w := false) (C := C) (e := sz) (s := 2) (v := rnv) (Or.inr ⟨rfl, by omega, by show rnv < 9; omega⟩)
                      have e1 : yl_o false 2 rnv = ylw false B ln tk := by
                        unfold yl_o
                        rw [if_neg (by decide), if_neg (fun z => absurd z.1 (by decide)), if_neg (fun z => absurd z.1 (by decide)), hlr9]
                      have e2 : yl_a false 2 rnv = 0 := by
                        unfold yl_a
                        rw [if_neg (by decide), if_neg (fun z => absurd z.1 (by decide)), if_neg (fun z => absurd z.1 (by decide))]
                      rw [e1, e2] at h9
                      exact h9
                  · exfalso
                    omega
                · refine zp_const (pc := 144) hx hb (zd_X5_part (144, .iconst 0, 1, 0, []) (List.mem_of_getElem? (i := 74) rfl)) rfl rfl ?_
                  refine zp_zret (pc := 145) (n := 0) hx hb hE hQ hU5 rfl (show (1 : Nat) ≠ 2 by decide) (zd_X5_part (145, .ireturn, 1, 0, []) (List.mem_of_getElem? (i := 75) rfl)) (j := 0) rfl (zp_o0 (by omega) (by omega) (by omega) (by omega)) ?_
                  rw [hps]
                  refine ⟨rfl, Sum.inl tk, ?_, rfl, _, _, _, hT1⟩
                  refine yZ_lf0 h91 (by omega) ?_
                  unfold ylf
                  rw [if_pos (by rw [hlr]; exact if_pos (by omega)), if_neg (fun z => by omega)]
              · exfalso
                omega
            · exfalso
              omega
          | true =>
            refine zp_const (pc := 96) hx hb (zd_X5_part (96, .iconst 2, 1, 0, []) (List.mem_of_getElem? (i := 50) rfl)) rfl rfl ?_
            refine zp_store (L' := [(2, 0, 2), (0, 2, (a : Int)), (1, 0, (d : Int))]) (pc := 97) hx hb hnL (zd_X5_part (97, .istore_n 2, 1, 0, []) (List.mem_of_getElem? (i := 51) rfl)) rfl rfl rfl ?_
            refine zp_load (pc := 98) hx hb (zd_X5_part (98, .iload_n 2, 1, 0, []) (List.mem_of_getElem? (i := 52) rfl)) rfl (j := 0) rfl ?_
            refine zp_const (pc := 99) hx hb (zd_X5_part (99, .iconst 1, 1, 0, []) (List.mem_of_getElem? (i := 53) rfl)) rfl rfl ?_
            refine zp_icmp (pc := 100) (tgt := 117) hx hb (zd_X5_part (100, .if_icmp .ne 17, 3, 0, []) (List.mem_of_getElem? (i := 54) rfl)) rfl (fun (hc48 : ¬ 2 = 1) => ?_) (fun (hc48 : ¬ (¬ 2 = 1)) => ?_)
            · refine zp_load (pc := 117) hx hb (zd_X5_part (117, .aload_n 0, 1, 0, []) (List.mem_of_getElem? (i := 61) rfl)) rfl (j := 1) rfl ?_
              refine zp_getf (n := (t : Int)) (pc := 118) hx hb hE hw (zd_X5_part (118, .getfield 24, 3, 0, []) (List.mem_of_getElem? (i := 62) rfl)) (j := 9) rfl rfl rfl hp ga01 ?_
              refine zp_load (pc := 121) hx hb (zd_X5_part (121, .aload_n 0, 1, 0, []) (List.mem_of_getElem? (i := 63) rfl)) rfl (j := 1) rfl ?_
              refine zp_getf (n := 1) (pc := 122) hx hb hE hw (zd_X5_part (122, .getfield 28, 3, 0, []) (List.mem_of_getElem? (i := 64) rfl)) (j := 12) rfl rfl rfl hp ga31 ?_
              refine zp_if (pc := 125) (tgt := 133) hx hb (zd_X5_part (125, .ifCond .eq 8, 3, 0, []) (List.mem_of_getElem? (i := 65) rfl)) rfl (fun (hc49 : 1 = 0) => ?_) (fun (hc49 : ¬ (1 = 0)) => ?_)
              · exfalso
                omega
              · refine zp_ldS (pc := 128) hx hb hE (zd_X5_part (128, .ldc 161, 2, 0, []) (List.mem_of_getElem? (i := 66) rfl)) (j := 26) rfl (fun tx50 qtx50 => ?_)
                refine zp_goto (tgt := 135) (pc := 130) hx hb (zd_X5_part (130, .goto 5, 3, 0, []) (List.mem_of_getElem? (i := 67) rfl)) rfl ?_
                refine zp_call (pc := 135) (how := 0) (idx := 65) (mi := 46) (S := []) hx hb hE hw heff hrm (zX_vwow hW b B ln tk) rfl (j := 4) rfl rfl (zcb_upa_vwow d hd) (zd_X5_part (135, .invokevirtual 65, 3, 0, []) (List.mem_of_getElem? (i := 69) rfl)) [(t : Int), (tx50 : Int)] rfl ⟨zp_o2 pt, zp_o2 qtx50, trivial⟩ (Nat.le_of_ble_eq_true rfl) hTt1 (fun al hal rnv Pv Gv hextv hfrv hokv hcsv hpsiv => ?_)
                obtain rfl := List.mem_singleton.mp hal
                have hrv := zp_int (hokv _ rfl).1
                obtain ⟨hPev, hGev, htv⟩ := hpsiv
                rw [hPev, hGev]
                have hv9 := zv_ow hTt1 htv
                have hlw : ylw true B ln tk = if zy_so B ln tk = 1 then ych ywo 1 (zy_wo B ln tk) else -1 := by
                  unfold ylw
                  by_cases z : zy_so B ln tk = 1
                  · rw [if_pos z, if_pos z]
                    exact if_pos rfl
                  · rw [if_neg z, if_neg z]
                have hlr : ylw true B ln tk = if rnv = -1 then -1 else rnv + 1 := by
                  rw [hlw, hv9]
                  by_cases z : zy_so B ln tk = 1
                  · rw [if_pos z, if_pos z]
                    exact ych_s
                  · rw [if_neg z, if_neg z, if_pos rfl]
                have hlb := ylw_r true B ln tk
                refine zp_store (L' := [(3, 0, rnv), (2, 0, 2), (0, 2, (a : Int)), (1, 0, (d : Int))]) (pc := 138) hx hb hnL (zd_X5_part (138, .istore_n 3, 1, 0, []) (List.mem_of_getElem? (i := 70) rfl)) rfl rfl rfl ?_
                refine zp_load (pc := 139) hx hb (zd_X5_part (139, .iload_n 3, 1, 0, []) (List.mem_of_getElem? (i := 71) rfl)) rfl (j := 0) rfl ?_
                refine zp_const (pc := 140) hx hb (zd_X5_part (140, .iconst (-1), 1, 0, []) (List.mem_of_getElem? (i := 72) rfl)) rfl rfl ?_
                refine zp_icmp (pc := 141) (tgt := 146) hx hb (zd_X5_part (141, .if_icmp .ne 5, 3, 0, []) (List.mem_of_getElem? (i := 73) rfl)) rfl (fun (hc51 : ¬ rnv = (-1)) => ?_) (fun (hc51 : ¬ (¬ rnv = (-1))) => ?_)
                · refine zp_load (pc := 146) hx hb (zd_X5_part (146, .aload_n 0, 1, 0, []) (List.mem_of_getElem? (i := 76) rfl)) rfl (j := 2) rfl ?_
                  refine zp_getf (n := (t : Int)) (pc := 147) hx hb hE hw (zd_X5_part (147, .getfield 24, 3, 0, []) (List.mem_of_getElem? (i := 77) rfl)) (j := 9) rfl rfl rfl hp ga01 ?_
                  have hlr9 : ylw true B ln tk = rnv + 1 := hlr.trans (if_neg (by omega))
                  have hlb9 : 1 ≤ ylw true B ln tk ∧ ylw true B ln tk ≤ 9 ∧ zy_so B ln tk = 1 ∧ (true = true → ylw true B ln tk ≤ 7) := hlb.resolve_left (by omega)
                  have hso9 : zy_so B ln tk ≠ 0 := by omega
                  have hg9 := hgo1.2.1 hso9
                  have hl7 := hlb9.2.2.2 rfl
                  refine zp_call (pc := 150) (how := 0) (idx := 60) (mi := 43) (S := []) hx hb hE hw heff hrm (zX_cnx hW) rfl (j := 6) rfl rfl (zcb_upa_cnx d hd) (zd_X5_part (150, .invokevirtual 60, 3, 0, []) (List.mem_of_getElem? (i := 78) rfl)) [(t : Int)] rfl ⟨zp_o2 pt, trivial⟩ (Nat.le_of_ble_eq_true rfl) (zTt_q hTt1) (fun al hal rnn52 Pn52 Gn52 hextn52 hfrn52 hokn52 hcsn52 hpsin52 => ?_)
                  obtain rfl := List.mem_singleton.mp hal
                  obtain ⟨rfl, htn52⟩ := hpsin52
                  have hgon52 := zTt_go hTt1
                  have hTn52 : zT u.1 a t x b cd Gn52 B ln (zy_to B ln tk) (nl + 1) C sz true := zT_nx hT1 hfrn52 htn52
                  have hXn52 := hTn52
                  obtain ⟨⟨-, ga0n52, ga1n52, gx5n52⟩, hTtn52, ⟨ga3n52, ga4n52, hnln52⟩, gx7n52, hszn52, hCn52⟩ := hXn52
                  have hfn52 := zTt_f hTtn52
                  refine zp_load (pc := 153) hx hb (zd_X5_part (153, .aload_n 0, 1, 0, []) (List.mem_of_getElem? (i := 79) rfl)) rfl (j := 2) rfl ?_
                  refine zp_getf (n := 1) (pc := 154) hx hb hE hw (zd_X5_part (154, .getfield 28, 3, 0, []) (List.mem_of_getElem? (i := 80) rfl)) (j := 12) rfl rfl rfl hp ga3n52 ?_
                  refine zp_if (pc := 157) (tgt := 233) hx hb (zd_X5_part (157, .ifCond .eq 76, 3, 0, []) (List.mem_of_getElem? (i := 81) rfl)) rfl (fun (hc53 : 1 = 0) => ?_) (fun (hc53 : ¬ (1 = 0)) => ?_)
                  · exfalso
                    omega
                  · refine zp_load (pc := 160) hx hb (zd_X5_part (160, .iload_n 2, 1, 0, []) (List.mem_of_getElem? (i := 82) rfl)) rfl (j := 1) rfl ?_
                    refine zp_const (pc := 161) hx hb (zd_X5_part (161, .iconst 2, 1, 0, []) (List.mem_of_getElem? (i := 83) rfl)) rfl rfl ?_
                    refine zp_icmp (pc := 162) (tgt := 233) hx hb (zd_X5_part (162, .if_icmp .ne 71, 3, 0, []) (List.mem_of_getElem? (i := 84) rfl)) rfl (fun (hc54 : ¬ 2 = 2) => ?_) (fun (hc54 : ¬ (¬ 2 = 2)) => ?_)
                    · exfalso
                      omega
                    · refine zp_load (pc := 165) hx hb (zd_X5_part (165, .iload_n 3, 1, 0, []) (List.mem_of_getElem? (i := 85) rfl)) rfl (j := 0) rfl ?_
                      refine zp_const (pc := 166) hx hb (zd_X5_part (166, .iconst 5, 1, 0, []) (List.mem_of_getElem? (i := 86) rfl)) rfl rfl ?_
                      refine zp_icmp (pc := 167) (tgt := 233) hx hb (zd_X5_part (167, .if_icmp .lt 66, 3, 0, []) (List.mem_of_getElem? (i := 87) rfl)) rfl (fun (hc55 : rnv < 5) => ?_) (fun (hc55 : ¬ (rnv < 5)) => ?_)
                      · refine zp_load (pc := 233) hx hb (zd_X5_part (233, .aload_n 0, 1, 0, []) (List.mem_of_getElem? (i := 121) rfl)) rfl (j := 2) rfl ?_
                        refine zp_getf (n := (x : Int)) (pc := 234) hx hb hE hw (zd_X5_part (234, .getfield 16, 3, 0, []) (List.mem_of_getElem? (i := 122) rfl)) (j := 10) rfl rfl rfl hp ga1n52 ?_
                        refine zp_load (pc := 237) hx hb (zd_X5_part (237, .iload_n 2, 1, 0, []) (List.mem_of_getElem? (i := 123) rfl)) rfl (j := 1) rfl ?_
                        refine zp_load (pc := 238) hx hb (zd_X5_part (238, .iload_n 3, 1, 0, []) (List.mem_of_getElem? (i := 124) rfl)) rfl (j := 0) rfl ?_
                        refine zp_call (pc := 239) (how := 0) (idx := 123) (mi := 66) (S := []) hx hb hE hw heff hrm (zX_vad hW cd sz C) rfl (j := 14) rfl rfl (zcb_upa_vad d hd) (zd_X5_part (239, .invokevirtual 123, 3, 0, []) (List.mem_of_getElem? (i := 125) rfl)) [(x : Int), 2, rnv] rfl ⟨zp_o2 px, zp_o0 (by decide) (by decide) (by decide) (by decide), zp_o0 (by omega) (by omega) (by omega) (by omega), trivial⟩ (Nat.le_of_ble_eq_true rfl) ⟨⟨gx7n52, by omega⟩, gx5n52, pc, hCn52⟩ (fun al hal rna56 Pa56 Ga56 hexta56 hfra56 hoka56 hcsa56 hpsia56 => ?_)
                        obtain rfl := List.mem_singleton.mp hal
                        have hra56 := zp_int (hoka56 _ rfl).1
                        obtain ⟨rfl, htra56, ht7a56, htca56⟩ := hpsia56
                        have hTa56 : zT u.1 a t x b cd Ga56 B ln (zy_to B ln tk) (nl + 1) (yh C sz 2 rnv) (sz + 2) true := zT_ad hTn52 hfra56 ht7a56 (by omega) htca56
                        have hXa56 := hTa56
                        obtain ⟨⟨-, ga0a56, ga1a56, gx5a56⟩, hTta56, ⟨ga3a56, ga4a56, hnla56⟩, gx7a56, hsza56, hCa56⟩ := hXa56
                        have hfa56 := zTt_f hTta56
                        refine zp_pop (pc := 242) hx hb (zd_X5_part (242, .pop, 1, 0, []) (List.mem_of_getElem? (i := 126) rfl)) (show (0 : Nat) ≠ 1 by decide) ?_
                        refine zp_const (pc := 243) hx hb (zd_X5_part (243, .iconst 1, 1, 0, []) (List.mem_of_getElem? (i := 127) rfl)) rfl rfl ?_
                        refine zp_zret (pc := 244) (n := 1) hx hb hE hQ hU5 rfl (show (1 : Nat) ≠ 2 by decide) (zd_X5_part (244, .ireturn, 1, 0, []) (List.mem_of_getElem? (i := 128) rfl)) (j := 0) rfl (zp_o0 (by omega) (by omega) (by omega) (by omega)) ?_
                        rw [hps]
                        refine ⟨rfl, Sum.inr (zy_to B ln tk, nl + 1, yd_lf (ylw true B ln tk) 0), ?_, rfl, fun z => absurd z (by decide), 1, yh C sz 2 rnv, sz + 2, rfl, hTa56, ?_, by omega, by omega⟩
                        · refine yZ_lf h91 (by omega) ?_
                          unfold ylf
                          rw [if_neg (by omega), if_neg (fun z => by omega)]
                        · have h9 := yH_lf (w := true) (C := C) (e := sz) (s := 2) (v := rnv) (Or.inr ⟨rfl, by omega, by show rnv < 21; omega⟩)
                          have e1 : yl_o true 2 rnv = ylw true B ln tk := by
                            unfold yl_o
                            rw [if_neg (by decide), if_neg (fun z => by omega), if_neg (fun z => by omega), hlr9]
                          have e2 : yl_a true 2 rnv = 0 := by
                            unfold yl_a
                            rw [if_neg (by decide), if_neg (fun z => by omega), if_neg (fun z => by omega)]
                          rw [e1, e2] at h9
                          exact h9
                      · refine zp_load (pc := 170) hx hb (zd_X5_part (170, .iload_n 3, 1, 0, []) (List.mem_of_getElem? (i := 88) rfl)) rfl (j := 0) rfl ?_
                        refine zp_const (pc := 171) hx hb (zd_X5_part (171, .iconst 5, 1, 0, []) (List.mem_of_getElem? (i := 89) rfl)) rfl rfl ?_
                        refine zp_icmp (pc := 172) (tgt := 179) hx hb (zd_X5_part (172, .if_icmp .ne 7, 3, 0, []) (List.mem_of_getElem? (i := 90) rfl)) rfl (fun (hc57 : ¬ rnv = 5) => ?_) (fun (hc57 : ¬ (¬ rnv = 5)) => ?_)
                        · refine zp_const (pc := 179) hx hb (zd_X5_part (179, .iconst 0, 1, 0, []) (List.mem_of_getElem? (i := 93) rfl)) rfl rfl ?_
                          refine zp_store (L' := [(4, 0, 0), (3, 0, rnv), (2, 0, 2), (0, 2, (a : Int)), (1, 0, (d : Int))]) (pc := 180) hx hb hnL (zd_X5_part (180, .istore 4, 2, 0, []) (List.mem_of_getElem? (i := 94) rfl)) rfl rfl rfl ?_
                          refine zp_load (pc := 182) hx hb (zd_X5_part (182, .aload_n 0, 1, 0, []) (List.mem_of_getElem? (i := 95) rfl)) rfl (j := 3) rfl ?_
                          refine zp_getf (n := (t : Int)) (pc := 183) hx hb hE hw (zd_X5_part (183, .getfield 24, 3, 0, []) (List.mem_of_getElem? (i := 96) rfl)) (j := 9) rfl rfl rfl hp ga0n52 ?_
                          refine zp_const (pc := 186) hx hb (zd_X5_part (186, .iconst 0, 1, 0, []) (List.mem_of_getElem? (i := 97) rfl)) rfl rfl ?_
                          refine zp_load (pc := 187) hx hb (zd_X5_part (187, .iload 4, 2, 0, []) (List.mem_of_getElem? (i := 98) rfl)) rfl (j := 0) rfl ?_
                          refine zp_if (pc := 189) (tgt := 196) hx hb (zd_X5_part (189, .ifCond .eq 7, 3, 0, []) (List.mem_of_getElem? (i := 99) rfl)) rfl (fun (hc58 : 0 = 0) => ?_) (fun (hc58 : ¬ (0 = 0)) => ?_)
                          · refine zp_const (pc := 196) hx hb (zd_X5_part (196, .bipush 9, 2, 0, []) (List.mem_of_getElem? (i := 102) rfl)) rfl rfl ?_
                            refine zp_call (pc := 198) (how := 0) (idx := 102) (mi := 65) (S := []) hx hb hE hw heff hrm (zX_vnw hW b B ln (zy_to B ln tk)) rfl (j := 13) rfl rfl (zcb_upa_vnw d hd) (zd_X5_part (198, .invokevirtual 102, 3, 0, []) (List.mem_of_getElem? (i := 103) rfl)) [(t : Int), 0, 9] rfl ⟨zp_o2 pt, zp_o0 (by decide) (by decide) (by decide) (by decide), zp_o0 (by decide) (by decide) (by decide) (by decide), trivial⟩ (Nat.le_of_ble_eq_true rfl) hTtn52 (fun al hal rnk9 Pk9 Gk9 hextk9 hfrk9 hokk9 hcsk9 hpsik9 => ?_)
                            obtain rfl := List.mem_singleton.mp hal
                            have hrk9 := zp_int (hokk9 _ rfl).1
                            obtain ⟨hPek9, hGek9, htk9⟩ := hpsik9
                            rw [hPek9, hGek9]
                            have htk : rnk9 = if zy_so B ln (zy_to B ln tk) = 2 ∧ 0 ≤ zy_wo B ln (zy_to B ln tk) ∧ zy_wo B ln (zy_to B ln tk) ≤ 9 then zy_wo B ln (zy_to B ln tk) else -1 := htk9
                            refine zp_store (L' := [(5, 0, rnk9), (4, 0, 0), (3, 0, rnv), (2, 0, 2), (0, 2, (a : Int)), (1, 0, (d : Int))]) (pc := 201) hx hb hnL (zd_X5_part (201, .istore 5, 2, 0, []) (List.mem_of_getElem? (i := 104) rfl)) rfl rfl rfl ?_
                            refine zp_load (pc := 203) hx hb (zd_X5_part (203, .iload 5, 2, 0, []) (List.mem_of_getElem? (i := 105) rfl)) rfl (j := 0) rfl ?_
                            refine zp_const (pc := 205) hx hb (zd_X5_part (205, .iconst (-1), 1, 0, []) (List.mem_of_getElem? (i := 106) rfl)) rfl rfl ?_
                            refine zp_icmp (pc := 206) (tgt := 211) hx hb (zd_X5_part (206, .if_icmp .ne 5, 3, 0, []) (List.mem_of_getElem? (i := 107) rfl)) rfl (fun (hc59 : ¬ rnk9 = (-1)) => ?_) (fun (hc59 : ¬ (¬ rnk9 = (-1))) => ?_)
                            · refine zp_load (pc := 211) hx hb (zd_X5_part (211, .aload_n 0, 1, 0, []) (List.mem_of_getElem? (i := 110) rfl)) rfl (j := 4) rfl ?_
                              refine zp_getf (n := (t : Int)) (pc := 212) hx hb hE hw (zd_X5_part (212, .getfield 24, 3, 0, []) (List.mem_of_getElem? (i := 111) rfl)) (j := 9) rfl rfl rfl hp ga0n52 ?_
                              have hk3 : zy_so B ln (zy_to B ln tk) = 2 ∧ 0 ≤ zy_wo B ln (zy_to B ln tk) ∧ zy_wo B ln (zy_to B ln tk) ≤ 9 := by
                                by_cases z : zy_so B ln (zy_to B ln tk) = 2 ∧ 0 ≤ zy_wo B ln (zy_to B ln tk) ∧ zy_wo B ln (zy_to B ln tk) ≤ 9
                                · exact z
                                · rw [if_neg z] at htk
                                  omega
                              rw [if_pos hk3] at htk
                              have hw2 := hk3.2.1
                              have hg8 := (zTt_go hTtn52).1
                              refine zp_call (pc := 215) (how := 0) (idx := 60) (mi := 43) (S := []) hx hb hE hw heff hrm (zX_cnx hW) rfl (j := 6) rfl rfl (zcb_upa_cnx d hd) (zd_X5_part (215, .invokevirtual 60, 3, 0, []) (List.mem_of_getElem? (i := 112) rfl)) [(t : Int)] rfl ⟨zp_o2 pt, trivial⟩ (Nat.le_of_ble_eq_true rfl) (zTt_q hTtn52) (fun al hal rnn60 Pn60 Gn60 hextn60 hfrn60 hokn60 hcsn60 hpsin60 => ?_)
                              obtain rfl := List.mem_singleton.mp hal
                              obtain ⟨rfl, htn60⟩ := hpsin60
                              have hgon60 := zTt_go hTtn52
                              have hTn60 : zT u.1 a t x b cd Gn60 B ln (zy_to B ln (zy_to B ln tk)) (nl + 1) C sz true := zT_nx hTn52 hfrn60 htn60
                              have hXn60 := hTn60
                              obtain ⟨⟨-, ga0n60, ga1n60, gx5n60⟩, hTtn60, ⟨ga3n60, ga4n60, hnln60⟩, gx7n60, hszn60, hCn60⟩ := hXn60
                              have hfn60 := zTt_f hTtn60
                              refine zp_load (pc := 218) hx hb (zd_X5_part (218, .iload 4, 2, 0, []) (List.mem_of_getElem? (i := 113) rfl)) rfl (j := 1) rfl ?_
                              refine zp_if (pc := 220) (tgt := 227) hx hb (zd_X5_part (220, .ifCond .eq 7, 3, 0, []) (List.mem_of_getElem? (i := 114) rfl)) rfl (fun (hc61 : 0 = 0) => ?_) (fun (hc61 : ¬ (0 = 0)) => ?_)
                              · refine zp_const (pc := 227) hx hb (zd_X5_part (227, .bipush 11, 2, 0, []) (List.mem_of_getElem? (i := 117) rfl)) rfl rfl ?_
                                refine zp_load (pc := 229) hx hb (zd_X5_part (229, .iload 5, 2, 0, []) (List.mem_of_getElem? (i := 118) rfl)) rfl (j := 0) rfl ?_
                                refine zp_add (n := (11 + rnk9)) (pc := 231) hx hb (zd_X5_part (231, .iadd, 1, 0, []) (List.mem_of_getElem? (i := 119) rfl)) (by omega) (zp_r0 (by omega) (by omega)) ?_
                                refine zp_store (L' := [(3, 0, (11 + rnk9)), (5, 0, rnk9), (4, 0, 0), (2, 0, 2), (0, 2, (a : Int)), (1, 0, (d : Int))]) (pc := 232) hx hb hnL (zd_X5_part (232, .istore_n 3, 1, 0, []) (List.mem_of_getElem? (i := 120) rfl)) rfl rfl rfl ?_
                                refine zp_load (pc := 233) hx hb (zd_X5_part (233, .aload_n 0, 1, 0, []) (List.mem_of_getElem? (i := 121) rfl)) rfl (j := 4) rfl ?_
                                refine zp_getf (n := (x : Int)) (pc := 234) hx hb hE hw (zd_X5_part (234, .getfield 16, 3, 0, []) (List.mem_of_getElem? (i := 122) rfl)) (j := 10) rfl rfl rfl hp ga1n60 ?_
                                refine zp_load (pc := 237) hx hb (zd_X5_part (237, .iload_n 2, 1, 0, []) (List.mem_of_getElem? (i := 123) rfl)) rfl (j := 3) rfl ?_
                                refine zp_load (pc := 238) hx hb (zd_X5_part (238, .iload_n 3, 1, 0, []) (List.mem_of_getElem? (i := 124) rfl)) rfl (j := 0) rfl ?_
                                refine zp_call (pc := 239) (how := 0) (idx := 123) (mi := 66) (S := []) hx hb hE hw heff hrm (zX_vad hW cd sz C) rfl (j := 14) rfl rfl (zcb_upa_vad d hd) (zd_X5_part (239, .invokevirtual 123, 3, 0, []) (List.mem_of_getElem? (i := 125) rfl)) [(x : Int), 2, (11 + rnk9)] rfl ⟨zp_o2 px, zp_o0 (by decide) (by decide) (by decide) (by decide), zp_o0 (by omega) (by omega) (by omega) (by omega), trivial⟩ (Nat.le_of_ble_eq_true rfl) ⟨⟨gx7n60, by omega⟩, gx5n60, pc, hCn60⟩ (fun al hal rna62 Pa62 Ga62 hexta62 hfra62 hoka62 hcsa62 hpsia62 => ?_)
                                obtain rfl := List.mem_singleton.mp hal
                                have hra62 := zp_int (hoka62 _ rfl).1
                                obtain ⟨rfl, htra62, ht7a62, htca62⟩ := hpsia62
                                have hTa62 : zT u.1 a t x b cd Ga62 B ln (zy_to B ln (zy_to B ln tk)) (nl + 1) (yh C sz 2 (11 + rnk9)) (sz + 2) true := zT_ad hTn60 hfra62 ht7a62 (by omega) htca62
                                have hXa62 := hTa62
                                obtain ⟨⟨-, ga0a62, ga1a62, gx5a62⟩, hTta62, ⟨ga3a62, ga4a62, hnla62⟩, gx7a62, hsza62, hCa62⟩ := hXa62
                                have hfa62 := zTt_f hTta62
                                refine zp_pop (pc := 242) hx hb (zd_X5_part (242, .pop, 1, 0, []) (List.mem_of_getElem? (i := 126) rfl)) (show (0 : Nat) ≠ 1 by decide) ?_
                                refine zp_const (pc := 243) hx hb (zd_X5_part (243, .iconst 1, 1, 0, []) (List.mem_of_getElem? (i := 127) rfl)) rfl rfl ?_
                                refine zp_zret (pc := 244) (n := 1) hx hb hE hQ hU5 rfl (show (1 : Nat) ≠ 2 by decide) (zd_X5_part (244, .ireturn, 1, 0, []) (List.mem_of_getElem? (i := 128) rfl)) (j := 0) rfl (zp_o0 (by omega) (by omega) (by omega) (by omega)) ?_
                                rw [hps]
                                refine ⟨rfl, Sum.inr (zy_to B ln (zy_to B ln tk), nl + 1, yd_lf (ylw true B ln tk) (zy_wo B ln (zy_to B ln tk))), ?_, rfl, fun z => absurd z (by decide), 1, yh C sz 2 (11 + rnk9), sz + 2, rfl, hTa62, ?_, by omega, by omega⟩
                                · refine yZ_lf h91 (by omega) ?_
                                  unfold ylf
                                  rw [if_neg (by omega), if_pos ⟨rfl, by omega⟩, if_pos ⟨by omega, hw2, by rw [if_neg (by omega)]; omega⟩]
                                · have h9 := yH_lf (w := true) (C := C) (e := sz) (s := 2) (v := (11 + rnk9)) (Or.inr ⟨rfl, by omega, by show (11 + rnk9) < 21; omega⟩)
                                  have e1 : yl_o true 2 (11 + rnk9) = ylw true B ln tk := by
                                    unfold yl_o
                                    rw [if_neg (by decide), if_pos ⟨rfl, by omega⟩]
                                    omega
                                  have e2 : yl_a true 2 (11 + rnk9) = zy_wo B ln (zy_to B ln tk) := by
                                    unfold yl_a
                                    rw [if_neg (by decide), if_pos ⟨rfl, by omega⟩]
                                    omega
                                  rw [e1, e2] at h9
                                  exact h9
                              · exfalso
                                omega
                            · refine zp_const (pc := 209) hx hb (zd_X5_part (209, .iconst 0, 1, 0, []) (List.mem_of_getElem? (i := 108) rfl)) rfl rfl ?_
                              refine zp_zret (pc := 210) (n := 0) hx hb hE hQ hU5 rfl (show (1 : Nat) ≠ 2 by decide) (zd_X5_part (210, .ireturn, 1, 0, []) (List.mem_of_getElem? (i := 109) rfl)) (j := 0) rfl (zp_o0 (by omega) (by omega) (by omega) (by omega)) ?_
                              rw [hps]
                              refine ⟨rfl, Sum.inl (zy_to B ln tk), ?_, rfl, _, _, _, hTn52⟩
                              refine yZ_lf0 h91 (by omega) ?_
                              unfold ylf
                              rw [if_neg (by omega), if_pos ⟨rfl, by omega⟩, if_neg]
                              rintro ⟨z1, z2, z3⟩
                              rw [if_neg (by omega)] at z3
                              rw [if_pos ⟨z1, z2, z3⟩] at htk
                              omega
                          · exfalso
                            omega
                        · refine zp_const (pc := 175) hx hb (zd_X5_part (175, .iconst 1, 1, 0, []) (List.mem_of_getElem? (i := 91) rfl)) rfl rfl ?_
                          refine zp_goto (tgt := 180) (pc := 176) hx hb (zd_X5_part (176, .goto 4, 3, 0, []) (List.mem_of_getElem? (i := 92) rfl)) rfl ?_
                          refine zp_store (L' := [(4, 0, 1), (3, 0, rnv), (2, 0, 2), (0, 2, (a : Int)), (1, 0, (d : Int))]) (pc := 180) hx hb hnL (zd_X5_part (180, .istore 4, 2, 0, []) (List.mem_of_getElem? (i := 94) rfl)) rfl rfl rfl ?_
                          refine zp_load (pc := 182) hx hb (zd_X5_part (182, .aload_n 0, 1, 0, []) (List.mem_of_getElem? (i := 95) rfl)) rfl (j := 3) rfl ?_
                          refine zp_getf (n := (t : Int)) (pc := 183) hx hb hE hw (zd_X5_part (183, .getfield 24, 3, 0, []) (List.mem_of_getElem? (i := 96) rfl)) (j := 9) rfl rfl rfl hp ga0n52 ?_
                          refine zp_const (pc := 186) hx hb (zd_X5_part (186, .iconst 0, 1, 0, []) (List.mem_of_getElem? (i := 97) rfl)) rfl rfl ?_
                          refine zp_load (pc := 187) hx hb (zd_X5_part (187, .iload 4, 2, 0, []) (List.mem_of_getElem? (i := 98) rfl)) rfl (j := 0) rfl ?_
                          refine zp_if (pc := 189) (tgt := 196) hx hb (zd_X5_part (189, .ifCond .eq 7, 3, 0, []) (List.mem_of_getElem? (i := 99) rfl)) rfl (fun (hc63 : 1 = 0) => ?_) (fun (hc63 : ¬ (1 = 0)) => ?_)
                          · exfalso
                            omega
                          · refine zp_const (pc := 192) hx hb (zd_X5_part (192, .iconst 5, 1, 0, []) (List.mem_of_getElem? (i := 100) rfl)) rfl rfl ?_
                            refine zp_goto (tgt := 198) (pc := 193) hx hb (zd_X5_part (193, .goto 5, 3, 0, []) (List.mem_of_getElem? (i := 101) rfl)) rfl ?_
                            refine zp_call (pc := 198) (how := 0) (idx := 102) (mi := 65) (S := []) hx hb hE hw heff hrm (zX_vnw hW b B ln (zy_to B ln tk)) rfl (j := 13) rfl rfl (zcb_upa_vnw d hd) (zd_X5_part (198, .invokevirtual 102, 3, 0, []) (List.mem_of_getElem? (i := 103) rfl)) [(t : Int), 0, 5] rfl ⟨zp_o2 pt, zp_o0 (by decide) (by decide) (by decide) (by decide), zp_o0 (by decide) (by decide) (by decide) (by decide), trivial⟩ (Nat.le_of_ble_eq_true rfl) hTtn52 (fun al hal rnk9 Pk9 Gk9 hextk9 hfrk9 hokk9 hcsk9 hpsik9 => ?_)
                            obtain rfl := List.mem_singleton.mp hal
                            have hrk9 := zp_int (hokk9 _ rfl).1
                            obtain ⟨hPek9, hGek9, htk9⟩ := hpsik9
                            rw [hPek9, hGek9]
                            have htk : rnk9 = if zy_so B ln (zy_to B ln tk) = 2 ∧ 0 ≤ zy_wo B ln (zy_to B ln tk) ∧ zy_wo B ln (zy_to B ln tk) ≤ 5 then zy_wo B ln (zy_to B ln tk) else -1 := htk9
                            refine zp_store (L' := [(5, 0, rnk9), (4, 0, 1), (3, 0, rnv), (2, 0, 2), (0, 2, (a : Int)), (1, 0, (d : Int))]) (pc := 201) hx hb hnL (zd_X5_part (201, .istore 5, 2, 0, []) (List.mem_of_getElem? (i := 104) rfl)) rfl rfl rfl ?_
                            refine zp_load (pc := 203) hx hb (zd_X5_part (203, .iload 5, 2, 0, []) (List.mem_of_getElem? (i := 105) rfl)) rfl (j := 0) rfl ?_
                            refine zp_const (pc := 205) hx hb (zd_X5_part (205, .iconst (-1), 1, 0, []) (List.mem_of_getElem? (i := 106) rfl)) rfl rfl ?_
                            refine zp_icmp (pc := 206) (tgt := 211) hx hb (zd_X5_part (206, .if_icmp .ne 5, 3, 0, []) (List.mem_of_getElem? (i := 107) rfl)) rfl (fun (hc64 : ¬ rnk9 = (-1)) => ?_) (fun (hc64 : ¬ (¬ rnk9 = (-1))) => ?_)
                            · refine zp_load (pc := 211) hx hb (zd_X5_part (211, .aload_n 0, 1, 0, []) (List.mem_of_getElem? (i := 110) rfl)) rfl (j := 4) rfl ?_
                              refine zp_getf (n := (t : Int)) (pc := 212) hx hb hE hw (zd_X5_part (212, .getfield 24, 3, 0, []) (List.mem_of_getElem? (i := 111) rfl)) (j := 9) rfl rfl rfl hp ga0n52 ?_
                              have hk3 : zy_so B ln (zy_to B ln tk) = 2 ∧ 0 ≤ zy_wo B ln (zy_to B ln tk) ∧ zy_wo B ln (zy_to B ln tk) ≤ 5 := by
                                by_cases z : zy_so B ln (zy_to B ln tk) = 2 ∧ 0 ≤ zy_wo B ln (zy_to B ln tk) ∧ zy_wo B ln (zy_to B ln tk) ≤ 5
                                · exact z
                                · rw [if_neg z] at htk
                                  omega
                              rw [if_pos hk3] at htk
                              have hw2 := hk3.2.1
                              have hg8 := (zTt_go hTtn52).1
                              refine zp_call (pc := 215) (how := 0) (idx := 60) (mi := 43) (S := []) hx hb hE hw heff hrm (zX_cnx hW) rfl (j := 6) rfl rfl (zcb_upa_cnx d hd) (zd_X5_part (215, .invokevirtual 60, 3, 0, []) (List.mem_of_getElem? (i := 112) rfl)) [(t : Int)] rfl ⟨zp_o2 pt, trivial⟩ (Nat.le_of_ble_eq_true rfl) (zTt_q hTtn52) (fun al hal rnn65 Pn65 Gn65 hextn65 hfrn65 hokn65 hcsn65 hpsin65 => ?_)
                              obtain rfl := List.mem_singleton.mp hal
                              obtain ⟨rfl, htn65⟩ := hpsin65
                              have hgon65 := zTt_go hTtn52
                              have hTn65 : zT u.1 a t x b cd Gn65 B ln (zy_to B ln (zy_to B ln tk)) (nl + 1) C sz true := zT_nx hTn52 hfrn65 htn65
                              have hXn65 := hTn65
                              obtain ⟨⟨-, ga0n65, ga1n65, gx5n65⟩, hTtn65, ⟨ga3n65, ga4n65, hnln65⟩, gx7n65, hszn65, hCn65⟩ := hXn65
                              have hfn65 := zTt_f hTtn65
                              refine zp_load (pc := 218) hx hb (zd_X5_part (218, .iload 4, 2, 0, []) (List.mem_of_getElem? (i := 113) rfl)) rfl (j := 1) rfl ?_
                              refine zp_if (pc := 220) (tgt := 227) hx hb (zd_X5_part (220, .ifCond .eq 7, 3, 0, []) (List.mem_of_getElem? (i := 114) rfl)) rfl (fun (hc66 : 1 = 0) => ?_) (fun (hc66 : ¬ (1 = 0)) => ?_)
                              · exfalso
                                omega
                              · refine zp_const (pc := 223) hx hb (zd_X5_part (223, .iconst 5, 1, 0, []) (List.mem_of_getElem? (i := 115) rfl)) rfl rfl ?_
                                refine zp_goto (tgt := 229) (pc := 224) hx hb (zd_X5_part (224, .goto 5, 3, 0, []) (List.mem_of_getElem? (i := 116) rfl)) rfl ?_
                                refine zp_load (pc := 229) hx hb (zd_X5_part (229, .iload 5, 2, 0, []) (List.mem_of_getElem? (i := 118) rfl)) rfl (j := 0) rfl ?_
                                refine zp_add (n := (5 + rnk9)) (pc := 231) hx hb (zd_X5_part (231, .iadd, 1, 0, []) (List.mem_of_getElem? (i := 119) rfl)) (by omega) (zp_r0 (by omega) (by omega)) ?_
                                refine zp_store (L' := [(3, 0, (5 + rnk9)), (5, 0, rnk9), (4, 0, 1), (2, 0, 2), (0, 2, (a : Int)), (1, 0, (d : Int))]) (pc := 232) hx hb hnL (zd_X5_part (232, .istore_n 3, 1, 0, []) (List.mem_of_getElem? (i := 120) rfl)) rfl rfl rfl ?_
                                refine zp_load (pc := 233) hx hb (zd_X5_part (233, .aload_n 0, 1, 0, []) (List.mem_of_getElem? (i := 121) rfl)) rfl (j := 4) rfl ?_
                                refine zp_getf (n := (x : Int)) (pc := 234) hx hb hE hw (zd_X5_part (234, .getfield 16, 3, 0, []) (List.mem_of_getElem? (i := 122) rfl)) (j := 10) rfl rfl rfl hp ga1n65 ?_
                                refine zp_load (pc := 237) hx hb (zd_X5_part (237, .iload_n 2, 1, 0, []) (List.mem_of_getElem? (i := 123) rfl)) rfl (j := 3) rfl ?_
                                refine zp_load (pc := 238) hx hb (zd_X5_part (238, .iload_n 3, 1, 0, []) (List.mem_of_getElem? (i := 124) rfl)) rfl (j := 0) rfl ?_
                                refine zp_call (pc := 239) (how := 0) (idx := 123) (mi := 66) (S := []) hx hb hE hw heff hrm (zX_vad hW cd sz C) rfl (j := 14) rfl rfl (zcb_upa_vad d hd) (zd_X5_part (239, .invokevirtual 123, 3, 0, []) (List.mem_of_getElem? (i := 125) rfl)) [(x : Int), 2, (5 + rnk9)] rfl ⟨zp_o2 px, zp_o0 (by decide) (by decide) (by decide) (by decide), zp_o0 (by omega) (by omega) (by omega) (by omega), trivial⟩ (Nat.le_of_ble_eq_true rfl) ⟨⟨gx7n65, by omega⟩, gx5n65, pc, hCn65⟩ (fun al hal rna67 Pa67 Ga67 hexta67 hfra67 hoka67 hcsa67 hpsia67 => ?_)
                                obtain rfl := List.mem_singleton.mp hal
                                have hra67 := zp_int (hoka67 _ rfl).1
                                obtain ⟨rfl, htra67, ht7a67, htca67⟩ := hpsia67
                                have hTa67 : zT u.1 a t x b cd Ga67 B ln (zy_to B ln (zy_to B ln tk)) (nl + 1) (yh C sz 2 (5 + rnk9)) (sz + 2) true := zT_ad hTn65 hfra67 ht7a67 (by omega) htca67
                                have hXa67 := hTa67
                                obtain ⟨⟨-, ga0a67, ga1a67, gx5a67⟩, hTta67, ⟨ga3a67, ga4a67, hnla67⟩, gx7a67, hsza67, hCa67⟩ := hXa67
                                have hfa67 := zTt_f hTta67
                                refine zp_pop (pc := 242) hx hb (zd_X5_part (242, .pop, 1, 0, []) (List.mem_of_getElem? (i := 126) rfl)) (show (0 : Nat) ≠ 1 by decide) ?_
                                refine zp_const (pc := 243) hx hb (zd_X5_part (243, .iconst 1, 1, 0, []) (List.mem_of_getElem? (i := 127) rfl)) rfl rfl ?_
                                refine zp_zret (pc := 244) (n := 1) hx hb hE hQ hU5 rfl (show (1 : Nat) ≠ 2 by decide) (zd_X5_part (244, .ireturn, 1, 0, []) (List.mem_of_getElem? (i := 128) rfl)) (j := 0) rfl (zp_o0 (by omega) (by omega) (by omega) (by omega)) ?_
                                rw [hps]
                                refine ⟨rfl, Sum.inr (zy_to B ln (zy_to B ln tk), nl + 1, yd_lf (ylw true B ln tk) (zy_wo B ln (zy_to B ln tk))), ?_, rfl, fun z => absurd z (by decide), 1, yh C sz 2 (5 + rnk9), sz + 2, rfl, hTa67, ?_, by omega, by omega⟩
                                · refine yZ_lf h91 (by omega) ?_
                                  unfold ylf
                                  rw [if_neg (by omega), if_pos ⟨rfl, by omega⟩, if_pos ⟨by omega, hw2, by rw [if_pos (by omega)]; omega⟩]
                                · have h9 := yH_lf (w := true) (C := C) (e := sz) (s := 2) (v := (5 + rnk9)) (Or.inr ⟨rfl, by omega, by show (5 + rnk9) < 21; omega⟩)
                                  have e1 : yl_o true 2 (5 + rnk9) = ylw true B ln tk := by
                                    unfold yl_o
                                    rw [if_neg (by decide), if_neg (fun z => by omega), if_pos ⟨rfl, by omega⟩]
                                    omega
                                  have e2 : yl_a true 2 (5 + rnk9) = zy_wo B ln (zy_to B ln tk) := by
                                    unfold yl_a
                                    rw [if_neg (by decide), if_neg (fun z => by omega), if_pos ⟨rfl, by omega⟩]
                                    omega
                                  rw [e1, e2] at h9
                                  exact h9
                            · refine zp_const (pc := 209) hx hb (zd_X5_part (209, .iconst 0, 1, 0, []) (List.mem_of_getElem? (i := 108) rfl)) rfl rfl ?_
                              refine zp_zret (pc := 210) (n := 0) hx hb hE hQ hU5 rfl (show (1 : Nat) ≠ 2 by decide) (zd_X5_part (210, .ireturn, 1, 0, []) (List.mem_of_getElem? (i := 109) rfl)) (j := 0) rfl (zp_o0 (by omega) (by omega) (by omega) (by omega)) ?_
                              rw [hps]
                              refine ⟨rfl, Sum.inl (zy_to B ln tk), ?_, rfl, _, _, _, hTn52⟩
                              refine yZ_lf0 h91 (by omega) ?_
                              unfold ylf
                              rw [if_neg (by omega), if_pos ⟨rfl, by omega⟩, if_neg]
                              rintro ⟨z1, z2, z3⟩
                              rw [if_pos (by omega)] at z3
                              rw [if_pos ⟨z1, z2, z3⟩] at htk
                              omega
                · refine zp_const (pc := 144) hx hb (zd_X5_part (144, .iconst 0, 1, 0, []) (List.mem_of_getElem? (i := 74) rfl)) rfl rfl ?_
                  refine zp_zret (pc := 145) (n := 0) hx hb hE hQ hU5 rfl (show (1 : Nat) ≠ 2 by decide) (zd_X5_part (145, .ireturn, 1, 0, []) (List.mem_of_getElem? (i := 75) rfl)) (j := 0) rfl (zp_o0 (by omega) (by omega) (by omega) (by omega)) ?_
                  rw [hps]
                  refine ⟨rfl, Sum.inl tk, ?_, rfl, _, _, _, hT1⟩
                  refine yZ_lf0 h91 (by omega) ?_
                  unfold ylf
                  rw [if_pos (by rw [hlr]; exact if_pos (by omega)), if_neg (fun z => by omega)]
            · exfalso
              omega
        · refine zp_const (pc := 92) hx hb (zd_X5_part (92, .iconst 1, 1, 0, []) (List.mem_of_getElem? (i := 48) rfl)) rfl rfl ?_
          refine zp_goto (tgt := 97) (pc := 93) hx hb (zd_X5_part (93, .goto 4, 3, 0, []) (List.mem_of_getElem? (i := 49) rfl)) rfl ?_
          refine zp_store (L' := [(2, 0, 1), (0, 2, (a : Int)), (1, 0, (d : Int))]) (pc := 97) hx hb hnL (zd_X5_part (97, .istore_n 2, 1, 0, []) (List.mem_of_getElem? (i := 51) rfl)) rfl rfl rfl ?_
          refine zp_load (pc := 98) hx hb (zd_X5_part (98, .iload_n 2, 1, 0, []) (List.mem_of_getElem? (i := 52) rfl)) rfl (j := 0) rfl ?_
          refine zp_const (pc := 99) hx hb (zd_X5_part (99, .iconst 1, 1, 0, []) (List.mem_of_getElem? (i := 53) rfl)) rfl rfl ?_
          refine zp_icmp (pc := 100) (tgt := 117) hx hb (zd_X5_part (100, .if_icmp .ne 17, 3, 0, []) (List.mem_of_getElem? (i := 54) rfl)) rfl (fun (hc68 : ¬ 1 = 1) => ?_) (fun (hc68 : ¬ (¬ 1 = 1)) => ?_)
          · exfalso
            omega
          · refine zp_load (pc := 103) hx hb (zd_X5_part (103, .aload_n 0, 1, 0, []) (List.mem_of_getElem? (i := 55) rfl)) rfl (j := 1) rfl ?_
            refine zp_getf (n := (t : Int)) (pc := 104) hx hb hE hw (zd_X5_part (104, .getfield 24, 3, 0, []) (List.mem_of_getElem? (i := 56) rfl)) (j := 9) rfl rfl rfl hp ga01 ?_
            refine zp_const (pc := 107) hx hb (zd_X5_part (107, .iconst 0, 1, 0, []) (List.mem_of_getElem? (i := 57) rfl)) rfl rfl ?_
            refine zp_const (pc := 108) hx hb (zd_X5_part (108, .sipush 1000, 3, 0, []) (List.mem_of_getElem? (i := 58) rfl)) rfl rfl ?_
            refine zp_call (pc := 111) (how := 0) (idx := 102) (mi := 65) (S := []) hx hb hE hw heff hrm (zX_vnw hW b B ln tk) rfl (j := 13) rfl rfl (zcb_upa_vnw d hd) (zd_X5_part (111, .invokevirtual 102, 3, 0, []) (List.mem_of_getElem? (i := 59) rfl)) [(t : Int), 0, 1000] rfl ⟨zp_o2 pt, zp_o0 (by decide) (by decide) (by decide) (by decide), zp_o0 (by decide) (by decide) (by decide) (by decide), trivial⟩ (Nat.le_of_ble_eq_true rfl) hTt1 (fun al hal rnv Pv Gv hextv hfrv hokv hcsv hpsiv => ?_)
            obtain rfl := List.mem_singleton.mp hal
            have hrv := zp_int (hokv _ rfl).1
            obtain ⟨hPev, hGev, htv⟩ := hpsiv
            rw [hPev, hGev]
            have htv : rnv = if zy_so B ln tk = 2 ∧ 0 ≤ zy_wo B ln tk ∧ zy_wo B ln tk ≤ 1000 then zy_wo B ln tk else -1 := htv
            have hlw : ylw ord B ln tk = -1 := by
              unfold ylw
              exact if_neg (by omega)
            have hw0 : 0 ≤ zy_wo B ln tk := zy_wo_nn hTt1 (by omega)
            rw [← hso] at htv
            refine zp_goto (tgt := 138) (pc := 114) hx hb (zd_X5_part (114, .goto 24, 3, 0, []) (List.mem_of_getElem? (i := 60) rfl)) rfl ?_
            refine zp_store (L' := [(3, 0, rnv), (2, 0, 1), (0, 2, (a : Int)), (1, 0, (d : Int))]) (pc := 138) hx hb hnL (zd_X5_part (138, .istore_n 3, 1, 0, []) (List.mem_of_getElem? (i := 70) rfl)) rfl rfl rfl ?_
            refine zp_load (pc := 139) hx hb (zd_X5_part (139, .iload_n 3, 1, 0, []) (List.mem_of_getElem? (i := 71) rfl)) rfl (j := 0) rfl ?_
            refine zp_const (pc := 140) hx hb (zd_X5_part (140, .iconst (-1), 1, 0, []) (List.mem_of_getElem? (i := 72) rfl)) rfl rfl ?_
            refine zp_icmp (pc := 141) (tgt := 146) hx hb (zd_X5_part (141, .if_icmp .ne 5, 3, 0, []) (List.mem_of_getElem? (i := 73) rfl)) rfl (fun (hc69 : ¬ rnv = (-1)) => ?_) (fun (hc69 : ¬ (¬ rnv = (-1))) => ?_)
            · refine zp_load (pc := 146) hx hb (zd_X5_part (146, .aload_n 0, 1, 0, []) (List.mem_of_getElem? (i := 76) rfl)) rfl (j := 2) rfl ?_
              refine zp_getf (n := (t : Int)) (pc := 147) hx hb hE hw (zd_X5_part (147, .getfield 24, 3, 0, []) (List.mem_of_getElem? (i := 77) rfl)) (j := 9) rfl rfl rfl hp ga01 ?_
              have hso9 : zy_so B ln tk ≠ 0 := by omega
              have hg9 := hgo1.2.1 hso9
              refine zp_call (pc := 150) (how := 0) (idx := 60) (mi := 43) (S := []) hx hb hE hw heff hrm (zX_cnx hW) rfl (j := 6) rfl rfl (zcb_upa_cnx d hd) (zd_X5_part (150, .invokevirtual 60, 3, 0, []) (List.mem_of_getElem? (i := 78) rfl)) [(t : Int)] rfl ⟨zp_o2 pt, trivial⟩ (Nat.le_of_ble_eq_true rfl) (zTt_q hTt1) (fun al hal rnn70 Pn70 Gn70 hextn70 hfrn70 hokn70 hcsn70 hpsin70 => ?_)
              obtain rfl := List.mem_singleton.mp hal
              obtain ⟨rfl, htn70⟩ := hpsin70
              have hgon70 := zTt_go hTt1
              have hTn70 : zT u.1 a t x b cd Gn70 B ln (zy_to B ln tk) (nl + 1) C sz ord := zT_nx hT1 hfrn70 htn70
              have hXn70 := hTn70
              obtain ⟨⟨-, ga0n70, ga1n70, gx5n70⟩, hTtn70, ⟨ga3n70, ga4n70, hnln70⟩, gx7n70, hszn70, hCn70⟩ := hXn70
              have hfn70 := zTt_f hTtn70
              refine zp_load (pc := 153) hx hb (zd_X5_part (153, .aload_n 0, 1, 0, []) (List.mem_of_getElem? (i := 79) rfl)) rfl (j := 2) rfl ?_
              refine zp_getf (n := (yob ord)) (pc := 154) hx hb hE hw (zd_X5_part (154, .getfield 28, 3, 0, []) (List.mem_of_getElem? (i := 80) rfl)) (j := 12) rfl rfl rfl hp ga3n70 ?_
              refine zp_if (pc := 157) (tgt := 233) hx hb (zd_X5_part (157, .ifCond .eq 76, 3, 0, []) (List.mem_of_getElem? (i := 81) rfl)) rfl (fun (hc71 : (yob ord) = 0) => ?_) (fun (hc71 : ¬ ((yob ord) = 0)) => ?_)
              · refine zp_load (pc := 233) hx hb (zd_X5_part (233, .aload_n 0, 1, 0, []) (List.mem_of_getElem? (i := 121) rfl)) rfl (j := 2) rfl ?_
                refine zp_getf (n := (x : Int)) (pc := 234) hx hb hE hw (zd_X5_part (234, .getfield 16, 3, 0, []) (List.mem_of_getElem? (i := 122) rfl)) (j := 10) rfl rfl rfl hp ga1n70 ?_
                refine zp_load (pc := 237) hx hb (zd_X5_part (237, .iload_n 2, 1, 0, []) (List.mem_of_getElem? (i := 123) rfl)) rfl (j := 1) rfl ?_
                refine zp_load (pc := 238) hx hb (zd_X5_part (238, .iload_n 3, 1, 0, []) (List.mem_of_getElem? (i := 124) rfl)) rfl (j := 0) rfl ?_
                refine zp_call (pc := 239) (how := 0) (idx := 123) (mi := 66) (S := []) hx hb hE hw heff hrm (zX_vad hW cd sz C) rfl (j := 14) rfl rfl (zcb_upa_vad d hd) (zd_X5_part (239, .invokevirtual 123, 3, 0, []) (List.mem_of_getElem? (i := 125) rfl)) [(x : Int), 1, rnv] rfl ⟨zp_o2 px, zp_o0 (by decide) (by decide) (by decide) (by decide), zp_o0 (by omega) (by omega) (by omega) (by omega), trivial⟩ (Nat.le_of_ble_eq_true rfl) ⟨⟨gx7n70, by omega⟩, gx5n70, pc, hCn70⟩ (fun al hal rna72 Pa72 Ga72 hexta72 hfra72 hoka72 hcsa72 hpsia72 => ?_)
                obtain rfl := List.mem_singleton.mp hal
                have hra72 := zp_int (hoka72 _ rfl).1
                obtain ⟨rfl, htra72, ht7a72, htca72⟩ := hpsia72
                have hTa72 : zT u.1 a t x b cd Ga72 B ln (zy_to B ln tk) (nl + 1) (yh C sz 1 rnv) (sz + 2) ord := zT_ad hTn70 hfra72 ht7a72 (by omega) htca72
                have hXa72 := hTa72
                obtain ⟨⟨-, ga0a72, ga1a72, gx5a72⟩, hTta72, ⟨ga3a72, ga4a72, hnla72⟩, gx7a72, hsza72, hCa72⟩ := hXa72
                have hfa72 := zTt_f hTta72
                refine zp_pop (pc := 242) hx hb (zd_X5_part (242, .pop, 1, 0, []) (List.mem_of_getElem? (i := 126) rfl)) (show (0 : Nat) ≠ 1 by decide) ?_
                refine zp_const (pc := 243) hx hb (zd_X5_part (243, .iconst 1, 1, 0, []) (List.mem_of_getElem? (i := 127) rfl)) rfl rfl ?_
                refine zp_zret (pc := 244) (n := 1) hx hb hE hQ hU5 rfl (show (1 : Nat) ≠ 2 by decide) (zd_X5_part (244, .ireturn, 1, 0, []) (List.mem_of_getElem? (i := 128) rfl)) (j := 0) rfl (zp_o0 (by omega) (by omega) (by omega) (by omega)) ?_
                rw [hps]
                have hle : zy_wo B ln tk ≤ 1000 := by
                  by_cases z : zy_wo B ln tk ≤ 1000
                  · exact z
                  · rw [if_neg (fun y => z y.2.2)] at htv
                    omega
                rw [if_pos ⟨by omega, hw0, hle⟩] at htv
                refine ⟨rfl, Sum.inr (zy_to B ln tk, nl + 1, yd_lf 0 (zy_wo B ln tk)), ?_, rfl, fun z => absurd z (by decide), 1, yh C sz 1 rnv, sz + 2, rfl, hTa72, ?_, by omega, by omega⟩
                · refine yZ_lf h91 (by omega) ?_
                  unfold ylf
                  rw [if_pos hlw, if_pos ⟨by omega, hle⟩]
                · have h9 := yH_lf (w := ord) (C := C) (e := sz) (s := 1) (v := rnv) (Or.inl ⟨rfl, by omega, by omega⟩)
                  rw [htv] at h9 ⊢
                  exact h9
              · refine zp_load (pc := 160) hx hb (zd_X5_part (160, .iload_n 2, 1, 0, []) (List.mem_of_getElem? (i := 82) rfl)) rfl (j := 1) rfl ?_
                refine zp_const (pc := 161) hx hb (zd_X5_part (161, .iconst 2, 1, 0, []) (List.mem_of_getElem? (i := 83) rfl)) rfl rfl ?_
                refine zp_icmp (pc := 162) (tgt := 233) hx hb (zd_X5_part (162, .if_icmp .ne 71, 3, 0, []) (List.mem_of_getElem? (i := 84) rfl)) rfl (fun (hc73 : ¬ 1 = 2) => ?_) (fun (hc73 : ¬ (¬ 1 = 2)) => ?_)
                · refine zp_load (pc := 233) hx hb (zd_X5_part (233, .aload_n 0, 1, 0, []) (List.mem_of_getElem? (i := 121) rfl)) rfl (j := 2) rfl ?_
                  refine zp_getf (n := (x : Int)) (pc := 234) hx hb hE hw (zd_X5_part (234, .getfield 16, 3, 0, []) (List.mem_of_getElem? (i := 122) rfl)) (j := 10) rfl rfl rfl hp ga1n70 ?_
                  refine zp_load (pc := 237) hx hb (zd_X5_part (237, .iload_n 2, 1, 0, []) (List.mem_of_getElem? (i := 123) rfl)) rfl (j := 1) rfl ?_
                  refine zp_load (pc := 238) hx hb (zd_X5_part (238, .iload_n 3, 1, 0, []) (List.mem_of_getElem? (i := 124) rfl)) rfl (j := 0) rfl ?_
                  refine zp_call (pc := 239) (how := 0) (idx := 123) (mi := 66) (S := []) hx hb hE hw heff hrm (zX_vad hW cd sz C) rfl (j := 14) rfl rfl (zcb_upa_vad d hd) (zd_X5_part (239, .invokevirtual 123, 3, 0, []) (List.mem_of_getElem? (i := 125) rfl)) [(x : Int), 1, rnv] rfl ⟨zp_o2 px, zp_o0 (by decide) (by decide) (by decide) (by decide), zp_o0 (by omega) (by omega) (by omega) (by omega), trivial⟩ (Nat.le_of_ble_eq_true rfl) ⟨⟨gx7n70, by omega⟩, gx5n70, pc, hCn70⟩ (fun al hal rna74 Pa74 Ga74 hexta74 hfra74 hoka74 hcsa74 hpsia74 => ?_)
                  obtain rfl := List.mem_singleton.mp hal
                  have hra74 := zp_int (hoka74 _ rfl).1
                  obtain ⟨rfl, htra74, ht7a74, htca74⟩ := hpsia74
                  have hTa74 : zT u.1 a t x b cd Ga74 B ln (zy_to B ln tk) (nl + 1) (yh C sz 1 rnv) (sz + 2) ord := zT_ad hTn70 hfra74 ht7a74 (by omega) htca74
                  have hXa74 := hTa74
                  obtain ⟨⟨-, ga0a74, ga1a74, gx5a74⟩, hTta74, ⟨ga3a74, ga4a74, hnla74⟩, gx7a74, hsza74, hCa74⟩ := hXa74
                  have hfa74 := zTt_f hTta74
                  refine zp_pop (pc := 242) hx hb (zd_X5_part (242, .pop, 1, 0, []) (List.mem_of_getElem? (i := 126) rfl)) (show (0 : Nat) ≠ 1 by decide) ?_
                  refine zp_const (pc := 243) hx hb (zd_X5_part (243, .iconst 1, 1, 0, []) (List.mem_of_getElem? (i := 127) rfl)) rfl rfl ?_
                  refine zp_zret (pc := 244) (n := 1) hx hb hE hQ hU5 rfl (show (1 : Nat) ≠ 2 by decide) (zd_X5_part (244, .ireturn, 1, 0, []) (List.mem_of_getElem? (i := 128) rfl)) (j := 0) rfl (zp_o0 (by omega) (by omega) (by omega) (by omega)) ?_
                  rw [hps]
                  have hle : zy_wo B ln tk ≤ 1000 := by
                    by_cases z : zy_wo B ln tk ≤ 1000
                    · exact z
                    · rw [if_neg (fun y => z y.2.2)] at htv
                      omega
                  rw [if_pos ⟨by omega, hw0, hle⟩] at htv
                  refine ⟨rfl, Sum.inr (zy_to B ln tk, nl + 1, yd_lf 0 (zy_wo B ln tk)), ?_, rfl, fun z => absurd z (by decide), 1, yh C sz 1 rnv, sz + 2, rfl, hTa74, ?_, by omega, by omega⟩
                  · refine yZ_lf h91 (by omega) ?_
                    unfold ylf
                    rw [if_pos hlw, if_pos ⟨by omega, hle⟩]
                  · have h9 := yH_lf (w := ord) (C := C) (e := sz) (s := 1) (v := rnv) (Or.inl ⟨rfl, by omega, by omega⟩)
                    rw [htv] at h9 ⊢
                    exact h9
                · exfalso
                  omega
            · refine zp_const (pc := 144) hx hb (zd_X5_part (144, .iconst 0, 1, 0, []) (List.mem_of_getElem? (i := 74) rfl)) rfl rfl ?_
              refine zp_zret (pc := 145) (n := 0) hx hb hE hQ hU5 rfl (show (1 : Nat) ≠ 2 by decide) (zd_X5_part (145, .ireturn, 1, 0, []) (List.mem_of_getElem? (i := 75) rfl)) (j := 0) rfl (zp_o0 (by omega) (by omega) (by omega) (by omega)) ?_
              rw [hps]
              refine ⟨rfl, Sum.inl tk, ?_, rfl, _, _, _, hT1⟩
              refine yZ_lf0 h91 (by omega) ?_
              unfold ylf
              rw [if_pos hlw, if_neg]
              rintro ⟨z1, z2⟩
              rw [if_pos ⟨by omega, hw0, z2⟩] at htv
              omega
      · refine zp_const (pc := 69) hx hb (zd_X5_part (69, .iconst 0, 1, 0, []) (List.mem_of_getElem? (i := 35) rfl)) rfl rfl ?_
        refine zp_zret (pc := 70) (n := 0) hx hb hE hQ hU5 rfl (show (1 : Nat) ≠ 2 by decide) (zd_X5_part (70, .ireturn, 1, 0, []) (List.mem_of_getElem? (i := 36) rfl)) (j := 0) rfl (zp_o0 (by omega) (by omega) (by omega) (by omega)) ?_
        rw [hps]
        refine ⟨rfl, Sum.inl tk, ?_, rfl, _, _, _, hT0⟩
        exact yZ_full hkg27 (by omega)
    · exfalso
      omega
theorem zcb_ute_cnx : ∀ d, d < 9 → zp_cb (zk_Ke (zK_ute d)) (zk_Kr (zK_ute d)) (zK_cnx) 0 = true := by decide +kernel
theorem zcb_ute_upa : ∀ d, d < 9 → zp_cb (zk_Ke (zK_ute d)) (zk_Kr (zK_ute d)) (zK_upa d) 0 = true := by decide +kernel
theorem zcb_ute_vad : ∀ d, d < 9 → zp_cb (zk_Ke (zK_ute d)) (zk_Kr (zK_ute d)) (zK_vad) 0 = true := by decide +kernel
theorem zcb_ute_um : ∀ d, d < 9 → zp_cb (zk_Ke (zK_ute d)) (zk_Kr (zK_ute d)) (zK_um) 0 = true := by decide +kernel
theorem zX_ute {l : Launch} {w : zk_W} (hW : zh_W w) (d : Nat) (hd : d < 9) (hpa : zQ_upa l w d) : zQ_ute l w d := by
  intro t x b cd B ln tk nl C sz uu ord x0
  refine zp_methX (cn := "WoundTown$Reader") zp_lkallRd hW (pl := 802) rfl (zb_ute d hd) (fun p e R s m args below meth c Q u hx hb hE hQ hU5 heff hnL hok hφ => ?_)
  have hw := hW.1
  obtain ⟨p0, p1, hps, k0, k1⟩ := zp_ps2 hok
  obtain ⟨a, rfl, hp⟩ := zp_this k0
  have hrm : zk_Kr (zk_ev (zt_types, zp_lkRd, zt_dv, [], [], zp_lcRd, zK_ute d)) = zk_Kr (zK_ute d) := rfl
  rw [hps] at hφ ⊢
  show zp_J p l e R s m args below meth c Q w u [] 0 [(0, 2, (a : Int)), (1, 0, p1)] [] u.1 (zp_n u.2.1)
  obtain ⟨hT, hd9, hu⟩ : zT u.1 a t x b cd (zp_n u.2.1) B ln tk nl C sz ord ∧ p1 = (d : Int) ∧ sz + uu ≤ 2 * zy_fr B ln tk + 72 := hφ
  subst hd9
  have hX := hT
  obtain ⟨⟨⟨pa, pt, px, pb, pc⟩, -, -, -⟩, -⟩ := hX
  have hT0 : zT u.1 a t x b cd (zp_n u.2.1) B ln tk nl C sz ord := hT
  have hX0 := hT0
  obtain ⟨⟨-, ga00, ga10, gx50⟩, hTt0, ⟨ga30, ga40, hnl0⟩, gx70, hsz0, hC0⟩ := hX0
  have hf0 := zTt_f hTt0
  have loop : ∀ (n9 k tk1 k1 : Nat) (x1 : yD) (C1 : Nat → Int) (sz1 : Nat) (G1 : Nat → Nat → Int) (hT1 : zT u.1 a t x b cd G1 B ln tk1 (nl + k1) C1 sz1 ord) (hH1 : yH ord sz C C1 sz1 k1 x1) (hu1 : sz1 + uu ≤ 2 * zy_fr B ln tk1 + 72) (hz1 : zy_fr B ln tk + 1 ≤ zy_fr B ln tk1), 401 - k < n9 → k ≤ zy_fr B ln tk1 → (∀ s, yZ (zy_so B ln) (zy_wo B ln) (zy_to B ln) (ylf ord B ln) 2 d (nl + k1) tk1 x1 s → yZ (zy_so B ln) (zy_wo B ln) (zy_to B ln) (ylf ord B ln) 1 d nl tk x0 s) → zp_J p l e R s m args below meth c Q w u [] 17 [(3, 0, (k : Int)), (2, 0, (if yr_mu (zy_so B ln) (zy_wo B ln) tk1 = -1 then -1 else yr_mu (zy_so B ln) (zy_wo B ln) tk1 - 14)), (0, 2, (a : Int)), (1, 0, (d : Int))] [] u.1 G1 := by
    intro n9
    induction n9 with
    | zero => intro k tk1 k1 x1 C1 sz1 G1 hT1 hH1 hu1 hz1 h; exact absurd h (Nat.not_lt_zero _)
    | succ n9 ih =>
      intro k tk1 k1 x1 C1 sz1 G1 hT1 hH1 hu1 hz1 hn hk hgo
      have hT1 : zT u.1 a t x b cd G1 B ln tk1 (nl + k1) C1 sz1 ord := hT1
      have hX1 := hT1
      obtain ⟨⟨-, ga01, ga11, gx51⟩, hTt1, ⟨ga31, ga41, hnl1⟩, gx71, hsz1, hC1⟩ := hX1
      have hf1 := zTt_f hTt1
      have hg1 := zTt_go hTt1
      obtain ⟨st, hst⟩ : ∃ z : Int, z = (if yr_mu (zy_so B ln) (zy_wo B ln) tk1 = -1 then -1 else yr_mu (zy_so B ln) (zy_wo B ln) tk1 - 14) := ⟨_, rfl⟩
      rw [← hst]
      have hmr := yr_mu_q (zy_so B ln) (zy_wo B ln) tk1
      refine zp_load (pc := 17) hx hb (zd_X5_term (17, .iload_n 3, 1, 0, []) (List.mem_of_getElem? (i := 11) rfl)) rfl (j := 0) rfl ?_
      refine zp_const (pc := 18) hx hb (zd_X5_term (18, .sipush 400, 3, 0, []) (List.mem_of_getElem? (i := 12) rfl)) rfl rfl ?_
      refine zp_icmp (pc := 21) (tgt := 67) hx hb (zd_X5_term (21, .if_icmp .ge 46, 3, 0, []) (List.mem_of_getElem? (i := 13) rfl)) rfl (fun (hc75 : 400 ≤ (k : Int)) => ?_) (fun (hc75 : ¬ (400 ≤ (k : Int))) => ?_)
      · refine zp_const (pc := 67) hx hb (zd_X5_term (67, .iconst 1, 1, 0, []) (List.mem_of_getElem? (i := 37) rfl)) rfl rfl ?_
        have hno : yr_mu (zy_so B ln) (zy_wo B ln) tk1 = -1 := by
          by_cases z : yr_mu (zy_so B ln) (zy_wo B ln) tk1 = -1
          · exact z
          · have := hg1.2.2 (by rw [yr_mu3 z]; decide)
            rw [if_neg z] at hst
            omega
        refine zp_zret (pc := 68) (n := 1) hx hb hE hQ hU5 rfl (show (1 : Nat) ≠ 2 by decide) (zd_X5_term (68, .ireturn, 1, 0, []) (List.mem_of_getElem? (i := 38) rfl)) (j := 0) rfl (zp_o0 (by omega) (by omega) (by omega) (by omega)) ?_
        rw [hps]
        exact ⟨rfl, Sum.inr (tk1, nl + k1, x1), hgo _ (yZ_mu0 hno), rfl, fun z => absurd z (by decide), k1, C1, sz1, rfl, hT1, hH1, hu1, hz1⟩
      · refine zp_load (pc := 24) hx hb (zd_X5_term (24, .iload_n 2, 1, 0, []) (List.mem_of_getElem? (i := 14) rfl)) rfl (j := 1) rfl ?_
        refine zp_const (pc := 25) hx hb (zd_X5_term (25, .iconst (-1), 1, 0, []) (List.mem_of_getElem? (i := 15) rfl)) rfl rfl ?_
        refine zp_icmp (pc := 26) (tgt := 67) hx hb (zd_X5_term (26, .if_icmp .eq 41, 3, 0, []) (List.mem_of_getElem? (i := 16) rfl)) rfl (fun (hc76 : st = (-1)) => ?_) (fun (hc76 : ¬ (st = (-1))) => ?_)
        · refine zp_const (pc := 67) hx hb (zd_X5_term (67, .iconst 1, 1, 0, []) (List.mem_of_getElem? (i := 37) rfl)) rfl rfl ?_
          have hno : yr_mu (zy_so B ln) (zy_wo B ln) tk1 = -1 := by
            by_cases z : yr_mu (zy_so B ln) (zy_wo B ln) tk1 = -1
            · exact z
            · have := hg1.2.2 (by rw [yr_mu3 z]; decide)
              rw [if_neg z] at hst
              omega
          refine zp_zret (pc := 68) (n := 1) hx hb hE hQ hU5 rfl (show (1 : Nat) ≠ 2 by decide) (zd_X5_term (68, .ireturn, 1, 0, []) (List.mem_of_getElem? (i := 38) rfl)) (j := 0) rfl (zp_o0 (by omega) (by omega) (by omega) (by omega)) ?_
          rw [hps]
          exact ⟨rfl, Sum.inr (tk1, nl + k1, x1), hgo _ (yZ_mu0 hno), rfl, fun z => absurd z (by decide), k1, C1, sz1, rfl, hT1, hH1, hu1, hz1⟩
        · refine zp_load (pc := 29) hx hb (zd_X5_term (29, .aload_n 0, 1, 0, []) (List.mem_of_getElem? (i := 17) rfl)) rfl (j := 2) rfl ?_
          refine zp_getf (n := (t : Int)) (pc := 30) hx hb hE hw (zd_X5_term (30, .getfield 24, 3, 0, []) (List.mem_of_getElem? (i := 18) rfl)) (j := 9) rfl rfl rfl hp ga01 ?_
          have hyes : ¬ yr_mu (zy_so B ln) (zy_wo B ln) tk1 = -1 := fun z => by rw [if_pos z] at hst; omega
          have hst9 : yr_mu (zy_so B ln) (zy_wo B ln) tk1 = st + 14 := by rw [if_neg hyes] at hst; omega
          have hs9 := hg1.2.1 (by rw [yr_mu3 hyes]; decide)
          refine zp_call (pc := 33) (how := 0) (idx := 60) (mi := 43) (S := []) hx hb hE hw heff hrm (zX_cnx hW) rfl (j := 6) rfl rfl (zcb_ute_cnx d hd) (zd_X5_term (33, .invokevirtual 60, 3, 0, []) (List.mem_of_getElem? (i := 19) rfl)) [(t : Int)] rfl ⟨zp_o2 pt, trivial⟩ (Nat.le_of_ble_eq_true rfl) (zTt_q hTt1) (fun al hal rnn77 Pn77 Gn77 hextn77 hfrn77 hokn77 hcsn77 hpsin77 => ?_)
          obtain rfl := List.mem_singleton.mp hal
          obtain ⟨rfl, htn77⟩ := hpsin77
          have hgon77 := zTt_go hTt1
          have hTn77 : zT u.1 a t x b cd Gn77 B ln (zy_to B ln tk1) (nl + k1) C1 sz1 ord := zT_nx hT1 hfrn77 htn77
          have hXn77 := hTn77
          obtain ⟨⟨-, ga0n77, ga1n77, gx5n77⟩, hTtn77, ⟨ga3n77, ga4n77, hnln77⟩, gx7n77, hszn77, hCn77⟩ := hXn77
          have hfn77 := zTt_f hTtn77
          refine zp_load (pc := 36) hx hb (zd_X5_term (36, .aload_n 0, 1, 0, []) (List.mem_of_getElem? (i := 20) rfl)) rfl (j := 2) rfl ?_
          refine zp_load (pc := 37) hx hb (zd_X5_term (37, .iload_n 1, 1, 0, []) (List.mem_of_getElem? (i := 21) rfl)) rfl (j := 3) rfl ?_
          refine zp_call (pc := 38) (how := 0) (idx := 155) (mi := 63) (S := []) hx hb hE hw heff hrm (hpa t x b cd B ln (zy_to B ln tk1) (nl + k1) C1 sz1 (uu + 2) ord x1) rfl (j := 11) rfl rfl (zcb_ute_upa d hd) (zd_X5_term (38, .invokevirtual 155, 3, 0, []) (List.mem_of_getElem? (i := 22) rfl)) [(a : Int), (d : Int)] rfl ⟨zp_o2 hp, zp_o0 (by omega) (by omega) (by omega) (by omega), trivial⟩ (Nat.le_of_ble_eq_true rfl) ⟨hTn77, rfl, by omega⟩ (fun al hal rnr78 Pr78 Gr78 hextr78 hfrr78 hokr78 hcsr78 hpsir78 => ?_)
          obtain rfl := List.mem_singleton.mp hal
          have hrr78 := zp_int (hokr78 _ rfl).1
          obtain ⟨rfl, sr78, hsr78, htr78⟩ := hpsir78
          rcases sr78 with qr78 | ⟨pr78, nr78, yr78⟩
          · obtain ⟨hzr78, nlr78, Cr78, szr78, hTr78⟩ : rnr78 = 0 ∧ ∃ (nl' : Nat) (C' : Nat → Int) (sz' : Nat), zT u.1 a t x b cd Gr78 B ln qr78 nl' C' sz' ord := htr78
            subst hzr78
            refine zp_if (pc := 41) (tgt := 46) hx hb (zd_X5_term (41, .ifCond .ne 5, 3, 0, []) (List.mem_of_getElem? (i := 23) rfl)) rfl (fun (hc79 : ¬ 0 = 0) => ?_) (fun (hc79 : ¬ (¬ 0 = 0)) => ?_)
            · exfalso
              omega
            · refine zp_const (pc := 44) hx hb (zd_X5_term (44, .iconst 0, 1, 0, []) (List.mem_of_getElem? (i := 24) rfl)) rfl rfl ?_
              refine zp_zret (pc := 45) (n := 0) hx hb hE hQ hU5 rfl (show (1 : Nat) ≠ 2 by decide) (zd_X5_term (45, .ireturn, 1, 0, []) (List.mem_of_getElem? (i := 25) rfl)) (j := 0) rfl (zp_o0 (by omega) (by omega) (by omega) (by omega)) ?_
              rw [hps]
              refine ⟨rfl, Sum.inl qr78, ?_, rfl, _, _, _, hTr78⟩
              exact hgo _ (yZ_mu hyes (Or.inl ⟨_, rfl, hsr78⟩))
          · obtain ⟨hzr78, hyr78, kr78, Cr78, szr78, hnr78, hTTr78, hHr78, hur78, hf9r78⟩ : rnr78 = 1 ∧ (_ → yd_T yr78) ∧ ∃ (k : Nat) (C' : Nat → Int) (sz' : Nat), nr78 = (nl + k1) + k ∧ zT u.1 a t x b cd Gr78 B ln pr78 nr78 C' sz' ord ∧ yH ord sz1 C1 C' sz' k yr78 ∧ sz' + (uu + 2) ≤ 2 * zy_fr B ln pr78 + 72 ∧ zy_fr B ln (zy_to B ln tk1) + 1 ≤ zy_fr B ln pr78 := htr78
            subst hzr78
            obtain rfl : nr78 = nl + (k1 + kr78) := by omega
            have hTr78 : zT u.1 a t x b cd Gr78 B ln pr78 (nl + (k1 + kr78)) Cr78 szr78 ord := hTTr78
            have hXr78 := hTr78
            obtain ⟨⟨-, ga0r78, ga1r78, gx5r78⟩, hTtr78, ⟨ga3r78, ga4r78, hnlr78⟩, gx7r78, hszr78, hCr78⟩ := hXr78
            have hfr78 := zTt_f hTtr78
            refine zp_if (pc := 41) (tgt := 46) hx hb (zd_X5_term (41, .ifCond .ne 5, 3, 0, []) (List.mem_of_getElem? (i := 23) rfl)) rfl (fun (hc80 : ¬ 1 = 0) => ?_) (fun (hc80 : ¬ (¬ 1 = 0)) => ?_)
            · refine zp_load (pc := 46) hx hb (zd_X5_term (46, .aload_n 0, 1, 0, []) (List.mem_of_getElem? (i := 26) rfl)) rfl (j := 2) rfl ?_
              refine zp_getf (n := (x : Int)) (pc := 47) hx hb hE hw (zd_X5_term (47, .getfield 16, 3, 0, []) (List.mem_of_getElem? (i := 27) rfl)) (j := 10) rfl rfl rfl hp ga1r78 ?_
              refine zp_load (pc := 50) hx hb (zd_X5_term (50, .iload_n 2, 1, 0, []) (List.mem_of_getElem? (i := 28) rfl)) rfl (j := 1) rfl ?_
              refine zp_const (pc := 51) hx hb (zd_X5_term (51, .iconst 0, 1, 0, []) (List.mem_of_getElem? (i := 29) rfl)) rfl rfl ?_
              refine zp_call (pc := 52) (how := 0) (idx := 123) (mi := 66) (S := []) hx hb hE hw heff hrm (zX_vad hW cd szr78 Cr78) rfl (j := 14) rfl rfl (zcb_ute_vad d hd) (zd_X5_term (52, .invokevirtual 123, 3, 0, []) (List.mem_of_getElem? (i := 30) rfl)) [(x : Int), st, 0] rfl ⟨zp_o2 px, zp_o0 (by omega) (by omega) (by omega) (by omega), zp_o0 (by decide) (by decide) (by decide) (by decide), trivial⟩ (Nat.le_of_ble_eq_true rfl) ⟨⟨gx7r78, by omega⟩, gx5r78, pc, hCr78⟩ (fun al hal rna81 Pa81 Ga81 hexta81 hfra81 hoka81 hcsa81 hpsia81 => ?_)
              obtain rfl := List.mem_singleton.mp hal
              have hra81 := zp_int (hoka81 _ rfl).1
              obtain ⟨rfl, htra81, ht7a81, htca81⟩ := hpsia81
              have hTa81 : zT u.1 a t x b cd Ga81 B ln pr78 (nl + (k1 + kr78)) (yh Cr78 szr78 st 0) (szr78 + 2) ord := zT_ad hTr78 hfra81 ht7a81 (by omega) htca81
              have hXa81 := hTa81
              obtain ⟨⟨-, ga0a81, ga1a81, gx5a81⟩, hTta81, ⟨ga3a81, ga4a81, hnla81⟩, gx7a81, hsza81, hCa81⟩ := hXa81
              have hfa81 := zTt_f hTta81
              refine zp_pop (pc := 55) hx hb (zd_X5_term (55, .pop, 1, 0, []) (List.mem_of_getElem? (i := 31) rfl)) (show (0 : Nat) ≠ 1 by decide) ?_
              refine zp_load (pc := 56) hx hb (zd_X5_term (56, .aload_n 0, 1, 0, []) (List.mem_of_getElem? (i := 32) rfl)) rfl (j := 2) rfl ?_
              refine zp_call (pc := 57) (how := 0) (idx := 158) (mi := 67) (S := []) hx hb hE hw heff hrm (zX_um hW t x b cd B ln pr78 (nl + (k1 + kr78)) (yh Cr78 szr78 st 0) (szr78 + 2) ord) rfl (j := 15) rfl rfl (zcb_ute_um d hd) (zd_X5_term (57, .invokevirtual 158, 3, 0, []) (List.mem_of_getElem? (i := 33) rfl)) [(a : Int)] rfl ⟨zp_o2 hp, trivial⟩ (Nat.le_of_ble_eq_true rfl) hTa81 (fun al hal rnm82 Pm82 Gm82 hextm82 hfrm82 hokm82 hcsm82 hpsim82 => ?_)
              obtain rfl := List.mem_singleton.mp hal
              have hrm82 := zp_int (hokm82 _ rfl).1
              obtain ⟨hPem82, hGem82, htm82⟩ := hpsim82
              rw [hPem82, hGem82]
              refine zp_store (L' := [(2, 0, rnm82), (3, 0, (k : Int)), (0, 2, (a : Int)), (1, 0, (d : Int))]) (pc := 60) hx hb hnL (zd_X5_term (60, .istore_n 2, 1, 0, []) (List.mem_of_getElem? (i := 34) rfl)) rfl rfl rfl ?_
              refine zp_iinc (L' := [(3, 0, ((k : Int) + 1)), (2, 0, rnm82), (0, 2, (a : Int)), (1, 0, (d : Int))]) (n := ((k : Int) + 1)) (pc := 61) hx hb hnL (zd_X5_term (61, .iinc 3 1, 3, 0, []) (List.mem_of_getElem? (i := 35) rfl)) (j := 1) rfl (by omega) (zp_r0 (by omega) (by omega)) rfl rfl ?_
              refine zp_goto (tgt := 17) (pc := 64) hx hb (zd_X5_term (64, .goto (-47), 3, 0, []) (List.mem_of_getElem? (i := 36) rfl)) rfl ?_
              have hst8 : rnm82 = (if yr_mu (zy_so B ln) (zy_wo B ln) pr78 = -1 then -1 else yr_mu (zy_so B ln) (zy_wo B ln) pr78 - 14) := htm82
              refine zp_drop (L' := [(3, 0, ((k + 1 : Nat) : Int)), (2, 0, (if yr_mu (zy_so B ln) (zy_wo B ln) pr78 = -1 then -1 else yr_mu (zy_so B ln) (zy_wo B ln) pr78 - 14)), (0, 2, (a : Int)), (1, 0, (d : Int))]) (by rw [← hst8]; simp <;> omega) ?_
              have hH9 := yH_op hH1 hHr78 (s := st) (v := 0) (by omega) (by omega)
              rw [show (st + 14 : Int) = yr_mu (zy_so B ln) (zy_wo B ln) tk1 by omega] at hH9
              exact ih (k + 1) pr78 (k1 + kr78) (yd_op (yr_mu (zy_so B ln) (zy_wo B ln) tk1) x1 yr78) _ _ _ hTa81 hH9 (by omega) (by omega) (by omega) (by omega) (fun s hs => hgo s (yZ_mu hyes (Or.inr ⟨_, _, _, hsr78, hs⟩)))
            · exfalso
              omega
  refine zp_load (pc := 0) hx hb (zd_X5_term (0, .aload_n 0, 1, 0, []) (List.mem_of_getElem? (i := 0) rfl)) rfl (j := 0) rfl ?_
  refine zp_load (pc := 1) hx hb (zd_X5_term (1, .iload_n 1, 1, 0, []) (List.mem_of_getElem? (i := 1) rfl)) rfl (j := 1) rfl ?_
  refine zp_call (pc := 2) (how := 0) (idx := 155) (mi := 63) (S := []) hx hb hE hw heff hrm (hpa t x b cd B ln tk nl C sz uu ord x0) rfl (j := 11) rfl rfl (zcb_ute_upa d hd) (zd_X5_term (2, .invokevirtual 155, 3, 0, []) (List.mem_of_getElem? (i := 2) rfl)) [(a : Int), (d : Int)] rfl ⟨zp_o2 hp, zp_o0 (by omega) (by omega) (by omega) (by omega), trivial⟩ (Nat.le_of_ble_eq_true rfl) ⟨hT0, rfl, by omega⟩ (fun al hal rnr83 Pr83 Gr83 hextr83 hfrr83 hokr83 hcsr83 hpsir83 => ?_)
  obtain rfl := List.mem_singleton.mp hal
  have hrr83 := zp_int (hokr83 _ rfl).1
  obtain ⟨rfl, sr83, hsr83, htr83⟩ := hpsir83
  rcases sr83 with qr83 | ⟨pr83, nr83, yr83⟩
  · obtain ⟨hzr83, nlr83, Cr83, szr83, hTr83⟩ : rnr83 = 0 ∧ ∃ (nl' : Nat) (C' : Nat → Int) (sz' : Nat), zT u.1 a t x b cd Gr83 B ln qr83 nl' C' sz' ord := htr83
    subst hzr83
    refine zp_if (pc := 5) (tgt := 10) hx hb (zd_X5_term (5, .ifCond .ne 5, 3, 0, []) (List.mem_of_getElem? (i := 3) rfl)) rfl (fun (hc84 : ¬ 0 = 0) => ?_) (fun (hc84 : ¬ (¬ 0 = 0)) => ?_)
    · exfalso
      omega
    · refine zp_const (pc := 8) hx hb (zd_X5_term (8, .iconst 0, 1, 0, []) (List.mem_of_getElem? (i := 4) rfl)) rfl rfl ?_
      refine zp_zret (pc := 9) (n := 0) hx hb hE hQ hU5 rfl (show (1 : Nat) ≠ 2 by decide) (zd_X5_term (9, .ireturn, 1, 0, []) (List.mem_of_getElem? (i := 5) rfl)) (j := 0) rfl (zp_o0 (by omega) (by omega) (by omega) (by omega)) ?_
      rw [hps]
      refine ⟨rfl, Sum.inl qr83, ?_, rfl, _, _, _, hTr83⟩
      exact yZ_row (k := 1) (k1 := 0) (k2 := 2) (fun f => yr_1) (Or.inl ⟨_, rfl, hsr83⟩)
  · obtain ⟨hzr83, hyr83, kr83, Cr83, szr83, hnr83, hTTr83, hHr83, hur83, hf9r83⟩ : rnr83 = 1 ∧ (_ → yd_T yr83) ∧ ∃ (k : Nat) (C' : Nat → Int) (sz' : Nat), nr83 = nl + k ∧ zT u.1 a t x b cd Gr83 B ln pr83 nr83 C' sz' ord ∧ yH ord sz C C' sz' k yr83 ∧ sz' + uu ≤ 2 * zy_fr B ln pr83 + 72 ∧ zy_fr B ln tk + 1 ≤ zy_fr B ln pr83 := htr83
    subst hzr83
    obtain rfl : nr83 = nl + kr83 := by omega
    have hTr83 : zT u.1 a t x b cd Gr83 B ln pr83 (nl + kr83) Cr83 szr83 ord := hTTr83
    have hXr83 := hTr83
    obtain ⟨⟨-, ga0r83, ga1r83, gx5r83⟩, hTtr83, ⟨ga3r83, ga4r83, hnlr83⟩, gx7r83, hszr83, hCr83⟩ := hXr83
    have hfr83 := zTt_f hTtr83
    have hgo0 : ∀ s, yZ (zy_so B ln) (zy_wo B ln) (zy_to B ln) (ylf ord B ln) 2 d (nl + kr83) pr83 yr83 s → yZ (zy_so B ln) (zy_wo B ln) (zy_to B ln) (ylf ord B ln) 1 d nl tk x0 s := fun s hs => yZ_row (k := 1) (k1 := 0) (k2 := 2) (fun f => yr_1) (Or.inr ⟨_, _, _, hsr83, hs⟩)
    refine zp_if (pc := 5) (tgt := 10) hx hb (zd_X5_term (5, .ifCond .ne 5, 3, 0, []) (List.mem_of_getElem? (i := 3) rfl)) rfl (fun (hc85 : ¬ 1 = 0) => ?_) (fun (hc85 : ¬ (¬ 1 = 0)) => ?_)
    · refine zp_load (pc := 10) hx hb (zd_X5_term (10, .aload_n 0, 1, 0, []) (List.mem_of_getElem? (i := 6) rfl)) rfl (j := 0) rfl ?_
      refine zp_call (pc := 11) (how := 0) (idx := 158) (mi := 67) (S := []) hx hb hE hw heff hrm (zX_um hW t x b cd B ln pr83 (nl + kr83) Cr83 szr83 ord) rfl (j := 15) rfl rfl (zcb_ute_um d hd) (zd_X5_term (11, .invokevirtual 158, 3, 0, []) (List.mem_of_getElem? (i := 7) rfl)) [(a : Int)] rfl ⟨zp_o2 hp, trivial⟩ (Nat.le_of_ble_eq_true rfl) hTr83 (fun al hal rnm86 Pm86 Gm86 hextm86 hfrm86 hokm86 hcsm86 hpsim86 => ?_)
      obtain rfl := List.mem_singleton.mp hal
      have hrm86 := zp_int (hokm86 _ rfl).1
      obtain ⟨hPem86, hGem86, htm86⟩ := hpsim86
      rw [hPem86, hGem86]
      refine zp_store (L' := [(2, 0, rnm86), (0, 2, (a : Int)), (1, 0, (d : Int))]) (pc := 14) hx hb hnL (zd_X5_term (14, .istore_n 2, 1, 0, []) (List.mem_of_getElem? (i := 8) rfl)) rfl rfl rfl ?_
      refine zp_const (pc := 15) hx hb (zd_X5_term (15, .iconst 0, 1, 0, []) (List.mem_of_getElem? (i := 9) rfl)) rfl rfl ?_
      refine zp_store (L' := [(3, 0, 0), (2, 0, rnm86), (0, 2, (a : Int)), (1, 0, (d : Int))]) (pc := 16) hx hb hnL (zd_X5_term (16, .istore_n 3, 1, 0, []) (List.mem_of_getElem? (i := 10) rfl)) rfl rfl rfl ?_
      have hst8 : rnm86 = (if yr_mu (zy_so B ln) (zy_wo B ln) pr83 = -1 then -1 else yr_mu (zy_so B ln) (zy_wo B ln) pr83 - 14) := htm86
      refine zp_drop (L' := [(3, 0, ((0 : Nat) : Int)), (2, 0, (if yr_mu (zy_so B ln) (zy_wo B ln) pr83 = -1 then -1 else yr_mu (zy_so B ln) (zy_wo B ln) pr83 - 14)), (0, 2, (a : Int)), (1, 0, (d : Int))]) (by rw [← hst8]; simp) ?_
      exact loop 402 0 pr83 kr83 yr83 _ _ _ hTr83 hHr83 hur83 hf9r83 (by omega) (by omega) hgo0
    · exfalso
      omega
theorem zcb_usu_csi : ∀ d, d < 9 → zp_cb (zk_Ke (zK_usu d)) (zk_Kr (zK_usu d)) (zK_csi) 0 = true := by decide +kernel
theorem zcb_usu_cnx : ∀ d, d < 9 → zp_cb (zk_Ke (zK_usu d)) (zk_Kr (zK_usu d)) (zK_cnx) 0 = true := by decide +kernel
theorem zcb_usu_ute : ∀ d, d < 9 → zp_cb (zk_Ke (zK_usu d)) (zk_Kr (zK_usu d)) (zK_ute d) 0 = true := by decide +kernel
theorem zcb_usu_vad : ∀ d, d < 9 → zp_cb (zk_Ke (zK_usu d)) (zk_Kr (zK_usu d)) (zK_vad) 0 = true := by decide +kernel
theorem zX_usu {l : Launch} {w : zk_W} (hW : zh_W w) (d : Nat) (hd : d < 9) (hte : zQ_ute l w d) : zQ_usu l w d := by
  intro t x b cd B ln tk nl C sz uu ord x0
  refine zp_methX (cn := "WoundTown$Reader") zp_lkallRd hW (pl := 798) rfl (zb_usu d hd) (fun p e R s m args below meth c Q u hx hb hE hQ hU5 heff hnL hok hφ => ?_)
  have hw := hW.1
  obtain ⟨p0, p1, hps, k0, k1⟩ := zp_ps2 hok
  obtain ⟨a, rfl, hp⟩ := zp_this k0
  have hrm : zk_Kr (zk_ev (zt_types, zp_lkRd, zt_dv, [], [], zp_lcRd, zK_usu d)) = zk_Kr (zK_usu d) := rfl
  rw [hps] at hφ ⊢
  show zp_J p l e R s m args below meth c Q w u [] 0 [(0, 2, (a : Int)), (1, 0, p1)] [] u.1 (zp_n u.2.1)
  obtain ⟨hT, hd9, hu⟩ : zT u.1 a t x b cd (zp_n u.2.1) B ln tk nl C sz ord ∧ p1 = (d : Int) ∧ sz + uu ≤ 2 * zy_fr B ln tk + 72 := hφ
  subst hd9
  have hX := hT
  obtain ⟨⟨⟨pa, pt, px, pb, pc⟩, -, -, -⟩, -⟩ := hX
  have hT0 : zT u.1 a t x b cd (zp_n u.2.1) B ln tk nl C sz ord := hT
  have hX0 := hT0
  obtain ⟨⟨-, ga00, ga10, gx50⟩, hTt0, ⟨ga30, ga40, hnl0⟩, gx70, hsz0, hC0⟩ := hX0
  have hf0 := zTt_f hTt0
  have loop : ∀ (n9 k tk1 k1 : Nat) (x1 : yD) (C1 : Nat → Int) (sz1 : Nat) (G1 : Nat → Nat → Int) (hT1 : zT u.1 a t x b cd G1 B ln tk1 (nl + k1) C1 sz1 ord) (hH1 : yH ord sz C C1 sz1 k1 x1) (hu1 : sz1 + uu ≤ 2 * zy_fr B ln tk1 + 72) (hz1 : zy_fr B ln tk + 1 ≤ zy_fr B ln tk1), 401 - k < n9 → k ≤ zy_fr B ln tk1 → (∀ s, yZ (zy_so B ln) (zy_wo B ln) (zy_to B ln) (ylf ord B ln) 4 d (nl + k1) tk1 x1 s → yZ (zy_so B ln) (zy_wo B ln) (zy_to B ln) (ylf ord B ln) 3 d nl tk x0 s) → zp_J p l e R s m args below meth c Q w u [] 12 [(2, 0, (k : Int)), (0, 2, (a : Int)), (1, 0, (d : Int))] [] u.1 G1 := by
    intro n9
    induction n9 with
    | zero => intro k tk1 k1 x1 C1 sz1 G1 hT1 hH1 hu1 hz1 h; exact absurd h (Nat.not_lt_zero _)
    | succ n9 ih =>
      intro k tk1 k1 x1 C1 sz1 G1 hT1 hH1 hu1 hz1 hn hk hgo
      have hT1 : zT u.1 a t x b cd G1 B ln tk1 (nl + k1) C1 sz1 ord := hT1
      have hX1 := hT1
      obtain ⟨⟨-, ga01, ga11, gx51⟩, hTt1, ⟨ga31, ga41, hnl1⟩, gx71, hsz1, hC1⟩ := hX1
      have hf1 := zTt_f hTt1
      have hg1 := zTt_go hTt1
      refine zp_load (pc := 12) hx hb (zd_X5_sum (12, .iload_n 2, 1, 0, []) (List.mem_of_getElem? (i := 8) rfl)) rfl (j := 0) rfl ?_
      refine zp_const (pc := 13) hx hb (zd_X5_sum (13, .sipush 400, 3, 0, []) (List.mem_of_getElem? (i := 9) rfl)) rfl rfl ?_
      refine zp_icmp (pc := 16) (tgt := 96) hx hb (zd_X5_sum (16, .if_icmp .ge 80, 3, 0, []) (List.mem_of_getElem? (i := 10) rfl)) rfl (fun (hc87 : 400 ≤ (k : Int)) => ?_) (fun (hc87 : ¬ (400 ≤ (k : Int))) => ?_)
      · refine zp_const (pc := 96) hx hb (zd_X5_sum (96, .iconst 1, 1, 0, []) (List.mem_of_getElem? (i := 47) rfl)) rfl rfl ?_
        have hno : yr_ad (zy_so B ln) (zy_wo B ln) tk1 = -1 := by
          by_cases z : yr_ad (zy_so B ln) (zy_wo B ln) tk1 = -1
          · exact z
          · have := hg1.2.2 (by rw [yr_ad3 z]; decide)
            omega
        refine zp_zret (pc := 97) (n := 1) hx hb hE hQ hU5 rfl (show (1 : Nat) ≠ 2 by decide) (zd_X5_sum (97, .ireturn, 1, 0, []) (List.mem_of_getElem? (i := 48) rfl)) (j := 0) rfl (zp_o0 (by omega) (by omega) (by omega) (by omega)) ?_
        rw [hps]
        exact ⟨rfl, Sum.inr (tk1, nl + k1, x1), hgo _ (yZ_ad0 hno), rfl, fun z => absurd z (by decide), k1, C1, sz1, rfl, hT1, hH1, hu1, hz1⟩
      · refine zp_load (pc := 19) hx hb (zd_X5_sum (19, .aload_n 0, 1, 0, []) (List.mem_of_getElem? (i := 11) rfl)) rfl (j := 1) rfl ?_
        refine zp_getf (n := (t : Int)) (pc := 20) hx hb hE hw (zd_X5_sum (20, .getfield 24, 3, 0, []) (List.mem_of_getElem? (i := 12) rfl)) (j := 9) rfl rfl rfl hp ga01 ?_
        refine zp_const (pc := 23) hx hb (zd_X5_sum (23, .bipush 43, 2, 0, []) (List.mem_of_getElem? (i := 13) rfl)) rfl rfl ?_
        refine zp_call (pc := 25) (how := 0) (idx := 53) (mi := 64) (S := []) hx hb hE hw heff hrm (zX_csi hW) rfl (j := 12) rfl rfl (zcb_usu_csi d hd) (zd_X5_sum (25, .invokevirtual 53, 3, 0, []) (List.mem_of_getElem? (i := 14) rfl)) [(t : Int), 43] rfl ⟨zp_o2 pt, zp_o0 (by decide) (by decide) (by decide) (by decide), trivial⟩ (Nat.le_of_ble_eq_true rfl) trivial (fun al hal rng88 Pg88 Gg88 hextg88 hfrg88 hokg88 hcsg88 hpsig88 => ?_)
        obtain rfl := List.mem_singleton.mp hal
        have hrg88 := zp_int (hokg88 _ rfl).1
        obtain ⟨hPeg88, hGeg88, htg88⟩ := hpsig88
        rw [hPeg88, hGeg88]
        have hsg88 := zT_sg hTt1 (ch := 43) (by decide) htg88
        by_cases hkg88 : yr_s (zy_so B ln) (zy_wo B ln) 43 tk1 = true
        · obtain rfl : rng88 = 1 := hsg88.mpr hkg88
          refine zp_if (pc := 28) (tgt := 43) hx hb (zd_X5_sum (28, .ifCond .ne 15, 3, 0, []) (List.mem_of_getElem? (i := 15) rfl)) rfl (fun (hc89 : ¬ 1 = 0) => ?_) (fun (hc89 : ¬ (¬ 1 = 0)) => ?_)
          · refine zp_load (pc := 43) hx hb (zd_X5_sum (43, .aload_n 0, 1, 0, []) (List.mem_of_getElem? (i := 21) rfl)) rfl (j := 1) rfl ?_
            refine zp_getf (n := (t : Int)) (pc := 44) hx hb hE hw (zd_X5_sum (44, .getfield 24, 3, 0, []) (List.mem_of_getElem? (i := 22) rfl)) (j := 9) rfl rfl rfl hp ga01 ?_
            refine zp_const (pc := 47) hx hb (zd_X5_sum (47, .bipush 43, 2, 0, []) (List.mem_of_getElem? (i := 23) rfl)) rfl rfl ?_
            refine zp_call (pc := 49) (how := 0) (idx := 53) (mi := 64) (S := []) hx hb hE hw heff hrm (zX_csi hW) rfl (j := 12) rfl rfl (zcb_usu_csi d hd) (zd_X5_sum (49, .invokevirtual 53, 3, 0, []) (List.mem_of_getElem? (i := 24) rfl)) [(t : Int), 43] rfl ⟨zp_o2 pt, zp_o0 (by decide) (by decide) (by decide) (by decide), trivial⟩ (Nat.le_of_ble_eq_true rfl) trivial (fun al hal rng90 Pg90 Gg90 hextg90 hfrg90 hokg90 hcsg90 hpsig90 => ?_)
            obtain rfl := List.mem_singleton.mp hal
            have hrg90 := zp_int (hokg90 _ rfl).1
            obtain ⟨hPeg90, hGeg90, htg90⟩ := hpsig90
            rw [hPeg90, hGeg90]
            have hsg90 := zT_sg hTt1 (ch := 43) (by decide) htg90
            obtain rfl : rng90 = 1 := hsg90.mpr hkg88
            refine zp_if (pc := 52) (tgt := 60) hx hb (zd_X5_sum (52, .ifCond .eq 8, 3, 0, []) (List.mem_of_getElem? (i := 25) rfl)) rfl (fun (hc91 : 1 = 0) => ?_) (fun (hc91 : ¬ (1 = 0)) => ?_)
            · exfalso
              omega
            · refine zp_const (pc := 55) hx hb (zd_X5_sum (55, .bipush 6, 2, 0, []) (List.mem_of_getElem? (i := 26) rfl)) rfl rfl ?_
              refine zp_goto (tgt := 62) (pc := 57) hx hb (zd_X5_sum (57, .goto 5, 3, 0, []) (List.mem_of_getElem? (i := 27) rfl)) rfl ?_
              refine zp_store (L' := [(3, 0, 6), (2, 0, (k : Int)), (0, 2, (a : Int)), (1, 0, (d : Int))]) (pc := 62) hx hb hnL (zd_X5_sum (62, .istore_n 3, 1, 0, []) (List.mem_of_getElem? (i := 29) rfl)) rfl rfl rfl ?_
              refine zp_load (pc := 63) hx hb (zd_X5_sum (63, .aload_n 0, 1, 0, []) (List.mem_of_getElem? (i := 30) rfl)) rfl (j := 2) rfl ?_
              refine zp_getf (n := (t : Int)) (pc := 64) hx hb hE hw (zd_X5_sum (64, .getfield 24, 3, 0, []) (List.mem_of_getElem? (i := 31) rfl)) (j := 9) rfl rfl rfl hp ga01 ?_
              have hst9 : yr_ad (zy_so B ln) (zy_wo B ln) tk1 = 20 := by
                unfold yr_ad
                rw [if_pos hkg88]
              have hyes : ¬ yr_ad (zy_so B ln) (zy_wo B ln) tk1 = -1 := by omega
              have hs9 := hg1.2.1 (by rw [yr_ad3 hyes]; decide)
              refine zp_call (pc := 67) (how := 0) (idx := 60) (mi := 43) (S := []) hx hb hE hw heff hrm (zX_cnx hW) rfl (j := 6) rfl rfl (zcb_usu_cnx d hd) (zd_X5_sum (67, .invokevirtual 60, 3, 0, []) (List.mem_of_getElem? (i := 32) rfl)) [(t : Int)] rfl ⟨zp_o2 pt, trivial⟩ (Nat.le_of_ble_eq_true rfl) (zTt_q hTt1) (fun al hal rnn92 Pn92 Gn92 hextn92 hfrn92 hokn92 hcsn92 hpsin92 => ?_)
              obtain rfl := List.mem_singleton.mp hal
              obtain ⟨rfl, htn92⟩ := hpsin92
              have hgon92 := zTt_go hTt1
              have hTn92 : zT u.1 a t x b cd Gn92 B ln (zy_to B ln tk1) (nl + k1) C1 sz1 ord := zT_nx hT1 hfrn92 htn92
              have hXn92 := hTn92
              obtain ⟨⟨-, ga0n92, ga1n92, gx5n92⟩, hTtn92, ⟨ga3n92, ga4n92, hnln92⟩, gx7n92, hszn92, hCn92⟩ := hXn92
              have hfn92 := zTt_f hTtn92
              refine zp_load (pc := 70) hx hb (zd_X5_sum (70, .aload_n 0, 1, 0, []) (List.mem_of_getElem? (i := 33) rfl)) rfl (j := 2) rfl ?_
              refine zp_load (pc := 71) hx hb (zd_X5_sum (71, .iload_n 1, 1, 0, []) (List.mem_of_getElem? (i := 34) rfl)) rfl (j := 3) rfl ?_
              refine zp_call (pc := 72) (how := 0) (idx := 152) (mi := 62) (S := []) hx hb hE hw heff hrm (hte t x b cd B ln (zy_to B ln tk1) (nl + k1) C1 sz1 (uu + 2) ord x1) rfl (j := 10) rfl rfl (zcb_usu_ute d hd) (zd_X5_sum (72, .invokevirtual 152, 3, 0, []) (List.mem_of_getElem? (i := 35) rfl)) [(a : Int), (d : Int)] rfl ⟨zp_o2 hp, zp_o0 (by omega) (by omega) (by omega) (by omega), trivial⟩ (Nat.le_of_ble_eq_true rfl) ⟨hTn92, rfl, by omega⟩ (fun al hal rnr93 Pr93 Gr93 hextr93 hfrr93 hokr93 hcsr93 hpsir93 => ?_)
              obtain rfl := List.mem_singleton.mp hal
              have hrr93 := zp_int (hokr93 _ rfl).1
              obtain ⟨rfl, sr93, hsr93, htr93⟩ := hpsir93
              rcases sr93 with qr93 | ⟨pr93, nr93, yr93⟩
              · obtain ⟨hzr93, nlr93, Cr93, szr93, hTr93⟩ : rnr93 = 0 ∧ ∃ (nl' : Nat) (C' : Nat → Int) (sz' : Nat), zT u.1 a t x b cd Gr93 B ln qr93 nl' C' sz' ord := htr93
                subst hzr93
                refine zp_if (pc := 75) (tgt := 80) hx hb (zd_X5_sum (75, .ifCond .ne 5, 3, 0, []) (List.mem_of_getElem? (i := 36) rfl)) rfl (fun (hc94 : ¬ 0 = 0) => ?_) (fun (hc94 : ¬ (¬ 0 = 0)) => ?_)
                · exfalso
                  omega
                · refine zp_const (pc := 78) hx hb (zd_X5_sum (78, .iconst 0, 1, 0, []) (List.mem_of_getElem? (i := 37) rfl)) rfl rfl ?_
                  refine zp_zret (pc := 79) (n := 0) hx hb hE hQ hU5 rfl (show (1 : Nat) ≠ 2 by decide) (zd_X5_sum (79, .ireturn, 1, 0, []) (List.mem_of_getElem? (i := 38) rfl)) (j := 0) rfl (zp_o0 (by omega) (by omega) (by omega) (by omega)) ?_
                  rw [hps]
                  refine ⟨rfl, Sum.inl qr93, ?_, rfl, _, _, _, hTr93⟩
                  exact hgo _ (yZ_ad hyes (Or.inl ⟨_, rfl, hsr93⟩))
              · obtain ⟨hzr93, hyr93, kr93, Cr93, szr93, hnr93, hTTr93, hHr93, hur93, hf9r93⟩ : rnr93 = 1 ∧ (_ → yd_T yr93) ∧ ∃ (k : Nat) (C' : Nat → Int) (sz' : Nat), nr93 = (nl + k1) + k ∧ zT u.1 a t x b cd Gr93 B ln pr93 nr93 C' sz' ord ∧ yH ord sz1 C1 C' sz' k yr93 ∧ sz' + (uu + 2) ≤ 2 * zy_fr B ln pr93 + 72 ∧ zy_fr B ln (zy_to B ln tk1) + 1 ≤ zy_fr B ln pr93 := htr93
                subst hzr93
                obtain rfl : nr93 = nl + (k1 + kr93) := by omega
                have hTr93 : zT u.1 a t x b cd Gr93 B ln pr93 (nl + (k1 + kr93)) Cr93 szr93 ord := hTTr93
                have hXr93 := hTr93
                obtain ⟨⟨-, ga0r93, ga1r93, gx5r93⟩, hTtr93, ⟨ga3r93, ga4r93, hnlr93⟩, gx7r93, hszr93, hCr93⟩ := hXr93
                have hfr93 := zTt_f hTtr93
                refine zp_if (pc := 75) (tgt := 80) hx hb (zd_X5_sum (75, .ifCond .ne 5, 3, 0, []) (List.mem_of_getElem? (i := 36) rfl)) rfl (fun (hc95 : ¬ 1 = 0) => ?_) (fun (hc95 : ¬ (¬ 1 = 0)) => ?_)
                · refine zp_load (pc := 80) hx hb (zd_X5_sum (80, .aload_n 0, 1, 0, []) (List.mem_of_getElem? (i := 39) rfl)) rfl (j := 2) rfl ?_
                  refine zp_getf (n := (x : Int)) (pc := 81) hx hb hE hw (zd_X5_sum (81, .getfield 16, 3, 0, []) (List.mem_of_getElem? (i := 40) rfl)) (j := 10) rfl rfl rfl hp ga1r93 ?_
                  refine zp_load (pc := 84) hx hb (zd_X5_sum (84, .iload_n 3, 1, 0, []) (List.mem_of_getElem? (i := 41) rfl)) rfl (j := 0) rfl ?_
                  refine zp_const (pc := 85) hx hb (zd_X5_sum (85, .iconst 0, 1, 0, []) (List.mem_of_getElem? (i := 42) rfl)) rfl rfl ?_
                  refine zp_call (pc := 86) (how := 0) (idx := 123) (mi := 66) (S := []) hx hb hE hw heff hrm (zX_vad hW cd szr93 Cr93) rfl (j := 14) rfl rfl (zcb_usu_vad d hd) (zd_X5_sum (86, .invokevirtual 123, 3, 0, []) (List.mem_of_getElem? (i := 43) rfl)) [(x : Int), 6, 0] rfl ⟨zp_o2 px, zp_o0 (by decide) (by decide) (by decide) (by decide), zp_o0 (by decide) (by decide) (by decide) (by decide), trivial⟩ (Nat.le_of_ble_eq_true rfl) ⟨⟨gx7r93, by omega⟩, gx5r93, pc, hCr93⟩ (fun al hal rna96 Pa96 Ga96 hexta96 hfra96 hoka96 hcsa96 hpsia96 => ?_)
                  obtain rfl := List.mem_singleton.mp hal
                  have hra96 := zp_int (hoka96 _ rfl).1
                  obtain ⟨rfl, htra96, ht7a96, htca96⟩ := hpsia96
                  have hTa96 : zT u.1 a t x b cd Ga96 B ln pr93 (nl + (k1 + kr93)) (yh Cr93 szr93 6 0) (szr93 + 2) ord := zT_ad hTr93 hfra96 ht7a96 (by omega) htca96
                  have hXa96 := hTa96
                  obtain ⟨⟨-, ga0a96, ga1a96, gx5a96⟩, hTta96, ⟨ga3a96, ga4a96, hnla96⟩, gx7a96, hsza96, hCa96⟩ := hXa96
                  have hfa96 := zTt_f hTta96
                  refine zp_pop (pc := 89) hx hb (zd_X5_sum (89, .pop, 1, 0, []) (List.mem_of_getElem? (i := 44) rfl)) (show (0 : Nat) ≠ 1 by decide) ?_
                  refine zp_iinc (L' := [(2, 0, ((k : Int) + 1)), (3, 0, 6), (0, 2, (a : Int)), (1, 0, (d : Int))]) (n := ((k : Int) + 1)) (pc := 90) hx hb hnL (zd_X5_sum (90, .iinc 2 1, 3, 0, []) (List.mem_of_getElem? (i := 45) rfl)) (j := 1) rfl (by omega) (zp_r0 (by omega) (by omega)) rfl rfl ?_
                  refine zp_goto (tgt := 12) (pc := 93) hx hb (zd_X5_sum (93, .goto (-81), 3, 0, []) (List.mem_of_getElem? (i := 46) rfl)) rfl ?_
                  refine zp_drop (L' := [(2, 0, ((k + 1 : Nat) : Int)), (0, 2, (a : Int)), (1, 0, (d : Int))]) (by simp <;> omega) ?_
                  have hH9 := yH_op hH1 hHr93 (s := 6) (v := 0) (by omega) (by omega)
                  rw [show (6 + 14 : Int) = yr_ad (zy_so B ln) (zy_wo B ln) tk1 by omega] at hH9
                  exact ih (k + 1) pr93 (k1 + kr93) (yd_op (yr_ad (zy_so B ln) (zy_wo B ln) tk1) x1 yr93) _ _ _ hTa96 hH9 (by omega) (by omega) (by omega) (by omega) (fun s hs => hgo s (yZ_ad hyes (Or.inr ⟨_, _, _, hsr93, hs⟩)))
                · exfalso
                  omega
          · exfalso
            omega
        · have zg88 : ¬ rng88 = 1 := fun z => hkg88 (hsg88.mp z)
          obtain rfl : rng88 = 0 := by omega
          refine zp_if (pc := 28) (tgt := 43) hx hb (zd_X5_sum (28, .ifCond .ne 15, 3, 0, []) (List.mem_of_getElem? (i := 15) rfl)) rfl (fun (hc97 : ¬ 0 = 0) => ?_) (fun (hc97 : ¬ (¬ 0 = 0)) => ?_)
          · exfalso
            omega
          · refine zp_load (pc := 31) hx hb (zd_X5_sum (31, .aload_n 0, 1, 0, []) (List.mem_of_getElem? (i := 16) rfl)) rfl (j := 1) rfl ?_
            refine zp_getf (n := (t : Int)) (pc := 32) hx hb hE hw (zd_X5_sum (32, .getfield 24, 3, 0, []) (List.mem_of_getElem? (i := 17) rfl)) (j := 9) rfl rfl rfl hp ga01 ?_
            refine zp_const (pc := 35) hx hb (zd_X5_sum (35, .bipush 45, 2, 0, []) (List.mem_of_getElem? (i := 18) rfl)) rfl rfl ?_
            refine zp_call (pc := 37) (how := 0) (idx := 53) (mi := 64) (S := []) hx hb hE hw heff hrm (zX_csi hW) rfl (j := 12) rfl rfl (zcb_usu_csi d hd) (zd_X5_sum (37, .invokevirtual 53, 3, 0, []) (List.mem_of_getElem? (i := 19) rfl)) [(t : Int), 45] rfl ⟨zp_o2 pt, zp_o0 (by decide) (by decide) (by decide) (by decide), trivial⟩ (Nat.le_of_ble_eq_true rfl) trivial (fun al hal rng98 Pg98 Gg98 hextg98 hfrg98 hokg98 hcsg98 hpsig98 => ?_)
            obtain rfl := List.mem_singleton.mp hal
            have hrg98 := zp_int (hokg98 _ rfl).1
            obtain ⟨hPeg98, hGeg98, htg98⟩ := hpsig98
            rw [hPeg98, hGeg98]
            have hsg98 := zT_sg hTt1 (ch := 45) (by decide) htg98
            by_cases hkg98 : yr_s (zy_so B ln) (zy_wo B ln) 45 tk1 = true
            · obtain rfl : rng98 = 1 := hsg98.mpr hkg98
              refine zp_if (pc := 40) (tgt := 96) hx hb (zd_X5_sum (40, .ifCond .eq 56, 3, 0, []) (List.mem_of_getElem? (i := 20) rfl)) rfl (fun (hc99 : 1 = 0) => ?_) (fun (hc99 : ¬ (1 = 0)) => ?_)
              · exfalso
                omega
              · refine zp_load (pc := 43) hx hb (zd_X5_sum (43, .aload_n 0, 1, 0, []) (List.mem_of_getElem? (i := 21) rfl)) rfl (j := 1) rfl ?_
                refine zp_getf (n := (t : Int)) (pc := 44) hx hb hE hw (zd_X5_sum (44, .getfield 24, 3, 0, []) (List.mem_of_getElem? (i := 22) rfl)) (j := 9) rfl rfl rfl hp ga01 ?_
                refine zp_const (pc := 47) hx hb (zd_X5_sum (47, .bipush 43, 2, 0, []) (List.mem_of_getElem? (i := 23) rfl)) rfl rfl ?_
                refine zp_call (pc := 49) (how := 0) (idx := 53) (mi := 64) (S := []) hx hb hE hw heff hrm (zX_csi hW) rfl (j := 12) rfl rfl (zcb_usu_csi d hd) (zd_X5_sum (49, .invokevirtual 53, 3, 0, []) (List.mem_of_getElem? (i := 24) rfl)) [(t : Int), 43] rfl ⟨zp_o2 pt, zp_o0 (by decide) (by decide) (by decide) (by decide), trivial⟩ (Nat.le_of_ble_eq_true rfl) trivial (fun al hal rng100 Pg100 Gg100 hextg100 hfrg100 hokg100 hcsg100 hpsig100 => ?_)
                obtain rfl := List.mem_singleton.mp hal
                have hrg100 := zp_int (hokg100 _ rfl).1
                obtain ⟨hPeg100, hGeg100, htg100⟩ := hpsig100
                rw [hPeg100, hGeg100]
                have hsg100 := zT_sg hTt1 (ch := 43) (by decide) htg100
                obtain rfl : rng100 = 0 := by
                  have z9 : ¬ rng100 = 1 := fun z => hkg88 (hsg100.mp z)
                  omega
                refine zp_if (pc := 52) (tgt := 60) hx hb (zd_X5_sum (52, .ifCond .eq 8, 3, 0, []) (List.mem_of_getElem? (i := 25) rfl)) rfl (fun (hc101 : 0 = 0) => ?_) (fun (hc101 : ¬ (0 = 0)) => ?_)
                · refine zp_const (pc := 60) hx hb (zd_X5_sum (60, .bipush 7, 2, 0, []) (List.mem_of_getElem? (i := 28) rfl)) rfl rfl ?_
                  refine zp_store (L' := [(3, 0, 7), (2, 0, (k : Int)), (0, 2, (a : Int)), (1, 0, (d : Int))]) (pc := 62) hx hb hnL (zd_X5_sum (62, .istore_n 3, 1, 0, []) (List.mem_of_getElem? (i := 29) rfl)) rfl rfl rfl ?_
                  refine zp_load (pc := 63) hx hb (zd_X5_sum (63, .aload_n 0, 1, 0, []) (List.mem_of_getElem? (i := 30) rfl)) rfl (j := 2) rfl ?_
                  refine zp_getf (n := (t : Int)) (pc := 64) hx hb hE hw (zd_X5_sum (64, .getfield 24, 3, 0, []) (List.mem_of_getElem? (i := 31) rfl)) (j := 9) rfl rfl rfl hp ga01 ?_
                  have hst9 : yr_ad (zy_so B ln) (zy_wo B ln) tk1 = 21 := by
                    unfold yr_ad
                    rw [if_neg hkg88, if_pos hkg98]
                  have hyes : ¬ yr_ad (zy_so B ln) (zy_wo B ln) tk1 = -1 := by omega
                  have hs9 := hg1.2.1 (by rw [yr_ad3 hyes]; decide)
                  refine zp_call (pc := 67) (how := 0) (idx := 60) (mi := 43) (S := []) hx hb hE hw heff hrm (zX_cnx hW) rfl (j := 6) rfl rfl (zcb_usu_cnx d hd) (zd_X5_sum (67, .invokevirtual 60, 3, 0, []) (List.mem_of_getElem? (i := 32) rfl)) [(t : Int)] rfl ⟨zp_o2 pt, trivial⟩ (Nat.le_of_ble_eq_true rfl) (zTt_q hTt1) (fun al hal rnn102 Pn102 Gn102 hextn102 hfrn102 hokn102 hcsn102 hpsin102 => ?_)
                  obtain rfl := List.mem_singleton.mp hal
                  obtain ⟨rfl, htn102⟩ := hpsin102
                  have hgon102 := zTt_go hTt1
                  have hTn102 : zT u.1 a t x b cd Gn102 B ln (zy_to B ln tk1) (nl + k1) C1 sz1 ord := zT_nx hT1 hfrn102 htn102
                  have hXn102 := hTn102
                  obtain ⟨⟨-, ga0n102, ga1n102, gx5n102⟩, hTtn102, ⟨ga3n102, ga4n102, hnln102⟩, gx7n102, hszn102, hCn102⟩ := hXn102
                  have hfn102 := zTt_f hTtn102
                  refine zp_load (pc := 70) hx hb (zd_X5_sum (70, .aload_n 0, 1, 0, []) (List.mem_of_getElem? (i := 33) rfl)) rfl (j := 2) rfl ?_
                  refine zp_load (pc := 71) hx hb (zd_X5_sum (71, .iload_n 1, 1, 0, []) (List.mem_of_getElem? (i := 34) rfl)) rfl (j := 3) rfl ?_
                  refine zp_call (pc := 72) (how := 0) (idx := 152) (mi := 62) (S := []) hx hb hE hw heff hrm (hte t x b cd B ln (zy_to B ln tk1) (nl + k1) C1 sz1 (uu + 2) ord x1) rfl (j := 10) rfl rfl (zcb_usu_ute d hd) (zd_X5_sum (72, .invokevirtual 152, 3, 0, []) (List.mem_of_getElem? (i := 35) rfl)) [(a : Int), (d : Int)] rfl ⟨zp_o2 hp, zp_o0 (by omega) (by omega) (by omega) (by omega), trivial⟩ (Nat.le_of_ble_eq_true rfl) ⟨hTn102, rfl, by omega⟩ (fun al hal rnr103 Pr103 Gr103 hextr103 hfrr103 hokr103 hcsr103 hpsir103 => ?_)
                  obtain rfl := List.mem_singleton.mp hal
                  have hrr103 := zp_int (hokr103 _ rfl).1
                  obtain ⟨rfl, sr103, hsr103, htr103⟩ := hpsir103
                  rcases sr103 with qr103 | ⟨pr103, nr103, yr103⟩
                  · obtain ⟨hzr103, nlr103, Cr103, szr103, hTr103⟩ : rnr103 = 0 ∧ ∃ (nl' : Nat) (C' : Nat → Int) (sz' : Nat), zT u.1 a t x b cd Gr103 B ln qr103 nl' C' sz' ord := htr103
                    subst hzr103
                    refine zp_if (pc := 75) (tgt := 80) hx hb (zd_X5_sum (75, .ifCond .ne 5, 3, 0, []) (List.mem_of_getElem? (i := 36) rfl)) rfl (fun (hc104 : ¬ 0 = 0) => ?_) (fun (hc104 : ¬ (¬ 0 = 0)) => ?_)
                    · exfalso
                      omega
                    · refine zp_const (pc := 78) hx hb (zd_X5_sum (78, .iconst 0, 1, 0, []) (List.mem_of_getElem? (i := 37) rfl)) rfl rfl ?_
                      refine zp_zret (pc := 79) (n := 0) hx hb hE hQ hU5 rfl (show (1 : Nat) ≠ 2 by decide) (zd_X5_sum (79, .ireturn, 1, 0, []) (List.mem_of_getElem? (i := 38) rfl)) (j := 0) rfl (zp_o0 (by omega) (by omega) (by omega) (by omega)) ?_
                      rw [hps]
                      refine ⟨rfl, Sum.inl qr103, ?_, rfl, _, _, _, hTr103⟩
                      exact hgo _ (yZ_ad hyes (Or.inl ⟨_, rfl, hsr103⟩))
                  · obtain ⟨hzr103, hyr103, kr103, Cr103, szr103, hnr103, hTTr103, hHr103, hur103, hf9r103⟩ : rnr103 = 1 ∧ (_ → yd_T yr103) ∧ ∃ (k : Nat) (C' : Nat → Int) (sz' : Nat), nr103 = (nl + k1) + k ∧ zT u.1 a t x b cd Gr103 B ln pr103 nr103 C' sz' ord ∧ yH ord sz1 C1 C' sz' k yr103 ∧ sz' + (uu + 2) ≤ 2 * zy_fr B ln pr103 + 72 ∧ zy_fr B ln (zy_to B ln tk1) + 1 ≤ zy_fr B ln pr103 := htr103
                    subst hzr103
                    obtain rfl : nr103 = nl + (k1 + kr103) := by omega
                    have hTr103 : zT u.1 a t x b cd Gr103 B ln pr103 (nl + (k1 + kr103)) Cr103 szr103 ord := hTTr103
                    have hXr103 := hTr103
                    obtain ⟨⟨-, ga0r103, ga1r103, gx5r103⟩, hTtr103, ⟨ga3r103, ga4r103, hnlr103⟩, gx7r103, hszr103, hCr103⟩ := hXr103
                    have hfr103 := zTt_f hTtr103
                    refine zp_if (pc := 75) (tgt := 80) hx hb (zd_X5_sum (75, .ifCond .ne 5, 3, 0, []) (List.mem_of_getElem? (i := 36) rfl)) rfl (fun (hc105 : ¬ 1 = 0) => ?_) (fun (hc105 : ¬ (¬ 1 = 0)) => ?_)
                    · refine zp_load (pc := 80) hx hb (zd_X5_sum (80, .aload_n 0, 1, 0, []) (List.mem_of_getElem? (i := 39) rfl)) rfl (j := 2) rfl ?_
                      refine zp_getf (n := (x : Int)) (pc := 81) hx hb hE hw (zd_X5_sum (81, .getfield 16, 3, 0, []) (List.mem_of_getElem? (i := 40) rfl)) (j := 10) rfl rfl rfl hp ga1r103 ?_
                      refine zp_load (pc := 84) hx hb (zd_X5_sum (84, .iload_n 3, 1, 0, []) (List.mem_of_getElem? (i := 41) rfl)) rfl (j := 0) rfl ?_
                      refine zp_const (pc := 85) hx hb (zd_X5_sum (85, .iconst 0, 1, 0, []) (List.mem_of_getElem? (i := 42) rfl)) rfl rfl ?_
                      refine zp_call (pc := 86) (how := 0) (idx := 123) (mi := 66) (S := []) hx hb hE hw heff hrm (zX_vad hW cd szr103 Cr103) rfl (j := 14) rfl rfl (zcb_usu_vad d hd) (zd_X5_sum (86, .invokevirtual 123, 3, 0, []) (List.mem_of_getElem? (i := 43) rfl)) [(x : Int), 7, 0] rfl ⟨zp_o2 px, zp_o0 (by decide) (by decide) (by decide) (by decide), zp_o0 (by decide) (by decide) (by decide) (by decide), trivial⟩ (Nat.le_of_ble_eq_true rfl) ⟨⟨gx7r103, by omega⟩, gx5r103, pc, hCr103⟩ (fun al hal rna106 Pa106 Ga106 hexta106 hfra106 hoka106 hcsa106 hpsia106 => ?_)
                      obtain rfl := List.mem_singleton.mp hal
                      have hra106 := zp_int (hoka106 _ rfl).1
                      obtain ⟨rfl, htra106, ht7a106, htca106⟩ := hpsia106
                      have hTa106 : zT u.1 a t x b cd Ga106 B ln pr103 (nl + (k1 + kr103)) (yh Cr103 szr103 7 0) (szr103 + 2) ord := zT_ad hTr103 hfra106 ht7a106 (by omega) htca106
                      have hXa106 := hTa106
                      obtain ⟨⟨-, ga0a106, ga1a106, gx5a106⟩, hTta106, ⟨ga3a106, ga4a106, hnla106⟩, gx7a106, hsza106, hCa106⟩ := hXa106
                      have hfa106 := zTt_f hTta106
                      refine zp_pop (pc := 89) hx hb (zd_X5_sum (89, .pop, 1, 0, []) (List.mem_of_getElem? (i := 44) rfl)) (show (0 : Nat) ≠ 1 by decide) ?_
                      refine zp_iinc (L' := [(2, 0, ((k : Int) + 1)), (3, 0, 7), (0, 2, (a : Int)), (1, 0, (d : Int))]) (n := ((k : Int) + 1)) (pc := 90) hx hb hnL (zd_X5_sum (90, .iinc 2 1, 3, 0, []) (List.mem_of_getElem? (i := 45) rfl)) (j := 1) rfl (by omega) (zp_r0 (by omega) (by omega)) rfl rfl ?_
                      refine zp_goto (tgt := 12) (pc := 93) hx hb (zd_X5_sum (93, .goto (-81), 3, 0, []) (List.mem_of_getElem? (i := 46) rfl)) rfl ?_
                      refine zp_drop (L' := [(2, 0, ((k + 1 : Nat) : Int)), (0, 2, (a : Int)), (1, 0, (d : Int))]) (by simp <;> omega) ?_
                      have hH9 := yH_op hH1 hHr103 (s := 7) (v := 0) (by omega) (by omega)
                      rw [show (7 + 14 : Int) = yr_ad (zy_so B ln) (zy_wo B ln) tk1 by omega] at hH9
                      exact ih (k + 1) pr103 (k1 + kr103) (yd_op (yr_ad (zy_so B ln) (zy_wo B ln) tk1) x1 yr103) _ _ _ hTa106 hH9 (by omega) (by omega) (by omega) (by omega) (fun s hs => hgo s (yZ_ad hyes (Or.inr ⟨_, _, _, hsr103, hs⟩)))
                    · exfalso
                      omega
                · exfalso
                  omega
            · have zg98 : ¬ rng98 = 1 := fun z => hkg98 (hsg98.mp z)
              obtain rfl : rng98 = 0 := by omega
              refine zp_if (pc := 40) (tgt := 96) hx hb (zd_X5_sum (40, .ifCond .eq 56, 3, 0, []) (List.mem_of_getElem? (i := 20) rfl)) rfl (fun (hc107 : 0 = 0) => ?_) (fun (hc107 : ¬ (0 = 0)) => ?_)
              · refine zp_const (pc := 96) hx hb (zd_X5_sum (96, .iconst 1, 1, 0, []) (List.mem_of_getElem? (i := 47) rfl)) rfl rfl ?_
                have hno : yr_ad (zy_so B ln) (zy_wo B ln) tk1 = -1 := by
                  unfold yr_ad
                  rw [if_neg hkg88, if_neg hkg98]
                refine zp_zret (pc := 97) (n := 1) hx hb hE hQ hU5 rfl (show (1 : Nat) ≠ 2 by decide) (zd_X5_sum (97, .ireturn, 1, 0, []) (List.mem_of_getElem? (i := 48) rfl)) (j := 0) rfl (zp_o0 (by omega) (by omega) (by omega) (by omega)) ?_
                rw [hps]
                exact ⟨rfl, Sum.inr (tk1, nl + k1, x1), hgo _ (yZ_ad0 hno), rfl, fun z => absurd z (by decide), k1, C1, sz1, rfl, hT1, hH1, hu1, hz1⟩
              · exfalso
                omega
  refine zp_load (pc := 0) hx hb (zd_X5_sum (0, .aload_n 0, 1, 0, []) (List.mem_of_getElem? (i := 0) rfl)) rfl (j := 0) rfl ?_
  refine zp_load (pc := 1) hx hb (zd_X5_sum (1, .iload_n 1, 1, 0, []) (List.mem_of_getElem? (i := 1) rfl)) rfl (j := 1) rfl ?_
  refine zp_call (pc := 2) (how := 0) (idx := 152) (mi := 62) (S := []) hx hb hE hw heff hrm (hte t x b cd B ln tk nl C sz uu ord x0) rfl (j := 10) rfl rfl (zcb_usu_ute d hd) (zd_X5_sum (2, .invokevirtual 152, 3, 0, []) (List.mem_of_getElem? (i := 2) rfl)) [(a : Int), (d : Int)] rfl ⟨zp_o2 hp, zp_o0 (by omega) (by omega) (by omega) (by omega), trivial⟩ (Nat.le_of_ble_eq_true rfl) ⟨hT0, rfl, by omega⟩ (fun al hal rnr108 Pr108 Gr108 hextr108 hfrr108 hokr108 hcsr108 hpsir108 => ?_)
  obtain rfl := List.mem_singleton.mp hal
  have hrr108 := zp_int (hokr108 _ rfl).1
  obtain ⟨rfl, sr108, hsr108, htr108⟩ := hpsir108
  rcases sr108 with qr108 | ⟨pr108, nr108, yr108⟩
  · obtain ⟨hzr108, nlr108, Cr108, szr108, hTr108⟩ : rnr108 = 0 ∧ ∃ (nl' : Nat) (C' : Nat → Int) (sz' : Nat), zT u.1 a t x b cd Gr108 B ln qr108 nl' C' sz' ord := htr108
    subst hzr108
    refine zp_if (pc := 5) (tgt := 10) hx hb (zd_X5_sum (5, .ifCond .ne 5, 3, 0, []) (List.mem_of_getElem? (i := 3) rfl)) rfl (fun (hc109 : ¬ 0 = 0) => ?_) (fun (hc109 : ¬ (¬ 0 = 0)) => ?_)
    · exfalso
      omega
    · refine zp_const (pc := 8) hx hb (zd_X5_sum (8, .iconst 0, 1, 0, []) (List.mem_of_getElem? (i := 4) rfl)) rfl rfl ?_
      refine zp_zret (pc := 9) (n := 0) hx hb hE hQ hU5 rfl (show (1 : Nat) ≠ 2 by decide) (zd_X5_sum (9, .ireturn, 1, 0, []) (List.mem_of_getElem? (i := 5) rfl)) (j := 0) rfl (zp_o0 (by omega) (by omega) (by omega) (by omega)) ?_
      rw [hps]
      refine ⟨rfl, Sum.inl qr108, ?_, rfl, _, _, _, hTr108⟩
      exact yZ_row (k := 3) (k1 := 1) (k2 := 4) (fun f => yr_3) (Or.inl ⟨_, rfl, hsr108⟩)
  · obtain ⟨hzr108, hyr108, kr108, Cr108, szr108, hnr108, hTTr108, hHr108, hur108, hf9r108⟩ : rnr108 = 1 ∧ (_ → yd_T yr108) ∧ ∃ (k : Nat) (C' : Nat → Int) (sz' : Nat), nr108 = nl + k ∧ zT u.1 a t x b cd Gr108 B ln pr108 nr108 C' sz' ord ∧ yH ord sz C C' sz' k yr108 ∧ sz' + uu ≤ 2 * zy_fr B ln pr108 + 72 ∧ zy_fr B ln tk + 1 ≤ zy_fr B ln pr108 := htr108
    subst hzr108
    obtain rfl : nr108 = nl + kr108 := by omega
    have hTr108 : zT u.1 a t x b cd Gr108 B ln pr108 (nl + kr108) Cr108 szr108 ord := hTTr108
    have hXr108 := hTr108
    obtain ⟨⟨-, ga0r108, ga1r108, gx5r108⟩, hTtr108, ⟨ga3r108, ga4r108, hnlr108⟩, gx7r108, hszr108, hCr108⟩ := hXr108
    have hfr108 := zTt_f hTtr108
    have hgo0 : ∀ s, yZ (zy_so B ln) (zy_wo B ln) (zy_to B ln) (ylf ord B ln) 4 d (nl + kr108) pr108 yr108 s → yZ (zy_so B ln) (zy_wo B ln) (zy_to B ln) (ylf ord B ln) 3 d nl tk x0 s := fun s hs => yZ_row (k := 3) (k1 := 1) (k2 := 4) (fun f => yr_3) (Or.inr ⟨_, _, _, hsr108, hs⟩)
    refine zp_if (pc := 5) (tgt := 10) hx hb (zd_X5_sum (5, .ifCond .ne 5, 3, 0, []) (List.mem_of_getElem? (i := 3) rfl)) rfl (fun (hc110 : ¬ 1 = 0) => ?_) (fun (hc110 : ¬ (¬ 1 = 0)) => ?_)
    · refine zp_const (pc := 10) hx hb (zd_X5_sum (10, .iconst 0, 1, 0, []) (List.mem_of_getElem? (i := 6) rfl)) rfl rfl ?_
      refine zp_store (L' := [(2, 0, 0), (0, 2, (a : Int)), (1, 0, (d : Int))]) (pc := 11) hx hb hnL (zd_X5_sum (11, .istore_n 2, 1, 0, []) (List.mem_of_getElem? (i := 7) rfl)) rfl rfl rfl ?_
      refine zp_drop (L' := [(2, 0, ((0 : Nat) : Int)), (0, 2, (a : Int)), (1, 0, (d : Int))]) (by simp) ?_
      exact loop 402 0 pr108 kr108 yr108 _ _ _ hTr108 hHr108 hur108 hf9r108 (by omega) (by omega) hgo0
    · exfalso
      omega
theorem zcb_ubr_cnx : ∀ d, d < 9 → zp_cb (zk_Ke (zK_ubr d)) (zk_Kr (zK_ubr d)) (zK_cnx) 0 = true := by decide +kernel
theorem zcb_ubr_utsu : ∀ d, d < 8 → zp_cb (zk_Ke (zK_ubr d)) (zk_Kr (zK_ubr d)) (zK_uts (d + 1)) 0 = true := by decide +kernel
theorem zcb_ubr_csi : ∀ d, d < 9 → zp_cb (zk_Ke (zK_ubr d)) (zk_Kr (zK_ubr d)) (zK_csi) 0 = true := by decide +kernel
theorem zX_ubr {l : Launch} {w : zk_W} (hW : zh_W w) (d : Nat) (hd : d < 9) (ih : d < 8 → zQ_uts l w (d + 1)) : zQ_ubr l w d := by
  intro t x b cd B ln tk nl C sz uu ord x0
  refine zp_methX (cn := "WoundTown$Reader") zp_lkallRd hW (pl := 859) rfl (zb_ubr d hd) (fun p e R s m args below meth c Q u hx hb hE hQ hU5 heff hnL hok hφ => ?_)
  have hw := hW.1
  obtain ⟨p0, p1, hps, k0, k1⟩ := zp_ps2 hok
  obtain ⟨a, rfl, hp⟩ := zp_this k0
  have hrm : zk_Kr (zk_ev (zt_types, zp_lkRd, zt_dv, [], [], zp_lcRd, zK_ubr d)) = zk_Kr (zK_ubr d) := rfl
  rw [hps] at hφ ⊢
  show zp_J p l e R s m args below meth c Q w u [] 0 [(0, 2, (a : Int)), (1, 0, p1)] [] u.1 (zp_n u.2.1)
  obtain ⟨hT, hd9, hu, h40⟩ : zT u.1 a t x b cd (zp_n u.2.1) B ln tk nl C sz ord ∧ p1 = (d : Int) ∧ sz + uu ≤ 2 * zy_fr B ln tk + 72 ∧ yr_s (zy_so B ln) (zy_wo B ln) 40 tk = true := hφ
  subst hd9
  have hX := hT
  obtain ⟨⟨⟨pa, pt, px, pb, pc⟩, -, -, -⟩, -⟩ := hX
  have hT0 : zT u.1 a t x b cd (zp_n u.2.1) B ln tk nl C sz ord := hT
  have hX0 := hT0
  obtain ⟨⟨-, ga00, ga10, gx50⟩, hTt0, ⟨ga30, ga40, hnl0⟩, gx70, hsz0, hC0⟩ := hX0
  have hf0 := zTt_f hTt0
  have h14 : ¬ yr_w (zy_so B ln) (zy_wo B ln) 14836 tk = true := fun z => by have := (yr_w_i.mp z).1; have := (yr_s_i.mp h40).1; omega
  refine zp_load (pc := 0) hx hb (zd_X5_bracketed (0, .iload_n 1, 1, 0, []) (List.mem_of_getElem? (i := 0) rfl)) rfl (j := 1) rfl ?_
  refine zp_const (pc := 1) hx hb (zd_X5_bracketed (1, .bipush 8, 2, 0, []) (List.mem_of_getElem? (i := 1) rfl)) rfl rfl ?_
  refine zp_icmp (pc := 3) (tgt := 8) hx hb (zd_X5_bracketed (3, .if_icmp .lt 5, 3, 0, []) (List.mem_of_getElem? (i := 2) rfl)) rfl (fun (hc111 : (d : Int) < 8) => ?_) (fun (hc111 : ¬ ((d : Int) < 8)) => ?_)
  · refine zp_load (pc := 8) hx hb (zd_X5_bracketed (8, .aload_n 0, 1, 0, []) (List.mem_of_getElem? (i := 5) rfl)) rfl (j := 0) rfl ?_
    refine zp_getf (n := (t : Int)) (pc := 9) hx hb hE hw (zd_X5_bracketed (9, .getfield 24, 3, 0, []) (List.mem_of_getElem? (i := 6) rfl)) (j := 9) rfl rfl rfl hp ga00 ?_
    have hs90 := (zTt_go hTt0).2.1 (by rw [(yr_s_i.mp h40).1]; decide)
    refine zp_call (pc := 12) (how := 0) (idx := 60) (mi := 43) (S := []) hx hb hE hw heff hrm (zX_cnx hW) rfl (j := 6) rfl rfl (zcb_ubr_cnx d hd) (zd_X5_bracketed (12, .invokevirtual 60, 3, 0, []) (List.mem_of_getElem? (i := 7) rfl)) [(t : Int)] rfl ⟨zp_o2 pt, trivial⟩ (Nat.le_of_ble_eq_true rfl) (zTt_q hTt0) (fun al hal rnn112 Pn112 Gn112 hextn112 hfrn112 hokn112 hcsn112 hpsin112 => ?_)
    obtain rfl := List.mem_singleton.mp hal
    obtain ⟨rfl, htn112⟩ := hpsin112
    have hgon112 := zTt_go hTt0
    have hTn112 : zT u.1 a t x b cd Gn112 B ln (zy_to B ln tk) nl C sz ord := zT_nx hT0 hfrn112 htn112
    have hXn112 := hTn112
    obtain ⟨⟨-, ga0n112, ga1n112, gx5n112⟩, hTtn112, ⟨ga3n112, ga4n112, hnln112⟩, gx7n112, hszn112, hCn112⟩ := hXn112
    have hfn112 := zTt_f hTtn112
    refine zp_load (pc := 15) hx hb (zd_X5_bracketed (15, .aload_n 0, 1, 0, []) (List.mem_of_getElem? (i := 8) rfl)) rfl (j := 0) rfl ?_
    refine zp_load (pc := 16) hx hb (zd_X5_bracketed (16, .iload_n 1, 1, 0, []) (List.mem_of_getElem? (i := 9) rfl)) rfl (j := 1) rfl ?_
    refine zp_const (pc := 17) hx hb (zd_X5_bracketed (17, .iconst 1, 1, 0, []) (List.mem_of_getElem? (i := 10) rfl)) rfl rfl ?_
    refine zp_add (n := ((d : Int) + 1)) (pc := 18) hx hb (zd_X5_bracketed (18, .iadd, 1, 0, []) (List.mem_of_getElem? (i := 11) rfl)) (by omega) (zp_r0 (by omega) (by omega)) ?_
    refine zp_call (pc := 19) (how := 0) (idx := 120) (mi := 71) (S := []) hx hb hE hw heff hrm (ih (by omega) t x b cd B ln (zy_to B ln tk) nl C sz uu ord x0) rfl (j := 19) rfl rfl (zcb_ubr_utsu d (by omega)) (zd_X5_bracketed (19, .invokevirtual 120, 3, 0, []) (List.mem_of_getElem? (i := 12) rfl)) [(a : Int), ((d : Int) + 1)] rfl ⟨zp_o2 hp, zp_o0 (by omega) (by omega) (by omega) (by omega), trivial⟩ (Nat.le_of_ble_eq_true rfl) ⟨hTn112, by show ((d : Int) + 1) = ((d + 1 : Nat) : Int); omega, by omega⟩ (fun al hal rnr113 Pr113 Gr113 hextr113 hfrr113 hokr113 hcsr113 hpsir113 => ?_)
    obtain rfl := List.mem_singleton.mp hal
    have hrr113 := zp_int (hokr113 _ rfl).1
    obtain ⟨rfl, sr113, hsr113, htr113⟩ := hpsir113
    rcases sr113 with qr113 | ⟨pr113, nr113, yr113⟩
    · obtain ⟨hzr113, nlr113, Cr113, szr113, hTr113⟩ : rnr113 = 0 ∧ ∃ (nl' : Nat) (C' : Nat → Int) (sz' : Nat), zT u.1 a t x b cd Gr113 B ln qr113 nl' C' sz' ord := htr113
      subst hzr113
      refine zp_if (pc := 22) (tgt := 37) hx hb (zd_X5_bracketed (22, .ifCond .eq 15, 3, 0, []) (List.mem_of_getElem? (i := 13) rfl)) rfl (fun (hc114 : 0 = 0) => ?_) (fun (hc114 : ¬ (0 = 0)) => ?_)
      · refine zp_const (pc := 37) hx hb (zd_X5_bracketed (37, .iconst 0, 1, 0, []) (List.mem_of_getElem? (i := 19) rfl)) rfl rfl ?_
        refine zp_zret (pc := 38) (n := 0) hx hb hE hQ hU5 rfl (show (1 : Nat) ≠ 2 by decide) (zd_X5_bracketed (38, .ireturn, 1, 0, []) (List.mem_of_getElem? (i := 20) rfl)) (j := 0) rfl (zp_o0 (by omega) (by omega) (by omega) (by omega)) ?_
        rw [hps]
        refine ⟨rfl, Sum.inl qr113, ?_, rfl, _, _, _, hTr113⟩
        exact yZ_ro h14 h40 (by omega) (Or.inl ⟨_, rfl, hsr113⟩)
      · exfalso
        omega
    · obtain ⟨hzr113, hyr113, kr113, Cr113, szr113, hnr113, hTTr113, hHr113, hur113, hf9r113⟩ : rnr113 = 1 ∧ (_ → yd_T yr113) ∧ ∃ (k : Nat) (C' : Nat → Int) (sz' : Nat), nr113 = nl + k ∧ zT u.1 a t x b cd Gr113 B ln pr113 nr113 C' sz' ord ∧ yH ord sz C C' sz' k yr113 ∧ sz' + uu ≤ 2 * zy_fr B ln pr113 + 72 ∧ zy_fr B ln (zy_to B ln tk) + 1 ≤ zy_fr B ln pr113 := htr113
      subst hzr113
      obtain rfl : nr113 = nl + kr113 := by omega
      have hTr113 : zT u.1 a t x b cd Gr113 B ln pr113 (nl + kr113) Cr113 szr113 ord := hTTr113
      have hXr113 := hTr113
      obtain ⟨⟨-, ga0r113, ga1r113, gx5r113⟩, hTtr113, ⟨ga3r113, ga4r113, hnlr113⟩, gx7r113, hszr113, hCr113⟩ := hXr113
      have hfr113 := zTt_f hTtr113
      refine zp_if (pc := 22) (tgt := 37) hx hb (zd_X5_bracketed (22, .ifCond .eq 15, 3, 0, []) (List.mem_of_getElem? (i := 13) rfl)) rfl (fun (hc115 : 1 = 0) => ?_) (fun (hc115 : ¬ (1 = 0)) => ?_)
      · exfalso
        omega
      · refine zp_load (pc := 25) hx hb (zd_X5_bracketed (25, .aload_n 0, 1, 0, []) (List.mem_of_getElem? (i := 14) rfl)) rfl (j := 0) rfl ?_
        refine zp_getf (n := (t : Int)) (pc := 26) hx hb hE hw (zd_X5_bracketed (26, .getfield 24, 3, 0, []) (List.mem_of_getElem? (i := 15) rfl)) (j := 9) rfl rfl rfl hp ga0r113 ?_
        refine zp_const (pc := 29) hx hb (zd_X5_bracketed (29, .bipush 41, 2, 0, []) (List.mem_of_getElem? (i := 16) rfl)) rfl rfl ?_
        refine zp_call (pc := 31) (how := 0) (idx := 53) (mi := 64) (S := []) hx hb hE hw heff hrm (zX_csi hW) rfl (j := 12) rfl rfl (zcb_ubr_csi d hd) (zd_X5_bracketed (31, .invokevirtual 53, 3, 0, []) (List.mem_of_getElem? (i := 17) rfl)) [(t : Int), 41] rfl ⟨zp_o2 pt, zp_o0 (by decide) (by decide) (by decide) (by decide), trivial⟩ (Nat.le_of_ble_eq_true rfl) trivial (fun al hal rng116 Pg116 Gg116 hextg116 hfrg116 hokg116 hcsg116 hpsig116 => ?_)
        obtain rfl := List.mem_singleton.mp hal
        have hrg116 := zp_int (hokg116 _ rfl).1
        obtain ⟨hPeg116, hGeg116, htg116⟩ := hpsig116
        rw [hPeg116, hGeg116]
        have hsg116 := zT_sg hTtr113 (ch := 41) (by decide) htg116
        by_cases hkg116 : yr_s (zy_so B ln) (zy_wo B ln) 41 pr113 = true
        · obtain rfl : rng116 = 1 := hsg116.mpr hkg116
          refine zp_if (pc := 34) (tgt := 39) hx hb (zd_X5_bracketed (34, .ifCond .ne 5, 3, 0, []) (List.mem_of_getElem? (i := 18) rfl)) rfl (fun (hc117 : ¬ 1 = 0) => ?_) (fun (hc117 : ¬ (¬ 1 = 0)) => ?_)
          · refine zp_load (pc := 39) hx hb (zd_X5_bracketed (39, .aload_n 0, 1, 0, []) (List.mem_of_getElem? (i := 21) rfl)) rfl (j := 0) rfl ?_
            refine zp_getf (n := (t : Int)) (pc := 40) hx hb hE hw (zd_X5_bracketed (40, .getfield 24, 3, 0, []) (List.mem_of_getElem? (i := 22) rfl)) (j := 9) rfl rfl rfl hp ga0r113 ?_
            have hs9r113 := (zTt_go hTtr113).2.1 (by rw [(yr_s_i.mp hkg116).1]; decide)
            refine zp_call (pc := 43) (how := 0) (idx := 60) (mi := 43) (S := []) hx hb hE hw heff hrm (zX_cnx hW) rfl (j := 6) rfl rfl (zcb_ubr_cnx d hd) (zd_X5_bracketed (43, .invokevirtual 60, 3, 0, []) (List.mem_of_getElem? (i := 23) rfl)) [(t : Int)] rfl ⟨zp_o2 pt, trivial⟩ (Nat.le_of_ble_eq_true rfl) (zTt_q hTtr113) (fun al hal rnn118 Pn118 Gn118 hextn118 hfrn118 hokn118 hcsn118 hpsin118 => ?_)
            obtain rfl := List.mem_singleton.mp hal
            obtain ⟨rfl, htn118⟩ := hpsin118
            have hgon118 := zTt_go hTtr113
            have hTn118 : zT u.1 a t x b cd Gn118 B ln (zy_to B ln pr113) (nl + kr113) Cr113 szr113 ord := zT_nx hTr113 hfrn118 htn118
            have hXn118 := hTn118
            obtain ⟨⟨-, ga0n118, ga1n118, gx5n118⟩, hTtn118, ⟨ga3n118, ga4n118, hnln118⟩, gx7n118, hszn118, hCn118⟩ := hXn118
            have hfn118 := zTt_f hTtn118
            refine zp_const (pc := 46) hx hb (zd_X5_bracketed (46, .iconst 1, 1, 0, []) (List.mem_of_getElem? (i := 24) rfl)) rfl rfl ?_
            refine zp_zret (pc := 47) (n := 1) hx hb hE hQ hU5 rfl (show (1 : Nat) ≠ 2 by decide) (zd_X5_bracketed (47, .ireturn, 1, 0, []) (List.mem_of_getElem? (i := 25) rfl)) (j := 0) rfl (zp_o0 (by omega) (by omega) (by omega) (by omega)) ?_
            rw [hps]
            refine ⟨rfl, Sum.inr ((zy_to B ln pr113), _, yr113), ?_, rfl, hyr113, kr113, Cr113, szr113, rfl, hTn118, hHr113, by omega, by omega⟩
            exact yZ_ro h14 h40 (by omega) (Or.inr ⟨_, _, _, hsr113, (if_pos hkg116).symm⟩)
          · exfalso
            omega
        · have zg116 : ¬ rng116 = 1 := fun z => hkg116 (hsg116.mp z)
          obtain rfl : rng116 = 0 := by omega
          refine zp_if (pc := 34) (tgt := 39) hx hb (zd_X5_bracketed (34, .ifCond .ne 5, 3, 0, []) (List.mem_of_getElem? (i := 18) rfl)) rfl (fun (hc119 : ¬ 0 = 0) => ?_) (fun (hc119 : ¬ (¬ 0 = 0)) => ?_)
          · exfalso
            omega
          · refine zp_const (pc := 37) hx hb (zd_X5_bracketed (37, .iconst 0, 1, 0, []) (List.mem_of_getElem? (i := 19) rfl)) rfl rfl ?_
            refine zp_zret (pc := 38) (n := 0) hx hb hE hQ hU5 rfl (show (1 : Nat) ≠ 2 by decide) (zd_X5_bracketed (38, .ireturn, 1, 0, []) (List.mem_of_getElem? (i := 20) rfl)) (j := 0) rfl (zp_o0 (by omega) (by omega) (by omega) (by omega)) ?_
            rw [hps]
            refine ⟨rfl, Sum.inl pr113, ?_, rfl, _, _, _, hTr113⟩
            exact yZ_ro h14 h40 (by omega) (Or.inr ⟨_, _, _, hsr113, (if_neg hkg116).symm⟩)
  · refine zp_const (pc := 6) hx hb (zd_X5_bracketed (6, .iconst 0, 1, 0, []) (List.mem_of_getElem? (i := 3) rfl)) rfl rfl ?_
    refine zp_zret (pc := 7) (n := 0) hx hb hE hQ hU5 rfl (show (1 : Nat) ≠ 2 by decide) (zd_X5_bracketed (7, .ireturn, 1, 0, []) (List.mem_of_getElem? (i := 4) rfl)) (j := 0) rfl (zp_o0 (by omega) (by omega) (by omega) (by omega)) ?_
    rw [hps]
    refine ⟨rfl, Sum.inl tk, ?_, rfl, _, _, _, hT0⟩
    exact yZ_dp h14 h40 (by omega)
theorem zcb_upl_csi : ∀ d, d < 9 → zp_cb (zk_Ke (zK_upl d)) (zk_Kr (zK_upl d)) (zK_csi) 0 = true := by decide +kernel
theorem zcb_upl_ubr : ∀ d, d < 9 → zp_cb (zk_Ke (zK_upl d)) (zk_Kr (zK_upl d)) (zK_ubr d) 0 = true := by decide +kernel
theorem zcb_upl_vad : ∀ d, d < 9 → zp_cb (zk_Ke (zK_upl d)) (zk_Kr (zK_upl d)) (zK_vad) 0 = true := by decide +kernel
theorem zcb_upl_usu : ∀ d, d < 9 → zp_cb (zk_Ke (zK_upl d)) (zk_Kr (zK_upl d)) (zK_usu d) 0 = true := by decide +kernel
theorem zcb_upl_uc : ∀ d, d < 9 → zp_cb (zk_Ke (zK_upl d)) (zk_Kr (zK_upl d)) (zK_uc) 0 = true := by decide +kernel
theorem zcb_upl_cnx : ∀ d, d < 9 → zp_cb (zk_Ke (zK_upl d)) (zk_Kr (zK_upl d)) (zK_cnx) 0 = true := by decide +kernel
theorem zcb_upl_vino : ∀ d, d < 9 → zp_cb (zk_Ke (zK_upl d)) (zk_Kr (zK_upl d)) (zK_vino) 0 = true := by decide +kernel
theorem zX_upl {l : Launch} {w : zk_W} (hW : zh_W w) (d : Nat) (hd : d < 9) (hbr : zQ_ubr l w d) (hsu : zQ_usu l w d) : zQ_upl l w d := by
  intro t x b cd B ln tk nl C sz uu ord x0
  refine zp_methX (cn := "WoundTown$Reader") zp_lkallRd hW (pl := 854) rfl (zb_upl d hd) (fun p e R s m args below meth c Q u hx hb hE hQ hU5 heff hnL hok hφ => ?_)
  have hw := hW.1
  obtain ⟨p0, p1, hps, k0, k1⟩ := zp_ps2 hok
  obtain ⟨a, rfl, hp⟩ := zp_this k0
  have hrm : zk_Kr (zk_ev (zt_types, zp_lkRd, zt_dv, [], [], zp_lcRd, zK_upl d)) = zk_Kr (zK_upl d) := rfl
  rw [hps] at hφ ⊢
  show zp_J p l e R s m args below meth c Q w u [] 0 [(0, 2, (a : Int)), (1, 0, p1)] [] u.1 (zp_n u.2.1)
  obtain ⟨hT, hd9, hu⟩ : zT u.1 a t x b cd (zp_n u.2.1) B ln tk nl C sz ord ∧ p1 = (d : Int) ∧ sz + uu ≤ 2 * zy_fr B ln tk + 72 := hφ
  subst hd9
  have hX := hT
  obtain ⟨⟨⟨pa, pt, px, pb, pc⟩, -, -, -⟩, -⟩ := hX
  have hT0 : zT u.1 a t x b cd (zp_n u.2.1) B ln tk nl C sz ord := hT
  have hX0 := hT0
  obtain ⟨⟨-, ga00, ga10, gx50⟩, hTt0, ⟨ga30, ga40, hnl0⟩, gx70, hsz0, hC0⟩ := hX0
  have hf0 := zTt_f hTt0
  have h46 : ∀ (k tk1 it : Nat) (G1 : Nat → Nat → Int), zT u.1 a t x b cd G1 B ln tk1 nl C sz ord → sz + uu + 2 * it ≤ 2 * zy_fr B ln tk1 + 72 → zy_fr B ln tk ≤ zy_fr B ln tk1 → it ≤ 1 → ¬ yr_w (zy_so B ln) (zy_wo B ln) 14836 tk1 = true → (∀ s, yZ (zy_so B ln) (zy_wo B ln) (zy_to B ln) (ylf ord B ln) 5 d nl tk1 x0 s → yZ (zy_so B ln) (zy_wo B ln) (zy_to B ln) (ylf ord B ln) 5 d nl tk x0 (ytw it s)) → zp_J p l e R s m args below meth c Q w u [] 46 [(3, 0, (k : Int)), (2, 0, (it : Int)), (0, 2, (a : Int)), (1, 0, (d : Int))] [] u.1 G1 := by
    intro k tk1 it G1 hT1 hu1 hz1 hit h14 hgo
    have hT1 : zT u.1 a t x b cd G1 B ln tk1 nl C sz ord := hT1
    have hX1 := hT1
    obtain ⟨⟨-, ga01, ga11, gx51⟩, hTt1, ⟨ga31, ga41, hnl1⟩, gx71, hsz1, hC1⟩ := hX1
    have hf1 := zTt_f hTt1
    have hg1 := zTt_go hTt1
    refine zp_load (pc := 46) hx hb (zd_X5_plain (46, .aload_n 0, 1, 0, []) (List.mem_of_getElem? (i := 23) rfl)) rfl (j := 2) rfl ?_
    refine zp_getf (n := (t : Int)) (pc := 47) hx hb hE hw (zd_X5_plain (47, .getfield 24, 3, 0, []) (List.mem_of_getElem? (i := 24) rfl)) (j := 9) rfl rfl rfl hp ga01 ?_
    refine zp_const (pc := 50) hx hb (zd_X5_plain (50, .bipush 40, 2, 0, []) (List.mem_of_getElem? (i := 25) rfl)) rfl rfl ?_
    refine zp_call (pc := 52) (how := 0) (idx := 53) (mi := 64) (S := []) hx hb hE hw heff hrm (zX_csi hW) rfl (j := 12) rfl rfl (zcb_upl_csi d hd) (zd_X5_plain (52, .invokevirtual 53, 3, 0, []) (List.mem_of_getElem? (i := 26) rfl)) [(t : Int), 40] rfl ⟨zp_o2 pt, zp_o0 (by decide) (by decide) (by decide) (by decide), trivial⟩ (Nat.le_of_ble_eq_true rfl) trivial (fun al hal rng120 Pg120 Gg120 hextg120 hfrg120 hokg120 hcsg120 hpsig120 => ?_)
    obtain rfl := List.mem_singleton.mp hal
    have hrg120 := zp_int (hokg120 _ rfl).1
    obtain ⟨hPeg120, hGeg120, htg120⟩ := hpsig120
    rw [hPeg120, hGeg120]
    have hsg120 := zT_sg hTt1 (ch := 40) (by decide) htg120
    by_cases hkg120 : yr_s (zy_so B ln) (zy_wo B ln) 40 tk1 = true
    · obtain rfl : rng120 = 1 := hsg120.mpr hkg120
      refine zp_if (pc := 55) (tgt := 68) hx hb (zd_X5_plain (55, .ifCond .eq 13, 3, 0, []) (List.mem_of_getElem? (i := 27) rfl)) rfl (fun (hc121 : 1 = 0) => ?_) (fun (hc121 : ¬ (1 = 0)) => ?_)
      · exfalso
        omega
      · refine zp_load (pc := 58) hx hb (zd_X5_plain (58, .aload_n 0, 1, 0, []) (List.mem_of_getElem? (i := 28) rfl)) rfl (j := 2) rfl ?_
        refine zp_load (pc := 59) hx hb (zd_X5_plain (59, .iload_n 1, 1, 0, []) (List.mem_of_getElem? (i := 29) rfl)) rfl (j := 3) rfl ?_
        refine zp_call (pc := 60) (how := 0) (idx := 145) (mi := 74) (S := []) hx hb hE hw heff hrm (hbr t x b cd B ln tk1 nl C sz (uu + 2 * it) ord x0) rfl (j := 22) rfl rfl (zcb_upl_ubr d hd) (zd_X5_plain (60, .invokevirtual 145, 3, 0, []) (List.mem_of_getElem? (i := 30) rfl)) [(a : Int), (d : Int)] rfl ⟨zp_o2 hp, zp_o0 (by omega) (by omega) (by omega) (by omega), trivial⟩ (Nat.le_of_ble_eq_true rfl) ⟨hT1, rfl, by omega, hkg120⟩ (fun al hal rnr122 Pr122 Gr122 hextr122 hfrr122 hokr122 hcsr122 hpsir122 => ?_)
        obtain rfl := List.mem_singleton.mp hal
        have hrr122 := zp_int (hokr122 _ rfl).1
        obtain ⟨rfl, sr122, hsr122, htr122⟩ := hpsir122
        rcases sr122 with qr122 | ⟨pr122, nr122, yr122⟩
        · obtain ⟨hzr122, nlr122, Cr122, szr122, hTr122⟩ : rnr122 = 0 ∧ ∃ (nl' : Nat) (C' : Nat → Int) (sz' : Nat), zT u.1 a t x b cd Gr122 B ln qr122 nl' C' sz' ord := htr122
          subst hzr122
          refine zp_if (pc := 63) (tgt := 117) hx hb (zd_X5_plain (63, .ifCond .ne 54, 3, 0, []) (List.mem_of_getElem? (i := 31) rfl)) rfl (fun (hc123 : ¬ 0 = 0) => ?_) (fun (hc123 : ¬ (¬ 0 = 0)) => ?_)
          · exfalso
            omega
          · refine zp_const (pc := 66) hx hb (zd_X5_plain (66, .iconst 0, 1, 0, []) (List.mem_of_getElem? (i := 32) rfl)) rfl rfl ?_
            refine zp_zret (pc := 67) (n := 0) hx hb hE hQ hU5 rfl (show (1 : Nat) ≠ 2 by decide) (zd_X5_plain (67, .ireturn, 1, 0, []) (List.mem_of_getElem? (i := 33) rfl)) (j := 0) rfl (zp_o0 (by omega) (by omega) (by omega) (by omega)) ?_
            rw [hps]
            refine ⟨rfl, Sum.inl qr122, ?_, rfl, _, _, _, hTr122⟩
            exact hgo _ hsr122
        · obtain ⟨hzr122, hyr122, kr122, Cr122, szr122, hnr122, hTTr122, hHr122, hur122, hf9r122⟩ : rnr122 = 1 ∧ (_ → yd_T yr122) ∧ ∃ (k : Nat) (C' : Nat → Int) (sz' : Nat), nr122 = nl + k ∧ zT u.1 a t x b cd Gr122 B ln pr122 nr122 C' sz' ord ∧ yH ord sz C C' sz' k yr122 ∧ sz' + (uu + 2 * it) ≤ 2 * zy_fr B ln pr122 + 72 ∧ zy_fr B ln tk1 + 1 ≤ zy_fr B ln pr122 := htr122
          subst hzr122
          obtain rfl : nr122 = nl + kr122 := by omega
          have hTr122 : zT u.1 a t x b cd Gr122 B ln pr122 (nl + kr122) Cr122 szr122 ord := hTTr122
          have hXr122 := hTr122
          obtain ⟨⟨-, ga0r122, ga1r122, gx5r122⟩, hTtr122, ⟨ga3r122, ga4r122, hnlr122⟩, gx7r122, hszr122, hCr122⟩ := hXr122
          have hfr122 := zTt_f hTtr122
          have hyT := hyr122 rfl
          have hz9 := hgo _ hsr122
          refine zp_if (pc := 63) (tgt := 117) hx hb (zd_X5_plain (63, .ifCond .ne 54, 3, 0, []) (List.mem_of_getElem? (i := 31) rfl)) rfl (fun (hc124 : ¬ 1 = 0) => ?_) (fun (hc124 : ¬ (¬ 1 = 0)) => ?_)
          · refine zp_load (pc := 117) hx hb (zd_X5_plain (117, .iload_n 2, 1, 0, []) (List.mem_of_getElem? (i := 63) rfl)) rfl (j := 1) rfl ?_
            refine zp_if (pc := 118) (tgt := 131) hx hb (zd_X5_plain (118, .ifCond .eq 13, 3, 0, []) (List.mem_of_getElem? (i := 64) rfl)) rfl (fun (hc125 : (it : Int) = 0) => ?_) (fun (hc125 : ¬ ((it : Int) = 0)) => ?_)
            · refine zp_const (pc := 131) hx hb (zd_X5_plain (131, .iconst 1, 1, 0, []) (List.mem_of_getElem? (i := 71) rfl)) rfl rfl ?_
              refine zp_zret (pc := 132) (n := 1) hx hb hE hQ hU5 rfl (show (1 : Nat) ≠ 2 by decide) (zd_X5_plain (132, .ireturn, 1, 0, []) (List.mem_of_getElem? (i := 72) rfl)) (j := 0) rfl (zp_o0 (by omega) (by omega) (by omega) (by omega)) ?_
              rw [hps]
              have hit0 : it = 0 := by omega
              subst hit0
              exact ⟨rfl, _, hz9, rfl, fun _ => hyT, kr122, _, _, by omega, hTr122, hHr122, by omega, by omega⟩
            · refine zp_load (pc := 121) hx hb (zd_X5_plain (121, .aload_n 0, 1, 0, []) (List.mem_of_getElem? (i := 65) rfl)) rfl (j := 2) rfl ?_
              refine zp_getf (n := (x : Int)) (pc := 122) hx hb hE hw (zd_X5_plain (122, .getfield 16, 3, 0, []) (List.mem_of_getElem? (i := 66) rfl)) (j := 10) rfl rfl rfl hp ga1r122 ?_
              refine zp_const (pc := 125) hx hb (zd_X5_plain (125, .iconst 3, 1, 0, []) (List.mem_of_getElem? (i := 67) rfl)) rfl rfl ?_
              refine zp_const (pc := 126) hx hb (zd_X5_plain (126, .iconst 0, 1, 0, []) (List.mem_of_getElem? (i := 68) rfl)) rfl rfl ?_
              have hit1 : it = 1 := by omega
              subst hit1
              have hH8 := yH_nt (v := 0) hHr122 hyT
              refine zp_call (pc := 127) (how := 0) (idx := 123) (mi := 66) (S := []) hx hb hE hw heff hrm (zX_vad hW cd szr122 Cr122) rfl (j := 14) rfl rfl (zcb_upl_vad d hd) (zd_X5_plain (127, .invokevirtual 123, 3, 0, []) (List.mem_of_getElem? (i := 69) rfl)) [(x : Int), 3, 0] rfl ⟨zp_o2 px, zp_o0 (by decide) (by decide) (by decide) (by decide), zp_o0 (by decide) (by decide) (by decide) (by decide), trivial⟩ (Nat.le_of_ble_eq_true rfl) ⟨⟨gx7r122, by omega⟩, gx5r122, pc, hCr122⟩ (fun al hal rna126 Pa126 Ga126 hexta126 hfra126 hoka126 hcsa126 hpsia126 => ?_)
              obtain rfl := List.mem_singleton.mp hal
              have hra126 := zp_int (hoka126 _ rfl).1
              obtain ⟨rfl, htra126, ht7a126, htca126⟩ := hpsia126
              have hTa126 : zT u.1 a t x b cd Ga126 B ln pr122 (nl + kr122) (yh Cr122 szr122 3 0) (szr122 + 2) ord := zT_ad hTr122 hfra126 ht7a126 (by omega) htca126
              have hXa126 := hTa126
              obtain ⟨⟨-, ga0a126, ga1a126, gx5a126⟩, hTta126, ⟨ga3a126, ga4a126, hnla126⟩, gx7a126, hsza126, hCa126⟩ := hXa126
              have hfa126 := zTt_f hTta126
              refine zp_pop (pc := 130) hx hb (zd_X5_plain (130, .pop, 1, 0, []) (List.mem_of_getElem? (i := 70) rfl)) (show (0 : Nat) ≠ 1 by decide) ?_
              refine zp_const (pc := 131) hx hb (zd_X5_plain (131, .iconst 1, 1, 0, []) (List.mem_of_getElem? (i := 71) rfl)) rfl rfl ?_
              refine zp_zret (pc := 132) (n := 1) hx hb hE hQ hU5 rfl (show (1 : Nat) ≠ 2 by decide) (zd_X5_plain (132, .ireturn, 1, 0, []) (List.mem_of_getElem? (i := 72) rfl)) (j := 0) rfl (zp_o0 (by omega) (by omega) (by omega) (by omega)) ?_
              rw [hps]
              exact ⟨rfl, _, hz9, rfl, fun _ => yd_T_nt hyT, kr122, _, _, by omega, hTa126, hH8, by omega, by omega⟩
          · exfalso
            omega
    · have zg120 : ¬ rng120 = 1 := fun z => hkg120 (hsg120.mp z)
      obtain rfl : rng120 = 0 := by omega
      refine zp_if (pc := 55) (tgt := 68) hx hb (zd_X5_plain (55, .ifCond .eq 13, 3, 0, []) (List.mem_of_getElem? (i := 27) rfl)) rfl (fun (hc127 : 0 = 0) => ?_) (fun (hc127 : ¬ (0 = 0)) => ?_)
      · refine zp_load (pc := 68) hx hb (zd_X5_plain (68, .aload_n 0, 1, 0, []) (List.mem_of_getElem? (i := 34) rfl)) rfl (j := 2) rfl ?_
        refine zp_load (pc := 69) hx hb (zd_X5_plain (69, .iload_n 1, 1, 0, []) (List.mem_of_getElem? (i := 35) rfl)) rfl (j := 3) rfl ?_
        refine zp_call (pc := 70) (how := 0) (idx := 126) (mi := 61) (S := []) hx hb hE hw heff hrm (hsu t x b cd B ln tk1 nl C sz (uu + 2 * it) ord x0) rfl (j := 9) rfl rfl (zcb_upl_usu d hd) (zd_X5_plain (70, .invokevirtual 126, 3, 0, []) (List.mem_of_getElem? (i := 36) rfl)) [(a : Int), (d : Int)] rfl ⟨zp_o2 hp, zp_o0 (by omega) (by omega) (by omega) (by omega), trivial⟩ (Nat.le_of_ble_eq_true rfl) ⟨hT1, rfl, by omega⟩ (fun al hal rnr128 Pr128 Gr128 hextr128 hfrr128 hokr128 hcsr128 hpsir128 => ?_)
        obtain rfl := List.mem_singleton.mp hal
        have hrr128 := zp_int (hokr128 _ rfl).1
        obtain ⟨rfl, sr128, hsr128, htr128⟩ := hpsir128
        rcases sr128 with qr128 | ⟨pr128, nr128, yr128⟩
        · obtain ⟨hzr128, nlr128, Cr128, szr128, hTr128⟩ : rnr128 = 0 ∧ ∃ (nl' : Nat) (C' : Nat → Int) (sz' : Nat), zT u.1 a t x b cd Gr128 B ln qr128 nl' C' sz' ord := htr128
          subst hzr128
          refine zp_if (pc := 73) (tgt := 78) hx hb (zd_X5_plain (73, .ifCond .ne 5, 3, 0, []) (List.mem_of_getElem? (i := 37) rfl)) rfl (fun (hc129 : ¬ 0 = 0) => ?_) (fun (hc129 : ¬ (¬ 0 = 0)) => ?_)
          · exfalso
            omega
          · refine zp_const (pc := 76) hx hb (zd_X5_plain (76, .iconst 0, 1, 0, []) (List.mem_of_getElem? (i := 38) rfl)) rfl rfl ?_
            refine zp_zret (pc := 77) (n := 0) hx hb hE hQ hU5 rfl (show (1 : Nat) ≠ 2 by decide) (zd_X5_plain (77, .ireturn, 1, 0, []) (List.mem_of_getElem? (i := 39) rfl)) (j := 0) rfl (zp_o0 (by omega) (by omega) (by omega) (by omega)) ?_
            rw [hps]
            refine ⟨rfl, Sum.inl qr128, ?_, rfl, _, _, _, hTr128⟩
            exact hgo _ (yZ_cm h14 hkg120 (Or.inl ⟨_, rfl, hsr128⟩))
        · obtain ⟨hzr128, hyr128, kr128, Cr128, szr128, hnr128, hTTr128, hHr128, hur128, hf9r128⟩ : rnr128 = 1 ∧ (_ → yd_T yr128) ∧ ∃ (k : Nat) (C' : Nat → Int) (sz' : Nat), nr128 = nl + k ∧ zT u.1 a t x b cd Gr128 B ln pr128 nr128 C' sz' ord ∧ yH ord sz C C' sz' k yr128 ∧ sz' + (uu + 2 * it) ≤ 2 * zy_fr B ln pr128 + 72 ∧ zy_fr B ln tk1 + 1 ≤ zy_fr B ln pr128 := htr128
          subst hzr128
          obtain rfl : nr128 = nl + kr128 := by omega
          have hTr128 : zT u.1 a t x b cd Gr128 B ln pr128 (nl + kr128) Cr128 szr128 ord := hTTr128
          have hXr128 := hTr128
          obtain ⟨⟨-, ga0r128, ga1r128, gx5r128⟩, hTtr128, ⟨ga3r128, ga4r128, hnlr128⟩, gx7r128, hszr128, hCr128⟩ := hXr128
          have hfr128 := zTt_f hTtr128
          refine zp_if (pc := 73) (tgt := 78) hx hb (zd_X5_plain (73, .ifCond .ne 5, 3, 0, []) (List.mem_of_getElem? (i := 37) rfl)) rfl (fun (hc130 : ¬ 1 = 0) => ?_) (fun (hc130 : ¬ (¬ 1 = 0)) => ?_)
          · refine zp_load (pc := 78) hx hb (zd_X5_plain (78, .aload_n 0, 1, 0, []) (List.mem_of_getElem? (i := 40) rfl)) rfl (j := 2) rfl ?_
            refine zp_call (pc := 79) (how := 0) (idx := 148) (mi := 75) (S := []) hx hb hE hw heff hrm (zX_uc hW t x b cd B ln pr128 (nl + kr128) Cr128 szr128 ord) rfl (j := 23) rfl rfl (zcb_upl_uc d hd) (zd_X5_plain (79, .invokevirtual 148, 3, 0, []) (List.mem_of_getElem? (i := 41) rfl)) [(a : Int)] rfl ⟨zp_o2 hp, trivial⟩ (Nat.le_of_ble_eq_true rfl) hTr128 (fun al hal rnm131 Pm131 Gm131 hextm131 hfrm131 hokm131 hcsm131 hpsim131 => ?_)
            obtain rfl := List.mem_singleton.mp hal
            have hrm131 := zp_int (hokm131 _ rfl).1
            obtain ⟨hPem131, hGem131, htm131⟩ := hpsim131
            rw [hPem131, hGem131]
            have hcv : rnm131 = if yr_cm (zy_so B ln) (zy_wo B ln) pr128 = -1 then -1 else yr_cm (zy_so B ln) (zy_wo B ln) pr128 - 14 := htm131
            have hcr := yr_cm_q (zy_so B ln) (zy_wo B ln) pr128
            refine zp_store (L' := [(3, 0, rnm131), (2, 0, (it : Int)), (0, 2, (a : Int)), (1, 0, (d : Int))]) (pc := 82) hx hb hnL (zd_X5_plain (82, .istore_n 3, 1, 0, []) (List.mem_of_getElem? (i := 42) rfl)) rfl rfl rfl ?_
            refine zp_load (pc := 83) hx hb (zd_X5_plain (83, .iload_n 3, 1, 0, []) (List.mem_of_getElem? (i := 43) rfl)) rfl (j := 0) rfl ?_
            refine zp_const (pc := 84) hx hb (zd_X5_plain (84, .iconst (-1), 1, 0, []) (List.mem_of_getElem? (i := 44) rfl)) rfl rfl ?_
            refine zp_icmp (pc := 85) (tgt := 90) hx hb (zd_X5_plain (85, .if_icmp .ne 5, 3, 0, []) (List.mem_of_getElem? (i := 45) rfl)) rfl (fun (hc132 : ¬ rnm131 = (-1)) => ?_) (fun (hc132 : ¬ (¬ rnm131 = (-1))) => ?_)
            · refine zp_load (pc := 90) hx hb (zd_X5_plain (90, .aload_n 0, 1, 0, []) (List.mem_of_getElem? (i := 48) rfl)) rfl (j := 2) rfl ?_
              refine zp_getf (n := (t : Int)) (pc := 91) hx hb hE hw (zd_X5_plain (91, .getfield 24, 3, 0, []) (List.mem_of_getElem? (i := 49) rfl)) (j := 9) rfl rfl rfl hp ga0r128 ?_
              have hcm : ¬ yr_cm (zy_so B ln) (zy_wo B ln) pr128 = -1 := fun z => by rw [if_pos z] at hcv; omega
              rw [if_neg hcm] at hcv
              have hs9 := (zTt_go hTtr128).2.1 (by rw [yr_cm3 hcm]; decide)
              refine zp_call (pc := 94) (how := 0) (idx := 60) (mi := 43) (S := []) hx hb hE hw heff hrm (zX_cnx hW) rfl (j := 6) rfl rfl (zcb_upl_cnx d hd) (zd_X5_plain (94, .invokevirtual 60, 3, 0, []) (List.mem_of_getElem? (i := 50) rfl)) [(t : Int)] rfl ⟨zp_o2 pt, trivial⟩ (Nat.le_of_ble_eq_true rfl) (zTt_q hTtr128) (fun al hal rnn133 Pn133 Gn133 hextn133 hfrn133 hokn133 hcsn133 hpsin133 => ?_)
              obtain rfl := List.mem_singleton.mp hal
              obtain ⟨rfl, htn133⟩ := hpsin133
              have hgon133 := zTt_go hTtr128
              have hTn133 : zT u.1 a t x b cd Gn133 B ln (zy_to B ln pr128) (nl + kr128) Cr128 szr128 ord := zT_nx hTr128 hfrn133 htn133
              have hXn133 := hTn133
              obtain ⟨⟨-, ga0n133, ga1n133, gx5n133⟩, hTtn133, ⟨ga3n133, ga4n133, hnln133⟩, gx7n133, hszn133, hCn133⟩ := hXn133
              have hfn133 := zTt_f hTtn133
              refine zp_load (pc := 97) hx hb (zd_X5_plain (97, .aload_n 0, 1, 0, []) (List.mem_of_getElem? (i := 51) rfl)) rfl (j := 2) rfl ?_
              refine zp_load (pc := 98) hx hb (zd_X5_plain (98, .iload_n 1, 1, 0, []) (List.mem_of_getElem? (i := 52) rfl)) rfl (j := 3) rfl ?_
              refine zp_call (pc := 99) (how := 0) (idx := 126) (mi := 61) (S := []) hx hb hE hw heff hrm (hsu t x b cd B ln (zy_to B ln pr128) (nl + kr128) Cr128 szr128 (uu + 2 * it + 2) ord x0) rfl (j := 9) rfl rfl (zcb_upl_usu d hd) (zd_X5_plain (99, .invokevirtual 126, 3, 0, []) (List.mem_of_getElem? (i := 53) rfl)) [(a : Int), (d : Int)] rfl ⟨zp_o2 hp, zp_o0 (by omega) (by omega) (by omega) (by omega), trivial⟩ (Nat.le_of_ble_eq_true rfl) ⟨hTn133, rfl, by omega⟩ (fun al hal rnr134 Pr134 Gr134 hextr134 hfrr134 hokr134 hcsr134 hpsir134 => ?_)
              obtain rfl := List.mem_singleton.mp hal
              have hrr134 := zp_int (hokr134 _ rfl).1
              obtain ⟨rfl, sr134, hsr134, htr134⟩ := hpsir134
              rcases sr134 with qr134 | ⟨pr134, nr134, yr134⟩
              · obtain ⟨hzr134, nlr134, Cr134, szr134, hTr134⟩ : rnr134 = 0 ∧ ∃ (nl' : Nat) (C' : Nat → Int) (sz' : Nat), zT u.1 a t x b cd Gr134 B ln qr134 nl' C' sz' ord := htr134
                subst hzr134
                refine zp_if (pc := 102) (tgt := 107) hx hb (zd_X5_plain (102, .ifCond .ne 5, 3, 0, []) (List.mem_of_getElem? (i := 54) rfl)) rfl (fun (hc135 : ¬ 0 = 0) => ?_) (fun (hc135 : ¬ (¬ 0 = 0)) => ?_)
                · exfalso
                  omega
                · refine zp_const (pc := 105) hx hb (zd_X5_plain (105, .iconst 0, 1, 0, []) (List.mem_of_getElem? (i := 55) rfl)) rfl rfl ?_
                  refine zp_zret (pc := 106) (n := 0) hx hb hE hQ hU5 rfl (show (1 : Nat) ≠ 2 by decide) (zd_X5_plain (106, .ireturn, 1, 0, []) (List.mem_of_getElem? (i := 56) rfl)) (j := 0) rfl (zp_o0 (by omega) (by omega) (by omega) (by omega)) ?_
                  rw [hps]
                  refine ⟨rfl, Sum.inl qr134, ?_, rfl, _, _, _, hTr134⟩
                  exact hgo _ (yZ_cm h14 hkg120 (Or.inr ⟨_, _, _, hsr128, Or.inr ⟨hcm, Or.inl ⟨_, rfl, hsr134⟩⟩⟩))
              · obtain ⟨hzr134, hyr134, kr134, Cr134, szr134, hnr134, hTTr134, hHr134, hur134, hf9r134⟩ : rnr134 = 1 ∧ (_ → yd_T yr134) ∧ ∃ (k : Nat) (C' : Nat → Int) (sz' : Nat), nr134 = (nl + kr128) + k ∧ zT u.1 a t x b cd Gr134 B ln pr134 nr134 C' sz' ord ∧ yH ord szr128 Cr128 C' sz' k yr134 ∧ sz' + (uu + 2 * it + 2) ≤ 2 * zy_fr B ln pr134 + 72 ∧ zy_fr B ln (zy_to B ln pr128) + 1 ≤ zy_fr B ln pr134 := htr134
                subst hzr134
                obtain rfl : nr134 = (nl + kr128) + kr134 := by omega
                have hTr134 : zT u.1 a t x b cd Gr134 B ln pr134 ((nl + kr128) + kr134) Cr134 szr134 ord := hTTr134
                have hXr134 := hTr134
                obtain ⟨⟨-, ga0r134, ga1r134, gx5r134⟩, hTtr134, ⟨ga3r134, ga4r134, hnlr134⟩, gx7r134, hszr134, hCr134⟩ := hXr134
                have hfr134 := zTt_f hTtr134
                refine zp_if (pc := 102) (tgt := 107) hx hb (zd_X5_plain (102, .ifCond .ne 5, 3, 0, []) (List.mem_of_getElem? (i := 54) rfl)) rfl (fun (hc136 : ¬ 1 = 0) => ?_) (fun (hc136 : ¬ (¬ 1 = 0)) => ?_)
                · refine zp_load (pc := 107) hx hb (zd_X5_plain (107, .aload_n 0, 1, 0, []) (List.mem_of_getElem? (i := 57) rfl)) rfl (j := 2) rfl ?_
                  refine zp_getf (n := (x : Int)) (pc := 108) hx hb hE hw (zd_X5_plain (108, .getfield 16, 3, 0, []) (List.mem_of_getElem? (i := 58) rfl)) (j := 10) rfl rfl rfl hp ga1r134 ?_
                  refine zp_load (pc := 111) hx hb (zd_X5_plain (111, .iload_n 3, 1, 0, []) (List.mem_of_getElem? (i := 59) rfl)) rfl (j := 0) rfl ?_
                  refine zp_const (pc := 112) hx hb (zd_X5_plain (112, .iconst 0, 1, 0, []) (List.mem_of_getElem? (i := 60) rfl)) rfl rfl ?_
                  refine zp_call (pc := 113) (how := 0) (idx := 123) (mi := 66) (S := []) hx hb hE hw heff hrm (zX_vad hW cd szr134 Cr134) rfl (j := 14) rfl rfl (zcb_upl_vad d hd) (zd_X5_plain (113, .invokevirtual 123, 3, 0, []) (List.mem_of_getElem? (i := 61) rfl)) [(x : Int), rnm131, 0] rfl ⟨zp_o2 px, zp_o0 (by omega) (by omega) (by omega) (by omega), zp_o0 (by decide) (by decide) (by decide) (by decide), trivial⟩ (Nat.le_of_ble_eq_true rfl) ⟨⟨gx7r134, by omega⟩, gx5r134, pc, hCr134⟩ (fun al hal rna137 Pa137 Ga137 hexta137 hfra137 hoka137 hcsa137 hpsia137 => ?_)
                  obtain rfl := List.mem_singleton.mp hal
                  have hra137 := zp_int (hoka137 _ rfl).1
                  obtain ⟨rfl, htra137, ht7a137, htca137⟩ := hpsia137
                  have hTa137 : zT u.1 a t x b cd Ga137 B ln pr134 ((nl + kr128) + kr134) (yh Cr134 szr134 rnm131 0) (szr134 + 2) ord := zT_ad hTr134 hfra137 ht7a137 (by omega) htca137
                  have hXa137 := hTa137
                  obtain ⟨⟨-, ga0a137, ga1a137, gx5a137⟩, hTta137, ⟨ga3a137, ga4a137, hnla137⟩, gx7a137, hsza137, hCa137⟩ := hXa137
                  have hfa137 := zTt_f hTta137
                  have hH9 := yH_op hHr128 hHr134 (s := rnm131) (v := 0) (by omega) (by omega)
                  rw [show (rnm131 + 14 : Int) = yr_cm (zy_so B ln) (zy_wo B ln) pr128 by omega] at hH9
                  have hyT : yd_T (yd_op (yr_cm (zy_so B ln) (zy_wo B ln) pr128) yr128 yr134) := yd_T_op (by omega) _ _
                  have hz9 := hgo _ (yZ_cm h14 hkg120 (Or.inr ⟨_, _, _, hsr128, Or.inr ⟨hcm, Or.inr ⟨_, _, _, hsr134, rfl⟩⟩⟩))
                  refine zp_pop (pc := 116) hx hb (zd_X5_plain (116, .pop, 1, 0, []) (List.mem_of_getElem? (i := 62) rfl)) (show (0 : Nat) ≠ 1 by decide) ?_
                  refine zp_load (pc := 117) hx hb (zd_X5_plain (117, .iload_n 2, 1, 0, []) (List.mem_of_getElem? (i := 63) rfl)) rfl (j := 1) rfl ?_
                  refine zp_if (pc := 118) (tgt := 131) hx hb (zd_X5_plain (118, .ifCond .eq 13, 3, 0, []) (List.mem_of_getElem? (i := 64) rfl)) rfl (fun (hc138 : (it : Int) = 0) => ?_) (fun (hc138 : ¬ ((it : Int) = 0)) => ?_)
                  · refine zp_const (pc := 131) hx hb (zd_X5_plain (131, .iconst 1, 1, 0, []) (List.mem_of_getElem? (i := 71) rfl)) rfl rfl ?_
                    refine zp_zret (pc := 132) (n := 1) hx hb hE hQ hU5 rfl (show (1 : Nat) ≠ 2 by decide) (zd_X5_plain (132, .ireturn, 1, 0, []) (List.mem_of_getElem? (i := 72) rfl)) (j := 0) rfl (zp_o0 (by omega) (by omega) (by omega) (by omega)) ?_
                    rw [hps]
                    have hit0 : it = 0 := by omega
                    subst hit0
                    exact ⟨rfl, _, hz9, rfl, fun _ => hyT, (kr128 + kr134), _, _, by omega, hTa137, hH9, by omega, by omega⟩
                  · refine zp_load (pc := 121) hx hb (zd_X5_plain (121, .aload_n 0, 1, 0, []) (List.mem_of_getElem? (i := 65) rfl)) rfl (j := 2) rfl ?_
                    refine zp_getf (n := (x : Int)) (pc := 122) hx hb hE hw (zd_X5_plain (122, .getfield 16, 3, 0, []) (List.mem_of_getElem? (i := 66) rfl)) (j := 10) rfl rfl rfl hp ga1a137 ?_
                    refine zp_const (pc := 125) hx hb (zd_X5_plain (125, .iconst 3, 1, 0, []) (List.mem_of_getElem? (i := 67) rfl)) rfl rfl ?_
                    refine zp_const (pc := 126) hx hb (zd_X5_plain (126, .iconst 0, 1, 0, []) (List.mem_of_getElem? (i := 68) rfl)) rfl rfl ?_
                    have hit1 : it = 1 := by omega
                    subst hit1
                    have hH8 := yH_nt (v := 0) hH9 hyT
                    refine zp_call (pc := 127) (how := 0) (idx := 123) (mi := 66) (S := []) hx hb hE hw heff hrm (zX_vad hW cd (szr134 + 2) (yh Cr134 szr134 rnm131 0)) rfl (j := 14) rfl rfl (zcb_upl_vad d hd) (zd_X5_plain (127, .invokevirtual 123, 3, 0, []) (List.mem_of_getElem? (i := 69) rfl)) [(x : Int), 3, 0] rfl ⟨zp_o2 px, zp_o0 (by decide) (by decide) (by decide) (by decide), zp_o0 (by decide) (by decide) (by decide) (by decide), trivial⟩ (Nat.le_of_ble_eq_true rfl) ⟨⟨gx7a137, by omega⟩, gx5a137, pc, hCa137⟩ (fun al hal rna139 Pa139 Ga139 hexta139 hfra139 hoka139 hcsa139 hpsia139 => ?_)
                    obtain rfl := List.mem_singleton.mp hal
                    have hra139 := zp_int (hoka139 _ rfl).1
                    obtain ⟨rfl, htra139, ht7a139, htca139⟩ := hpsia139
                    have hTa139 : zT u.1 a t x b cd Ga139 B ln pr134 ((nl + kr128) + kr134) (yh (yh Cr134 szr134 rnm131 0) (szr134 + 2) 3 0) ((szr134 + 2) + 2) ord := zT_ad hTa137 hfra139 ht7a139 (by omega) htca139
                    have hXa139 := hTa139
                    obtain ⟨⟨-, ga0a139, ga1a139, gx5a139⟩, hTta139, ⟨ga3a139, ga4a139, hnla139⟩, gx7a139, hsza139, hCa139⟩ := hXa139
                    have hfa139 := zTt_f hTta139
                    refine zp_pop (pc := 130) hx hb (zd_X5_plain (130, .pop, 1, 0, []) (List.mem_of_getElem? (i := 70) rfl)) (show (0 : Nat) ≠ 1 by decide) ?_
                    refine zp_const (pc := 131) hx hb (zd_X5_plain (131, .iconst 1, 1, 0, []) (List.mem_of_getElem? (i := 71) rfl)) rfl rfl ?_
                    refine zp_zret (pc := 132) (n := 1) hx hb hE hQ hU5 rfl (show (1 : Nat) ≠ 2 by decide) (zd_X5_plain (132, .ireturn, 1, 0, []) (List.mem_of_getElem? (i := 72) rfl)) (j := 0) rfl (zp_o0 (by omega) (by omega) (by omega) (by omega)) ?_
                    rw [hps]
                    exact ⟨rfl, _, hz9, rfl, fun _ => yd_T_nt hyT, (kr128 + kr134), _, _, by omega, hTa139, hH8, by omega, by omega⟩
                · exfalso
                  omega
            · refine zp_const (pc := 88) hx hb (zd_X5_plain (88, .iconst 0, 1, 0, []) (List.mem_of_getElem? (i := 46) rfl)) rfl rfl ?_
              refine zp_zret (pc := 89) (n := 0) hx hb hE hQ hU5 rfl (show (1 : Nat) ≠ 2 by decide) (zd_X5_plain (89, .ireturn, 1, 0, []) (List.mem_of_getElem? (i := 47) rfl)) (j := 0) rfl (zp_o0 (by omega) (by omega) (by omega) (by omega)) ?_
              rw [hps]
              refine ⟨rfl, Sum.inl pr128, ?_, rfl, _, _, _, hTr128⟩
              have hcm : yr_cm (zy_so B ln) (zy_wo B ln) pr128 = -1 := by
                by_cases z : yr_cm (zy_so B ln) (zy_wo B ln) pr128 = -1
                · exact z
                · rw [if_neg z] at hcv
                  omega
              exact hgo _ (yZ_cm h14 hkg120 (Or.inr ⟨_, _, _, hsr128, Or.inl ⟨hcm, rfl⟩⟩))
          · exfalso
            omega
      · exfalso
        omega
  have loop : ∀ (n9 k tk1 it : Nat) (G1 : Nat → Nat → Int), 401 - k < n9 → k ≤ zy_fr B ln tk1 → zT u.1 a t x b cd G1 B ln tk1 nl C sz ord → sz + uu + 2 * it ≤ 2 * zy_fr B ln tk1 + 72 → zy_fr B ln tk ≤ zy_fr B ln tk1 → it ≤ 1 → (∀ s, yZ (zy_so B ln) (zy_wo B ln) (zy_to B ln) (ylf ord B ln) 5 d nl tk1 x0 s → yZ (zy_so B ln) (zy_wo B ln) (zy_to B ln) (ylf ord B ln) 5 d nl tk x0 (ytw it s)) → zp_J p l e R s m args below meth c Q w u [] 4 [(3, 0, (k : Int)), (2, 0, (it : Int)), (0, 2, (a : Int)), (1, 0, (d : Int))] [] u.1 G1 := by
    intro n9
    induction n9 with
    | zero => intro k tk1 it G1 h; exact absurd h (Nat.not_lt_zero _)
    | succ n9 ih =>
      intro k tk1 it G1 hn hk hT1 hu1 hz1 hit hgo
      have hT1 : zT u.1 a t x b cd G1 B ln tk1 nl C sz ord := hT1
      have hX1 := hT1
      obtain ⟨⟨-, ga01, ga11, gx51⟩, hTt1, ⟨ga31, ga41, hnl1⟩, gx71, hsz1, hC1⟩ := hX1
      have hf1 := zTt_f hTt1
      have hg1 := zTt_go hTt1
      refine zp_load (pc := 4) hx hb (zd_X5_plain (4, .iload_n 3, 1, 0, []) (List.mem_of_getElem? (i := 4) rfl)) rfl (j := 0) rfl ?_
      refine zp_const (pc := 5) hx hb (zd_X5_plain (5, .sipush 400, 3, 0, []) (List.mem_of_getElem? (i := 5) rfl)) rfl rfl ?_
      refine zp_icmp (pc := 8) (tgt := 46) hx hb (zd_X5_plain (8, .if_icmp .ge 38, 3, 0, []) (List.mem_of_getElem? (i := 6) rfl)) rfl (fun (hc140 : 400 ≤ (k : Int)) => ?_) (fun (hc140 : ¬ (400 ≤ (k : Int))) => ?_)
      · exact h46 k tk1 it G1 hT1 hu1 hz1 hit (fun z => by have := hg1.2.2 (by rw [(yr_w_i.mp z).1]; decide); omega) hgo
      · refine zp_load (pc := 11) hx hb (zd_X5_plain (11, .aload_n 0, 1, 0, []) (List.mem_of_getElem? (i := 7) rfl)) rfl (j := 2) rfl ?_
        refine zp_getf (n := (t : Int)) (pc := 12) hx hb hE hw (zd_X5_plain (12, .getfield 24, 3, 0, []) (List.mem_of_getElem? (i := 8) rfl)) (j := 9) rfl rfl rfl hp ga01 ?_
        refine zp_ldS (pc := 15) hx hb hE (zd_X5_plain (15, .ldc 143, 2, 0, []) (List.mem_of_getElem? (i := 9) rfl)) (j := 25) rfl (fun tx141 qtx141 => ?_)
        refine zp_call (pc := 17) (how := 0) (idx := 90) (mi := 68) (S := []) hx hb hE hw heff hrm (zX_vino hW b B ln tk1) rfl (j := 16) rfl rfl (zcb_upl_vino d hd) (zd_X5_plain (17, .invokevirtual 90, 3, 0, []) (List.mem_of_getElem? (i := 10) rfl)) [(t : Int), (tx141 : Int)] rfl ⟨zp_o2 pt, zp_o2 qtx141, trivial⟩ (Nat.le_of_ble_eq_true rfl) hTt1 (fun al hal rnd142 Pd142 Gd142 hextd142 hfrd142 hokd142 hcsd142 hpsid142 => ?_)
        obtain rfl := List.mem_singleton.mp hal
        have hrd142 := zp_int (hokd142 _ rfl).1
        obtain ⟨hPed142, hGed142, htd142⟩ := hpsid142
        rw [hPed142, hGed142]
        by_cases hkd142 : yr_w (zy_so B ln) (zy_wo B ln) 14836 tk1 = true
        · obtain rfl : rnd142 = 1 := htd142.mpr hkd142
          refine zp_if (pc := 20) (tgt := 46) hx hb (zd_X5_plain (20, .ifCond .eq 26, 3, 0, []) (List.mem_of_getElem? (i := 11) rfl)) rfl (fun (hc143 : 1 = 0) => ?_) (fun (hc143 : ¬ (1 = 0)) => ?_)
          · exfalso
            omega
          · refine zp_load (pc := 23) hx hb (zd_X5_plain (23, .aload_n 0, 1, 0, []) (List.mem_of_getElem? (i := 12) rfl)) rfl (j := 2) rfl ?_
            refine zp_getf (n := (t : Int)) (pc := 24) hx hb hE hw (zd_X5_plain (24, .getfield 24, 3, 0, []) (List.mem_of_getElem? (i := 13) rfl)) (j := 9) rfl rfl rfl hp ga01 ?_
            have hyes := hkd142
            have hs9 := hg1.2.1 (by rw [(yr_w_i.mp hyes).1]; decide)
            refine zp_call (pc := 27) (how := 0) (idx := 60) (mi := 43) (S := []) hx hb hE hw heff hrm (zX_cnx hW) rfl (j := 6) rfl rfl (zcb_upl_cnx d hd) (zd_X5_plain (27, .invokevirtual 60, 3, 0, []) (List.mem_of_getElem? (i := 14) rfl)) [(t : Int)] rfl ⟨zp_o2 pt, trivial⟩ (Nat.le_of_ble_eq_true rfl) (zTt_q hTt1) (fun al hal rnn144 Pn144 Gn144 hextn144 hfrn144 hokn144 hcsn144 hpsin144 => ?_)
            obtain rfl := List.mem_singleton.mp hal
            obtain ⟨rfl, htn144⟩ := hpsin144
            have hgon144 := zTt_go hTt1
            have hTn144 : zT u.1 a t x b cd Gn144 B ln (zy_to B ln tk1) nl C sz ord := zT_nx hT1 hfrn144 htn144
            have hXn144 := hTn144
            obtain ⟨⟨-, ga0n144, ga1n144, gx5n144⟩, hTtn144, ⟨ga3n144, ga4n144, hnln144⟩, gx7n144, hszn144, hCn144⟩ := hXn144
            have hfn144 := zTt_f hTtn144
            refine zp_load (pc := 30) hx hb (zd_X5_plain (30, .iload_n 2, 1, 0, []) (List.mem_of_getElem? (i := 15) rfl)) rfl (j := 1) rfl ?_
            refine zp_if (pc := 31) (tgt := 38) hx hb (zd_X5_plain (31, .ifCond .ne 7, 3, 0, []) (List.mem_of_getElem? (i := 16) rfl)) rfl (fun (hc145 : ¬ (it : Int) = 0) => ?_) (fun (hc145 : ¬ (¬ (it : Int) = 0)) => ?_)
            · refine zp_const (pc := 38) hx hb (zd_X5_plain (38, .iconst 0, 1, 0, []) (List.mem_of_getElem? (i := 19) rfl)) rfl rfl ?_
              refine zp_store (L' := [(2, 0, 0), (3, 0, (k : Int)), (0, 2, (a : Int)), (1, 0, (d : Int))]) (pc := 39) hx hb hnL (zd_X5_plain (39, .istore_n 2, 1, 0, []) (List.mem_of_getElem? (i := 20) rfl)) rfl rfl rfl ?_
              refine zp_iinc (L' := [(3, 0, ((k : Int) + 1)), (2, 0, 0), (0, 2, (a : Int)), (1, 0, (d : Int))]) (n := ((k : Int) + 1)) (pc := 40) hx hb hnL (zd_X5_plain (40, .iinc 3 1, 3, 0, []) (List.mem_of_getElem? (i := 21) rfl)) (j := 1) rfl (by omega) (zp_r0 (by omega) (by omega)) rfl rfl ?_
              refine zp_goto (tgt := 4) (pc := 43) hx hb (zd_X5_plain (43, .goto (-39), 3, 0, []) (List.mem_of_getElem? (i := 22) rfl)) rfl ?_
              refine zp_drop (L' := [(3, 0, ((k + 1 : Nat) : Int)), (2, 0, ((0 : Nat) : Int)), (0, 2, (a : Int)), (1, 0, (d : Int))]) (by simp <;> omega) ?_
              have hit0 : it = 1 := by omega
              subst hit0
              exact ih (k + 1) (zy_to B ln tk1) 0 _ (by omega) (by omega) hTn144 (by omega) (by omega) (by omega) (fun s hs => by have h9 := hgo _ (yZ_nt hyes (ytw_nt hs)); rw [ytw_0] at h9; exact h9)
            · refine zp_const (pc := 34) hx hb (zd_X5_plain (34, .iconst 1, 1, 0, []) (List.mem_of_getElem? (i := 17) rfl)) rfl rfl ?_
              refine zp_goto (tgt := 39) (pc := 35) hx hb (zd_X5_plain (35, .goto 4, 3, 0, []) (List.mem_of_getElem? (i := 18) rfl)) rfl ?_
              refine zp_store (L' := [(2, 0, 1), (3, 0, (k : Int)), (0, 2, (a : Int)), (1, 0, (d : Int))]) (pc := 39) hx hb hnL (zd_X5_plain (39, .istore_n 2, 1, 0, []) (List.mem_of_getElem? (i := 20) rfl)) rfl rfl rfl ?_
              refine zp_iinc (L' := [(3, 0, ((k : Int) + 1)), (2, 0, 1), (0, 2, (a : Int)), (1, 0, (d : Int))]) (n := ((k : Int) + 1)) (pc := 40) hx hb hnL (zd_X5_plain (40, .iinc 3 1, 3, 0, []) (List.mem_of_getElem? (i := 21) rfl)) (j := 1) rfl (by omega) (zp_r0 (by omega) (by omega)) rfl rfl ?_
              refine zp_goto (tgt := 4) (pc := 43) hx hb (zd_X5_plain (43, .goto (-39), 3, 0, []) (List.mem_of_getElem? (i := 22) rfl)) rfl ?_
              refine zp_drop (L' := [(3, 0, ((k + 1 : Nat) : Int)), (2, 0, ((1 : Nat) : Int)), (0, 2, (a : Int)), (1, 0, (d : Int))]) (by simp <;> omega) ?_
              have hit1 : it = 0 := by omega
              subst hit1
              exact ih (k + 1) (zy_to B ln tk1) 1 _ (by omega) (by omega) hTn144 (by omega) (by omega) (by omega) (fun s hs => by have h9 := hgo _ (yZ_nt hyes (ytw_nt hs)); rw [ytw_1] at h9; exact h9)
        · have zd142 : ¬ rnd142 = 1 := fun z => hkd142 (htd142.mp z)
          obtain rfl : rnd142 = 0 := by omega
          refine zp_if (pc := 20) (tgt := 46) hx hb (zd_X5_plain (20, .ifCond .eq 26, 3, 0, []) (List.mem_of_getElem? (i := 11) rfl)) rfl (fun (hc146 : 0 = 0) => ?_) (fun (hc146 : ¬ (0 = 0)) => ?_)
          · exact h46 k tk1 it G1 hT1 hu1 hz1 hit hkd142 hgo
          · exfalso
            omega
  refine zp_const (pc := 0) hx hb (zd_X5_plain (0, .iconst 0, 1, 0, []) (List.mem_of_getElem? (i := 0) rfl)) rfl rfl ?_
  refine zp_store (L' := [(2, 0, 0), (0, 2, (a : Int)), (1, 0, (d : Int))]) (pc := 1) hx hb hnL (zd_X5_plain (1, .istore_n 2, 1, 0, []) (List.mem_of_getElem? (i := 1) rfl)) rfl rfl rfl ?_
  refine zp_const (pc := 2) hx hb (zd_X5_plain (2, .iconst 0, 1, 0, []) (List.mem_of_getElem? (i := 2) rfl)) rfl rfl ?_
  refine zp_store (L' := [(3, 0, 0), (2, 0, 0), (0, 2, (a : Int)), (1, 0, (d : Int))]) (pc := 3) hx hb hnL (zd_X5_plain (3, .istore_n 3, 1, 0, []) (List.mem_of_getElem? (i := 3) rfl)) rfl rfl rfl ?_
  refine zp_drop (L' := [(3, 0, ((0 : Nat) : Int)), (2, 0, ((0 : Nat) : Int)), (0, 2, (a : Int)), (1, 0, (d : Int))]) (by simp) ?_
  exact loop 402 0 tk 0 _ (by omega) (by omega) hT0 (by omega) (Nat.le_refl _) (by omega) (fun s hs => by rw [ytw_id]; exact hs)
theorem zcb_ubo_vian : ∀ d, d < 9 → zp_cb (zk_Ke (zK_ubo d)) (zk_Kr (zK_ubo d)) (zK_vian) 0 = true := by decide +kernel
theorem zcb_ubo_cnx : ∀ d, d < 9 → zp_cb (zk_Ke (zK_ubo d)) (zk_Kr (zK_ubo d)) (zK_cnx) 0 = true := by decide +kernel
theorem zcb_ubo_vad : ∀ d, d < 9 → zp_cb (zk_Ke (zK_ubo d)) (zk_Kr (zK_ubo d)) (zK_vad) 0 = true := by decide +kernel
theorem zcb_ubo_upl : ∀ d, d < 9 → zp_cb (zk_Ke (zK_ubo d)) (zk_Kr (zK_ubo d)) (zK_upl d) 0 = true := by decide +kernel
theorem zcb_ubo_vlp : ∀ d, d < 9 → zp_cb (zk_Ke (zK_ubo d)) (zk_Kr (zK_ubo d)) (zK_vlp) 0 = true := by decide +kernel
theorem zX_ubo {l : Launch} {w : zk_W} (hW : zh_W w) (d : Nat) (hd : d < 9) (hpl : zQ_upl l w d) : zQ_ubo l w d := by
  intro t x b cd B ln tk nl C sz uu ord x0
  refine zp_methX (cn := "WoundTown$Reader") zp_lkallRd hW (pl := 850) rfl (zb_ubo d hd) (fun p e R s m args below meth c Q u hx hb hE hQ hU5 heff hnL hok hφ => ?_)
  have hw := hW.1
  obtain ⟨p0, p1, hps, k0, k1⟩ := zp_ps2 hok
  obtain ⟨a, rfl, hp⟩ := zp_this k0
  have hrm : zk_Kr (zk_ev (zt_types, zp_lkRd, zt_dv, [], [], zp_lcRd, zK_ubo d)) = zk_Kr (zK_ubo d) := rfl
  rw [hps] at hφ ⊢
  show zp_J p l e R s m args below meth c Q w u [] 0 [(0, 2, (a : Int)), (1, 0, p1)] [] u.1 (zp_n u.2.1)
  obtain ⟨hT, hd9, hu⟩ : zT u.1 a t x b cd (zp_n u.2.1) B ln tk nl C sz ord ∧ p1 = (d : Int) ∧ sz + uu ≤ 2 * zy_fr B ln tk + 72 := hφ
  subst hd9
  have hX := hT
  obtain ⟨⟨⟨pa, pt, px, pb, pc⟩, -, -, -⟩, -⟩ := hX
  have hT0 : zT u.1 a t x b cd (zp_n u.2.1) B ln tk nl C sz ord := hT
  have hX0 := hT0
  obtain ⟨⟨-, ga00, ga10, gx50⟩, hTt0, ⟨ga30, ga40, hnl0⟩, gx70, hsz0, hC0⟩ := hX0
  have hf0 := zTt_f hTt0
  have loop : ∀ (n9 k tk1 k1 : Nat) (x1 : yD) (C1 : Nat → Int) (sz1 : Nat) (G1 : Nat → Nat → Int) (hT1 : zT u.1 a t x b cd G1 B ln tk1 (nl + k1) C1 sz1 ord) (hH1 : yH ord sz C C1 sz1 k1 x1) (hu1 : sz1 + uu ≤ 2 * zy_fr B ln tk1 + 72) (hz1 : zy_fr B ln tk + 1 ≤ zy_fr B ln tk1) (hy1 : yd_T x1), 401 - k < n9 → k ≤ zy_fr B ln tk1 → (∀ s, yZ (zy_so B ln) (zy_wo B ln) (zy_to B ln) (ylf ord B ln) 7 d (nl + k1) tk1 x1 s → yZ (zy_so B ln) (zy_wo B ln) (zy_to B ln) (ylf ord B ln) 6 d nl tk x0 s) → zp_J p l e R s m args below meth c Q w u [] 12 [(2, 0, (k : Int)), (0, 2, (a : Int)), (1, 0, (d : Int))] [] u.1 G1 := by
    intro n9
    induction n9 with
    | zero => intro k tk1 k1 x1 C1 sz1 G1 hT1 hH1 hu1 hz1 hy1 h; exact absurd h (Nat.not_lt_zero _)
    | succ n9 ih =>
      intro k tk1 k1 x1 C1 sz1 G1 hT1 hH1 hu1 hz1 hy1 hn hk hgo
      have hT1 : zT u.1 a t x b cd G1 B ln tk1 (nl + k1) C1 sz1 ord := hT1
      have hX1 := hT1
      obtain ⟨⟨-, ga01, ga11, gx51⟩, hTt1, ⟨ga31, ga41, hnl1⟩, gx71, hsz1, hC1⟩ := hX1
      have hf1 := zTt_f hTt1
      have hg1 := zTt_go hTt1
      refine zp_load (pc := 12) hx hb (zd_X5_both (12, .iload_n 2, 1, 0, []) (List.mem_of_getElem? (i := 8) rfl)) rfl (j := 0) rfl ?_
      refine zp_const (pc := 13) hx hb (zd_X5_both (13, .sipush 400, 3, 0, []) (List.mem_of_getElem? (i := 9) rfl)) rfl rfl ?_
      refine zp_icmp (pc := 16) (tgt := 72) hx hb (zd_X5_both (16, .if_icmp .ge 56, 3, 0, []) (List.mem_of_getElem? (i := 10) rfl)) rfl (fun (hc147 : 400 ≤ (k : Int)) => ?_) (fun (hc147 : ¬ (400 ≤ (k : Int))) => ?_)
      · refine zp_const (pc := 72) hx hb (zd_X5_both (72, .iconst 1, 1, 0, []) (List.mem_of_getElem? (i := 37) rfl)) rfl rfl ?_
        have hno : ¬ yr_w (zy_so B ln) (zy_wo B ln) 1476 tk1 = true := by
          intro z
          have := hg1.2.2 (by rw [(yr_w_i.mp z).1]; decide)
          omega
        refine zp_zret (pc := 73) (n := 1) hx hb hE hQ hU5 rfl (show (1 : Nat) ≠ 2 by decide) (zd_X5_both (73, .ireturn, 1, 0, []) (List.mem_of_getElem? (i := 38) rfl)) (j := 0) rfl (zp_o0 (by omega) (by omega) (by omega) (by omega)) ?_
        rw [hps]
        exact ⟨rfl, Sum.inr (tk1, nl + k1, x1), hgo _ (yZ_an0 hno), rfl, fun _ => hy1, k1, C1, sz1, rfl, hT1, hH1, hu1, hz1⟩
      · refine zp_load (pc := 19) hx hb (zd_X5_both (19, .aload_n 0, 1, 0, []) (List.mem_of_getElem? (i := 11) rfl)) rfl (j := 1) rfl ?_
        refine zp_getf (n := (t : Int)) (pc := 20) hx hb hE hw (zd_X5_both (20, .getfield 24, 3, 0, []) (List.mem_of_getElem? (i := 12) rfl)) (j := 9) rfl rfl rfl hp ga01 ?_
        refine zp_ldS (pc := 23) hx hb hE (zd_X5_both (23, .ldc 141, 2, 0, []) (List.mem_of_getElem? (i := 13) rfl)) (j := 24) rfl (fun tx148 qtx148 => ?_)
        refine zp_call (pc := 25) (how := 0) (idx := 90) (mi := 68) (S := []) hx hb hE hw heff hrm (zX_vian hW b B ln tk1) rfl (j := 16) rfl rfl (zcb_ubo_vian d hd) (zd_X5_both (25, .invokevirtual 90, 3, 0, []) (List.mem_of_getElem? (i := 14) rfl)) [(t : Int), (tx148 : Int)] rfl ⟨zp_o2 pt, zp_o2 qtx148, trivial⟩ (Nat.le_of_ble_eq_true rfl) hTt1 (fun al hal rnd149 Pd149 Gd149 hextd149 hfrd149 hokd149 hcsd149 hpsid149 => ?_)
        obtain rfl := List.mem_singleton.mp hal
        have hrd149 := zp_int (hokd149 _ rfl).1
        obtain ⟨hPed149, hGed149, htd149⟩ := hpsid149
        rw [hPed149, hGed149]
        by_cases hkd149 : yr_w (zy_so B ln) (zy_wo B ln) 1476 tk1 = true
        · obtain rfl : rnd149 = 1 := htd149.mpr hkd149
          refine zp_if (pc := 28) (tgt := 72) hx hb (zd_X5_both (28, .ifCond .eq 44, 3, 0, []) (List.mem_of_getElem? (i := 15) rfl)) rfl (fun (hc150 : 1 = 0) => ?_) (fun (hc150 : ¬ (1 = 0)) => ?_)
          · exfalso
            omega
          · refine zp_load (pc := 31) hx hb (zd_X5_both (31, .aload_n 0, 1, 0, []) (List.mem_of_getElem? (i := 16) rfl)) rfl (j := 1) rfl ?_
            refine zp_getf (n := (t : Int)) (pc := 32) hx hb hE hw (zd_X5_both (32, .getfield 24, 3, 0, []) (List.mem_of_getElem? (i := 17) rfl)) (j := 9) rfl rfl rfl hp ga01 ?_
            have hyes := hkd149
            have hs9 := hg1.2.1 (by rw [(yr_w_i.mp hyes).1]; decide)
            refine zp_call (pc := 35) (how := 0) (idx := 60) (mi := 43) (S := []) hx hb hE hw heff hrm (zX_cnx hW) rfl (j := 6) rfl rfl (zcb_ubo_cnx d hd) (zd_X5_both (35, .invokevirtual 60, 3, 0, []) (List.mem_of_getElem? (i := 18) rfl)) [(t : Int)] rfl ⟨zp_o2 pt, trivial⟩ (Nat.le_of_ble_eq_true rfl) (zTt_q hTt1) (fun al hal rnn151 Pn151 Gn151 hextn151 hfrn151 hokn151 hcsn151 hpsin151 => ?_)
            obtain rfl := List.mem_singleton.mp hal
            obtain ⟨rfl, htn151⟩ := hpsin151
            have hgon151 := zTt_go hTt1
            have hTn151 : zT u.1 a t x b cd Gn151 B ln (zy_to B ln tk1) (nl + k1) C1 sz1 ord := zT_nx hT1 hfrn151 htn151
            have hXn151 := hTn151
            obtain ⟨⟨-, ga0n151, ga1n151, gx5n151⟩, hTtn151, ⟨ga3n151, ga4n151, hnln151⟩, gx7n151, hszn151, hCn151⟩ := hXn151
            have hfn151 := zTt_f hTtn151
            refine zp_load (pc := 38) hx hb (zd_X5_both (38, .aload_n 0, 1, 0, []) (List.mem_of_getElem? (i := 19) rfl)) rfl (j := 1) rfl ?_
            refine zp_getf (n := (x : Int)) (pc := 39) hx hb hE hw (zd_X5_both (39, .getfield 16, 3, 0, []) (List.mem_of_getElem? (i := 20) rfl)) (j := 10) rfl rfl rfl hp ga1n151 ?_
            refine zp_const (pc := 42) hx hb (zd_X5_both (42, .iconst 4, 1, 0, []) (List.mem_of_getElem? (i := 21) rfl)) rfl rfl ?_
            refine zp_const (pc := 43) hx hb (zd_X5_both (43, .iconst 0, 1, 0, []) (List.mem_of_getElem? (i := 22) rfl)) rfl rfl ?_
            have hsz9 := hfn151
            refine zp_call (pc := 44) (how := 0) (idx := 123) (mi := 66) (S := []) hx hb hE hw heff hrm (zX_vad hW cd sz1 C1) rfl (j := 14) rfl rfl (zcb_ubo_vad d hd) (zd_X5_both (44, .invokevirtual 123, 3, 0, []) (List.mem_of_getElem? (i := 23) rfl)) [(x : Int), 4, 0] rfl ⟨zp_o2 px, zp_o0 (by decide) (by decide) (by decide) (by decide), zp_o0 (by decide) (by decide) (by decide) (by decide), trivial⟩ (Nat.le_of_ble_eq_true rfl) ⟨⟨gx7n151, by omega⟩, gx5n151, pc, hCn151⟩ (fun al hal rna152 Pa152 Ga152 hexta152 hfra152 hoka152 hcsa152 hpsia152 => ?_)
            obtain rfl := List.mem_singleton.mp hal
            have hra152 := zp_int (hoka152 _ rfl).1
            obtain ⟨rfl, htra152, ht7a152, htca152⟩ := hpsia152
            have hTa152 : zT u.1 a t x b cd Ga152 B ln (zy_to B ln tk1) (nl + k1) (yh C1 sz1 4 0) (sz1 + 2) ord := zT_ad hTn151 hfra152 ht7a152 (by omega) htca152
            have hXa152 := hTa152
            obtain ⟨⟨-, ga0a152, ga1a152, gx5a152⟩, hTta152, ⟨ga3a152, ga4a152, hnla152⟩, gx7a152, hsza152, hCa152⟩ := hXa152
            have hfa152 := zTt_f hTta152
            refine zp_store (L' := [(3, 0, rna152), (2, 0, (k : Int)), (0, 2, (a : Int)), (1, 0, (d : Int))]) (pc := 47) hx hb hnL (zd_X5_both (47, .istore_n 3, 1, 0, []) (List.mem_of_getElem? (i := 24) rfl)) rfl rfl rfl ?_
            refine zp_load (pc := 48) hx hb (zd_X5_both (48, .aload_n 0, 1, 0, []) (List.mem_of_getElem? (i := 25) rfl)) rfl (j := 2) rfl ?_
            refine zp_load (pc := 49) hx hb (zd_X5_both (49, .iload_n 1, 1, 0, []) (List.mem_of_getElem? (i := 26) rfl)) rfl (j := 3) rfl ?_
            refine zp_call (pc := 50) (how := 0) (idx := 138) (mi := 73) (S := []) hx hb hE hw heff hrm (hpl t x b cd B ln (zy_to B ln tk1) (nl + k1) (yh C1 sz1 4 0) (sz1 + 2) uu ord x1) rfl (j := 21) rfl rfl (zcb_ubo_upl d hd) (zd_X5_both (50, .invokevirtual 138, 3, 0, []) (List.mem_of_getElem? (i := 27) rfl)) [(a : Int), (d : Int)] rfl ⟨zp_o2 hp, zp_o0 (by omega) (by omega) (by omega) (by omega), trivial⟩ (Nat.le_of_ble_eq_true rfl) ⟨hTa152, rfl, by omega⟩ (fun al hal rnr153 Pr153 Gr153 hextr153 hfrr153 hokr153 hcsr153 hpsir153 => ?_)
            obtain rfl := List.mem_singleton.mp hal
            have hrr153 := zp_int (hokr153 _ rfl).1
            obtain ⟨rfl, sr153, hsr153, htr153⟩ := hpsir153
            rcases sr153 with qr153 | ⟨pr153, nr153, yr153⟩
            · obtain ⟨hzr153, nlr153, Cr153, szr153, hTr153⟩ : rnr153 = 0 ∧ ∃ (nl' : Nat) (C' : Nat → Int) (sz' : Nat), zT u.1 a t x b cd Gr153 B ln qr153 nl' C' sz' ord := htr153
              subst hzr153
              refine zp_if (pc := 53) (tgt := 58) hx hb (zd_X5_both (53, .ifCond .ne 5, 3, 0, []) (List.mem_of_getElem? (i := 28) rfl)) rfl (fun (hc154 : ¬ 0 = 0) => ?_) (fun (hc154 : ¬ (¬ 0 = 0)) => ?_)
              · exfalso
                omega
              · refine zp_const (pc := 56) hx hb (zd_X5_both (56, .iconst 0, 1, 0, []) (List.mem_of_getElem? (i := 29) rfl)) rfl rfl ?_
                refine zp_zret (pc := 57) (n := 0) hx hb hE hQ hU5 rfl (show (1 : Nat) ≠ 2 by decide) (zd_X5_both (57, .ireturn, 1, 0, []) (List.mem_of_getElem? (i := 30) rfl)) (j := 0) rfl (zp_o0 (by omega) (by omega) (by omega) (by omega)) ?_
                rw [hps]
                refine ⟨rfl, Sum.inl qr153, ?_, rfl, _, _, _, hTr153⟩
                exact hgo _ (yZ_an hyes (Or.inl ⟨_, rfl, hsr153⟩))
            · obtain ⟨hzr153, hyr153, kr153, Cr153, szr153, hnr153, hTTr153, hHr153, hur153, hf9r153⟩ : rnr153 = 1 ∧ (_ → yd_T yr153) ∧ ∃ (k : Nat) (C' : Nat → Int) (sz' : Nat), nr153 = (nl + k1) + k ∧ zT u.1 a t x b cd Gr153 B ln pr153 nr153 C' sz' ord ∧ yH ord (sz1 + 2) (yh C1 sz1 4 0) C' sz' k yr153 ∧ sz' + uu ≤ 2 * zy_fr B ln pr153 + 72 ∧ zy_fr B ln (zy_to B ln tk1) + 1 ≤ zy_fr B ln pr153 := htr153
              subst hzr153
              obtain rfl : nr153 = nl + (k1 + kr153) := by omega
              have hTr153 : zT u.1 a t x b cd Gr153 B ln pr153 (nl + (k1 + kr153)) Cr153 szr153 ord := hTTr153
              have hXr153 := hTr153
              obtain ⟨⟨-, ga0r153, ga1r153, gx5r153⟩, hTtr153, ⟨ga3r153, ga4r153, hnlr153⟩, gx7r153, hszr153, hCr153⟩ := hXr153
              have hfr153 := zTt_f hTtr153
              refine zp_if (pc := 53) (tgt := 58) hx hb (zd_X5_both (53, .ifCond .ne 5, 3, 0, []) (List.mem_of_getElem? (i := 28) rfl)) rfl (fun (hc155 : ¬ 1 = 0) => ?_) (fun (hc155 : ¬ (¬ 1 = 0)) => ?_)
              · refine zp_load (pc := 58) hx hb (zd_X5_both (58, .aload_n 0, 1, 0, []) (List.mem_of_getElem? (i := 31) rfl)) rfl (j := 2) rfl ?_
                refine zp_getf (n := (x : Int)) (pc := 59) hx hb hE hw (zd_X5_both (59, .getfield 16, 3, 0, []) (List.mem_of_getElem? (i := 32) rfl)) (j := 10) rfl rfl rfl hp ga1r153 ?_
                refine zp_load (pc := 62) hx hb (zd_X5_both (62, .iload_n 3, 1, 0, []) (List.mem_of_getElem? (i := 33) rfl)) rfl (j := 0) rfl ?_
                refine zp_call (pc := 63) (how := 0) (idx := 134) (mi := 76) (S := []) hx hb hE hw heff hrm (zX_vlp hW cd szr153 sz1 Cr153) rfl (j := 24) rfl rfl (zcb_ubo_vlp d hd) (zd_X5_both (63, .invokevirtual 134, 3, 0, []) (List.mem_of_getElem? (i := 34) rfl)) [(x : Int), rna152] rfl ⟨zp_o2 px, zp_o0 (by omega) (by omega) (by omega) (by omega), trivial⟩ (Nat.le_of_ble_eq_true rfl) ⟨⟨gx7r153, by omega, htra152, by omega⟩, gx5r153, pc, hCr153⟩ (fun al hal rnl156 Pl156 Gl156 hextl156 hfrl156 hokl156 hcsl156 hpsil156 => ?_)
                obtain rfl := List.mem_singleton.mp hal
                obtain ⟨rfl, htl156⟩ := hpsil156
                have hTl156 : zT u.1 a t x b cd Gl156 B ln pr153 (nl + (k1 + kr153)) (yu Cr153 (sz1 + 1) ((szr153 : Nat) : Int)) szr153 ord := zT_lp hTr153 hfrl156 htl156
                have hXl156 := hTl156
                obtain ⟨⟨-, ga0l156, ga1l156, gx5l156⟩, hTtl156, ⟨ga3l156, ga4l156, hnll156⟩, gx7l156, hszl156, hCl156⟩ := hXl156
                have hfl156 := zTt_f hTtl156
                refine zp_iinc (L' := [(2, 0, ((k : Int) + 1)), (3, 0, rna152), (0, 2, (a : Int)), (1, 0, (d : Int))]) (n := ((k : Int) + 1)) (pc := 66) hx hb hnL (zd_X5_both (66, .iinc 2 1, 3, 0, []) (List.mem_of_getElem? (i := 35) rfl)) (j := 1) rfl (by omega) (zp_r0 (by omega) (by omega)) rfl rfl ?_
                refine zp_goto (tgt := 12) (pc := 69) hx hb (zd_X5_both (69, .goto (-57), 3, 0, []) (List.mem_of_getElem? (i := 36) rfl)) rfl ?_
                refine zp_drop (L' := [(2, 0, ((k + 1 : Nat) : Int)), (0, 2, (a : Int)), (1, 0, (d : Int))]) (by simp <;> omega) ?_
                have hH9 := (yH_jn hH1 hy1 hHr153).1 rfl
                exact ih (k + 1) pr153 (k1 + kr153) (yd_ad x1 yr153) _ _ _ hTl156 hH9 (by omega) (by omega) (yd_T_ad (hyr153 rfl)) (by omega) (by omega) (fun s hs => hgo s (yZ_an hyes (Or.inr ⟨_, _, _, hsr153, hs⟩)))
              · exfalso
                omega
        · have zd149 : ¬ rnd149 = 1 := fun z => hkd149 (htd149.mp z)
          obtain rfl : rnd149 = 0 := by omega
          refine zp_if (pc := 28) (tgt := 72) hx hb (zd_X5_both (28, .ifCond .eq 44, 3, 0, []) (List.mem_of_getElem? (i := 15) rfl)) rfl (fun (hc157 : 0 = 0) => ?_) (fun (hc157 : ¬ (0 = 0)) => ?_)
          · refine zp_const (pc := 72) hx hb (zd_X5_both (72, .iconst 1, 1, 0, []) (List.mem_of_getElem? (i := 37) rfl)) rfl rfl ?_
            have hno : ¬ yr_w (zy_so B ln) (zy_wo B ln) 1476 tk1 = true := by
              exact hkd149
            refine zp_zret (pc := 73) (n := 1) hx hb hE hQ hU5 rfl (show (1 : Nat) ≠ 2 by decide) (zd_X5_both (73, .ireturn, 1, 0, []) (List.mem_of_getElem? (i := 38) rfl)) (j := 0) rfl (zp_o0 (by omega) (by omega) (by omega) (by omega)) ?_
            rw [hps]
            exact ⟨rfl, Sum.inr (tk1, nl + k1, x1), hgo _ (yZ_an0 hno), rfl, fun _ => hy1, k1, C1, sz1, rfl, hT1, hH1, hu1, hz1⟩
          · exfalso
            omega
  refine zp_load (pc := 0) hx hb (zd_X5_both (0, .aload_n 0, 1, 0, []) (List.mem_of_getElem? (i := 0) rfl)) rfl (j := 0) rfl ?_
  refine zp_load (pc := 1) hx hb (zd_X5_both (1, .iload_n 1, 1, 0, []) (List.mem_of_getElem? (i := 1) rfl)) rfl (j := 1) rfl ?_
  refine zp_call (pc := 2) (how := 0) (idx := 138) (mi := 73) (S := []) hx hb hE hw heff hrm (hpl t x b cd B ln tk nl C sz uu ord x0) rfl (j := 21) rfl rfl (zcb_ubo_upl d hd) (zd_X5_both (2, .invokevirtual 138, 3, 0, []) (List.mem_of_getElem? (i := 2) rfl)) [(a : Int), (d : Int)] rfl ⟨zp_o2 hp, zp_o0 (by omega) (by omega) (by omega) (by omega), trivial⟩ (Nat.le_of_ble_eq_true rfl) ⟨hT0, rfl, by omega⟩ (fun al hal rnr158 Pr158 Gr158 hextr158 hfrr158 hokr158 hcsr158 hpsir158 => ?_)
  obtain rfl := List.mem_singleton.mp hal
  have hrr158 := zp_int (hokr158 _ rfl).1
  obtain ⟨rfl, sr158, hsr158, htr158⟩ := hpsir158
  rcases sr158 with qr158 | ⟨pr158, nr158, yr158⟩
  · obtain ⟨hzr158, nlr158, Cr158, szr158, hTr158⟩ : rnr158 = 0 ∧ ∃ (nl' : Nat) (C' : Nat → Int) (sz' : Nat), zT u.1 a t x b cd Gr158 B ln qr158 nl' C' sz' ord := htr158
    subst hzr158
    refine zp_if (pc := 5) (tgt := 10) hx hb (zd_X5_both (5, .ifCond .ne 5, 3, 0, []) (List.mem_of_getElem? (i := 3) rfl)) rfl (fun (hc159 : ¬ 0 = 0) => ?_) (fun (hc159 : ¬ (¬ 0 = 0)) => ?_)
    · exfalso
      omega
    · refine zp_const (pc := 8) hx hb (zd_X5_both (8, .iconst 0, 1, 0, []) (List.mem_of_getElem? (i := 4) rfl)) rfl rfl ?_
      refine zp_zret (pc := 9) (n := 0) hx hb hE hQ hU5 rfl (show (1 : Nat) ≠ 2 by decide) (zd_X5_both (9, .ireturn, 1, 0, []) (List.mem_of_getElem? (i := 5) rfl)) (j := 0) rfl (zp_o0 (by omega) (by omega) (by omega) (by omega)) ?_
      rw [hps]
      refine ⟨rfl, Sum.inl qr158, ?_, rfl, _, _, _, hTr158⟩
      exact yZ_row (k := 6) (k1 := 5) (k2 := 7) (fun f => yr_6) (Or.inl ⟨_, rfl, hsr158⟩)
  · obtain ⟨hzr158, hyr158, kr158, Cr158, szr158, hnr158, hTTr158, hHr158, hur158, hf9r158⟩ : rnr158 = 1 ∧ (_ → yd_T yr158) ∧ ∃ (k : Nat) (C' : Nat → Int) (sz' : Nat), nr158 = nl + k ∧ zT u.1 a t x b cd Gr158 B ln pr158 nr158 C' sz' ord ∧ yH ord sz C C' sz' k yr158 ∧ sz' + uu ≤ 2 * zy_fr B ln pr158 + 72 ∧ zy_fr B ln tk + 1 ≤ zy_fr B ln pr158 := htr158
    subst hzr158
    obtain rfl : nr158 = nl + kr158 := by omega
    have hTr158 : zT u.1 a t x b cd Gr158 B ln pr158 (nl + kr158) Cr158 szr158 ord := hTTr158
    have hXr158 := hTr158
    obtain ⟨⟨-, ga0r158, ga1r158, gx5r158⟩, hTtr158, ⟨ga3r158, ga4r158, hnlr158⟩, gx7r158, hszr158, hCr158⟩ := hXr158
    have hfr158 := zTt_f hTtr158
    have hgo0 : ∀ s, yZ (zy_so B ln) (zy_wo B ln) (zy_to B ln) (ylf ord B ln) 7 d (nl + kr158) pr158 yr158 s → yZ (zy_so B ln) (zy_wo B ln) (zy_to B ln) (ylf ord B ln) 6 d nl tk x0 s := fun s hs => yZ_row (k := 6) (k1 := 5) (k2 := 7) (fun f => yr_6) (Or.inr ⟨_, _, _, hsr158, hs⟩)
    refine zp_if (pc := 5) (tgt := 10) hx hb (zd_X5_both (5, .ifCond .ne 5, 3, 0, []) (List.mem_of_getElem? (i := 3) rfl)) rfl (fun (hc160 : ¬ 1 = 0) => ?_) (fun (hc160 : ¬ (¬ 1 = 0)) => ?_)
    · refine zp_const (pc := 10) hx hb (zd_X5_both (10, .iconst 0, 1, 0, []) (List.mem_of_getElem? (i := 6) rfl)) rfl rfl ?_
      refine zp_store (L' := [(2, 0, 0), (0, 2, (a : Int)), (1, 0, (d : Int))]) (pc := 11) hx hb hnL (zd_X5_both (11, .istore_n 2, 1, 0, []) (List.mem_of_getElem? (i := 7) rfl)) rfl rfl rfl ?_
      refine zp_drop (L' := [(2, 0, ((0 : Nat) : Int)), (0, 2, (a : Int)), (1, 0, (d : Int))]) (by simp) ?_
      exact loop 402 0 pr158 kr158 yr158 _ _ _ hTr158 hHr158 hur158 hf9r158 (hyr158 rfl) (by omega) (by omega) hgo0
    · exfalso
      omega
theorem zcb_uts_vior : ∀ d, d < 9 → zp_cb (zk_Ke (zK_uts d)) (zk_Kr (zK_uts d)) (zK_vior) 0 = true := by decide +kernel
theorem zcb_uts_cnx : ∀ d, d < 9 → zp_cb (zk_Ke (zK_uts d)) (zk_Kr (zK_uts d)) (zK_cnx) 0 = true := by decide +kernel
theorem zcb_uts_vad : ∀ d, d < 9 → zp_cb (zk_Ke (zK_uts d)) (zk_Kr (zK_uts d)) (zK_vad) 0 = true := by decide +kernel
theorem zcb_uts_ubo : ∀ d, d < 9 → zp_cb (zk_Ke (zK_uts d)) (zk_Kr (zK_uts d)) (zK_ubo d) 0 = true := by decide +kernel
theorem zcb_uts_vlp : ∀ d, d < 9 → zp_cb (zk_Ke (zK_uts d)) (zk_Kr (zK_uts d)) (zK_vlp) 0 = true := by decide +kernel
theorem zX_uts {l : Launch} {w : zk_W} (hW : zh_W w) (d : Nat) (hd : d < 9) (hbo : zQ_ubo l w d) : zQ_uts l w d := by
  intro t x b cd B ln tk nl C sz uu ord x0
  refine zp_methX (cn := "WoundTown$Reader") zp_lkallRd hW (pl := 846) rfl (zb_uts d hd) (fun p e R s m args below meth c Q u hx hb hE hQ hU5 heff hnL hok hφ => ?_)
  have hw := hW.1
  obtain ⟨p0, p1, hps, k0, k1⟩ := zp_ps2 hok
  obtain ⟨a, rfl, hp⟩ := zp_this k0
  have hrm : zk_Kr (zk_ev (zt_types, zp_lkRd, zt_dv, [], [], zp_lcRd, zK_uts d)) = zk_Kr (zK_uts d) := rfl
  rw [hps] at hφ ⊢
  show zp_J p l e R s m args below meth c Q w u [] 0 [(0, 2, (a : Int)), (1, 0, p1)] [] u.1 (zp_n u.2.1)
  obtain ⟨hT, hd9, hu⟩ : zT u.1 a t x b cd (zp_n u.2.1) B ln tk nl C sz ord ∧ p1 = (d : Int) ∧ sz + uu ≤ 2 * zy_fr B ln tk + 72 := hφ
  subst hd9
  have hX := hT
  obtain ⟨⟨⟨pa, pt, px, pb, pc⟩, -, -, -⟩, -⟩ := hX
  have hT0 : zT u.1 a t x b cd (zp_n u.2.1) B ln tk nl C sz ord := hT
  have hX0 := hT0
  obtain ⟨⟨-, ga00, ga10, gx50⟩, hTt0, ⟨ga30, ga40, hnl0⟩, gx70, hsz0, hC0⟩ := hX0
  have hf0 := zTt_f hTt0
  have loop : ∀ (n9 k tk1 k1 : Nat) (x1 : yD) (C1 : Nat → Int) (sz1 : Nat) (G1 : Nat → Nat → Int) (hT1 : zT u.1 a t x b cd G1 B ln tk1 (nl + k1) C1 sz1 ord) (hH1 : yH ord sz C C1 sz1 k1 x1) (hu1 : sz1 + uu ≤ 2 * zy_fr B ln tk1 + 72) (hz1 : zy_fr B ln tk + 1 ≤ zy_fr B ln tk1) (hy1 : yd_T x1), 401 - k < n9 → k ≤ zy_fr B ln tk1 → (∀ s, yZ (zy_so B ln) (zy_wo B ln) (zy_to B ln) (ylf ord B ln) 9 d (nl + k1) tk1 x1 s → yZ (zy_so B ln) (zy_wo B ln) (zy_to B ln) (ylf ord B ln) 8 d nl tk x0 s) → zp_J p l e R s m args below meth c Q w u [] 12 [(2, 0, (k : Int)), (0, 2, (a : Int)), (1, 0, (d : Int))] [] u.1 G1 := by
    intro n9
    induction n9 with
    | zero => intro k tk1 k1 x1 C1 sz1 G1 hT1 hH1 hu1 hz1 hy1 h; exact absurd h (Nat.not_lt_zero _)
    | succ n9 ih =>
      intro k tk1 k1 x1 C1 sz1 G1 hT1 hH1 hu1 hz1 hy1 hn hk hgo
      have hT1 : zT u.1 a t x b cd G1 B ln tk1 (nl + k1) C1 sz1 ord := hT1
      have hX1 := hT1
      obtain ⟨⟨-, ga01, ga11, gx51⟩, hTt1, ⟨ga31, ga41, hnl1⟩, gx71, hsz1, hC1⟩ := hX1
      have hf1 := zTt_f hTt1
      have hg1 := zTt_go hTt1
      refine zp_load (pc := 12) hx hb (zd_X5_test (12, .iload_n 2, 1, 0, []) (List.mem_of_getElem? (i := 8) rfl)) rfl (j := 0) rfl ?_
      refine zp_const (pc := 13) hx hb (zd_X5_test (13, .sipush 400, 3, 0, []) (List.mem_of_getElem? (i := 9) rfl)) rfl rfl ?_
      refine zp_icmp (pc := 16) (tgt := 72) hx hb (zd_X5_test (16, .if_icmp .ge 56, 3, 0, []) (List.mem_of_getElem? (i := 10) rfl)) rfl (fun (hc161 : 400 ≤ (k : Int)) => ?_) (fun (hc161 : ¬ (400 ≤ (k : Int))) => ?_)
      · refine zp_const (pc := 72) hx hb (zd_X5_test (72, .iconst 1, 1, 0, []) (List.mem_of_getElem? (i := 37) rfl)) rfl rfl ?_
        have hno : ¬ yr_w (zy_so B ln) (zy_wo B ln) 498 tk1 = true := by
          intro z
          have := hg1.2.2 (by rw [(yr_w_i.mp z).1]; decide)
          omega
        refine zp_zret (pc := 73) (n := 1) hx hb hE hQ hU5 rfl (show (1 : Nat) ≠ 2 by decide) (zd_X5_test (73, .ireturn, 1, 0, []) (List.mem_of_getElem? (i := 38) rfl)) (j := 0) rfl (zp_o0 (by omega) (by omega) (by omega) (by omega)) ?_
        rw [hps]
        exact ⟨rfl, Sum.inr (tk1, nl + k1, x1), hgo _ (yZ_or0 hno), rfl, fun _ => hy1, k1, C1, sz1, rfl, hT1, hH1, hu1, hz1⟩
      · refine zp_load (pc := 19) hx hb (zd_X5_test (19, .aload_n 0, 1, 0, []) (List.mem_of_getElem? (i := 11) rfl)) rfl (j := 1) rfl ?_
        refine zp_getf (n := (t : Int)) (pc := 20) hx hb hE hw (zd_X5_test (20, .getfield 24, 3, 0, []) (List.mem_of_getElem? (i := 12) rfl)) (j := 9) rfl rfl rfl hp ga01 ?_
        refine zp_ldS (pc := 23) hx hb hE (zd_X5_test (23, .ldc 132, 2, 0, []) (List.mem_of_getElem? (i := 13) rfl)) (j := 23) rfl (fun tx162 qtx162 => ?_)
        refine zp_call (pc := 25) (how := 0) (idx := 90) (mi := 68) (S := []) hx hb hE hw heff hrm (zX_vior hW b B ln tk1) rfl (j := 16) rfl rfl (zcb_uts_vior d hd) (zd_X5_test (25, .invokevirtual 90, 3, 0, []) (List.mem_of_getElem? (i := 14) rfl)) [(t : Int), (tx162 : Int)] rfl ⟨zp_o2 pt, zp_o2 qtx162, trivial⟩ (Nat.le_of_ble_eq_true rfl) hTt1 (fun al hal rnd163 Pd163 Gd163 hextd163 hfrd163 hokd163 hcsd163 hpsid163 => ?_)
        obtain rfl := List.mem_singleton.mp hal
        have hrd163 := zp_int (hokd163 _ rfl).1
        obtain ⟨hPed163, hGed163, htd163⟩ := hpsid163
        rw [hPed163, hGed163]
        by_cases hkd163 : yr_w (zy_so B ln) (zy_wo B ln) 498 tk1 = true
        · obtain rfl : rnd163 = 1 := htd163.mpr hkd163
          refine zp_if (pc := 28) (tgt := 72) hx hb (zd_X5_test (28, .ifCond .eq 44, 3, 0, []) (List.mem_of_getElem? (i := 15) rfl)) rfl (fun (hc164 : 1 = 0) => ?_) (fun (hc164 : ¬ (1 = 0)) => ?_)
          · exfalso
            omega
          · refine zp_load (pc := 31) hx hb (zd_X5_test (31, .aload_n 0, 1, 0, []) (List.mem_of_getElem? (i := 16) rfl)) rfl (j := 1) rfl ?_
            refine zp_getf (n := (t : Int)) (pc := 32) hx hb hE hw (zd_X5_test (32, .getfield 24, 3, 0, []) (List.mem_of_getElem? (i := 17) rfl)) (j := 9) rfl rfl rfl hp ga01 ?_
            have hyes := hkd163
            have hs9 := hg1.2.1 (by rw [(yr_w_i.mp hyes).1]; decide)
            refine zp_call (pc := 35) (how := 0) (idx := 60) (mi := 43) (S := []) hx hb hE hw heff hrm (zX_cnx hW) rfl (j := 6) rfl rfl (zcb_uts_cnx d hd) (zd_X5_test (35, .invokevirtual 60, 3, 0, []) (List.mem_of_getElem? (i := 18) rfl)) [(t : Int)] rfl ⟨zp_o2 pt, trivial⟩ (Nat.le_of_ble_eq_true rfl) (zTt_q hTt1) (fun al hal rnn165 Pn165 Gn165 hextn165 hfrn165 hokn165 hcsn165 hpsin165 => ?_)
            obtain rfl := List.mem_singleton.mp hal
            obtain ⟨rfl, htn165⟩ := hpsin165
            have hgon165 := zTt_go hTt1
            have hTn165 : zT u.1 a t x b cd Gn165 B ln (zy_to B ln tk1) (nl + k1) C1 sz1 ord := zT_nx hT1 hfrn165 htn165
            have hXn165 := hTn165
            obtain ⟨⟨-, ga0n165, ga1n165, gx5n165⟩, hTtn165, ⟨ga3n165, ga4n165, hnln165⟩, gx7n165, hszn165, hCn165⟩ := hXn165
            have hfn165 := zTt_f hTtn165
            refine zp_load (pc := 38) hx hb (zd_X5_test (38, .aload_n 0, 1, 0, []) (List.mem_of_getElem? (i := 19) rfl)) rfl (j := 1) rfl ?_
            refine zp_getf (n := (x : Int)) (pc := 39) hx hb hE hw (zd_X5_test (39, .getfield 16, 3, 0, []) (List.mem_of_getElem? (i := 20) rfl)) (j := 10) rfl rfl rfl hp ga1n165 ?_
            refine zp_const (pc := 42) hx hb (zd_X5_test (42, .iconst 5, 1, 0, []) (List.mem_of_getElem? (i := 21) rfl)) rfl rfl ?_
            refine zp_const (pc := 43) hx hb (zd_X5_test (43, .iconst 0, 1, 0, []) (List.mem_of_getElem? (i := 22) rfl)) rfl rfl ?_
            have hsz9 := hfn165
            refine zp_call (pc := 44) (how := 0) (idx := 123) (mi := 66) (S := []) hx hb hE hw heff hrm (zX_vad hW cd sz1 C1) rfl (j := 14) rfl rfl (zcb_uts_vad d hd) (zd_X5_test (44, .invokevirtual 123, 3, 0, []) (List.mem_of_getElem? (i := 23) rfl)) [(x : Int), 5, 0] rfl ⟨zp_o2 px, zp_o0 (by decide) (by decide) (by decide) (by decide), zp_o0 (by decide) (by decide) (by decide) (by decide), trivial⟩ (Nat.le_of_ble_eq_true rfl) ⟨⟨gx7n165, by omega⟩, gx5n165, pc, hCn165⟩ (fun al hal rna166 Pa166 Ga166 hexta166 hfra166 hoka166 hcsa166 hpsia166 => ?_)
            obtain rfl := List.mem_singleton.mp hal
            have hra166 := zp_int (hoka166 _ rfl).1
            obtain ⟨rfl, htra166, ht7a166, htca166⟩ := hpsia166
            have hTa166 : zT u.1 a t x b cd Ga166 B ln (zy_to B ln tk1) (nl + k1) (yh C1 sz1 5 0) (sz1 + 2) ord := zT_ad hTn165 hfra166 ht7a166 (by omega) htca166
            have hXa166 := hTa166
            obtain ⟨⟨-, ga0a166, ga1a166, gx5a166⟩, hTta166, ⟨ga3a166, ga4a166, hnla166⟩, gx7a166, hsza166, hCa166⟩ := hXa166
            have hfa166 := zTt_f hTta166
            refine zp_store (L' := [(3, 0, rna166), (2, 0, (k : Int)), (0, 2, (a : Int)), (1, 0, (d : Int))]) (pc := 47) hx hb hnL (zd_X5_test (47, .istore_n 3, 1, 0, []) (List.mem_of_getElem? (i := 24) rfl)) rfl rfl rfl ?_
            refine zp_load (pc := 48) hx hb (zd_X5_test (48, .aload_n 0, 1, 0, []) (List.mem_of_getElem? (i := 25) rfl)) rfl (j := 2) rfl ?_
            refine zp_load (pc := 49) hx hb (zd_X5_test (49, .iload_n 1, 1, 0, []) (List.mem_of_getElem? (i := 26) rfl)) rfl (j := 3) rfl ?_
            refine zp_call (pc := 50) (how := 0) (idx := 129) (mi := 72) (S := []) hx hb hE hw heff hrm (hbo t x b cd B ln (zy_to B ln tk1) (nl + k1) (yh C1 sz1 5 0) (sz1 + 2) uu ord x1) rfl (j := 20) rfl rfl (zcb_uts_ubo d hd) (zd_X5_test (50, .invokevirtual 129, 3, 0, []) (List.mem_of_getElem? (i := 27) rfl)) [(a : Int), (d : Int)] rfl ⟨zp_o2 hp, zp_o0 (by omega) (by omega) (by omega) (by omega), trivial⟩ (Nat.le_of_ble_eq_true rfl) ⟨hTa166, rfl, by omega⟩ (fun al hal rnr167 Pr167 Gr167 hextr167 hfrr167 hokr167 hcsr167 hpsir167 => ?_)
            obtain rfl := List.mem_singleton.mp hal
            have hrr167 := zp_int (hokr167 _ rfl).1
            obtain ⟨rfl, sr167, hsr167, htr167⟩ := hpsir167
            rcases sr167 with qr167 | ⟨pr167, nr167, yr167⟩
            · obtain ⟨hzr167, nlr167, Cr167, szr167, hTr167⟩ : rnr167 = 0 ∧ ∃ (nl' : Nat) (C' : Nat → Int) (sz' : Nat), zT u.1 a t x b cd Gr167 B ln qr167 nl' C' sz' ord := htr167
              subst hzr167
              refine zp_if (pc := 53) (tgt := 58) hx hb (zd_X5_test (53, .ifCond .ne 5, 3, 0, []) (List.mem_of_getElem? (i := 28) rfl)) rfl (fun (hc168 : ¬ 0 = 0) => ?_) (fun (hc168 : ¬ (¬ 0 = 0)) => ?_)
              · exfalso
                omega
              · refine zp_const (pc := 56) hx hb (zd_X5_test (56, .iconst 0, 1, 0, []) (List.mem_of_getElem? (i := 29) rfl)) rfl rfl ?_
                refine zp_zret (pc := 57) (n := 0) hx hb hE hQ hU5 rfl (show (1 : Nat) ≠ 2 by decide) (zd_X5_test (57, .ireturn, 1, 0, []) (List.mem_of_getElem? (i := 30) rfl)) (j := 0) rfl (zp_o0 (by omega) (by omega) (by omega) (by omega)) ?_
                rw [hps]
                refine ⟨rfl, Sum.inl qr167, ?_, rfl, _, _, _, hTr167⟩
                exact hgo _ (yZ_or hyes (Or.inl ⟨_, rfl, hsr167⟩))
            · obtain ⟨hzr167, hyr167, kr167, Cr167, szr167, hnr167, hTTr167, hHr167, hur167, hf9r167⟩ : rnr167 = 1 ∧ (_ → yd_T yr167) ∧ ∃ (k : Nat) (C' : Nat → Int) (sz' : Nat), nr167 = (nl + k1) + k ∧ zT u.1 a t x b cd Gr167 B ln pr167 nr167 C' sz' ord ∧ yH ord (sz1 + 2) (yh C1 sz1 5 0) C' sz' k yr167 ∧ sz' + uu ≤ 2 * zy_fr B ln pr167 + 72 ∧ zy_fr B ln (zy_to B ln tk1) + 1 ≤ zy_fr B ln pr167 := htr167
              subst hzr167
              obtain rfl : nr167 = nl + (k1 + kr167) := by omega
              have hTr167 : zT u.1 a t x b cd Gr167 B ln pr167 (nl + (k1 + kr167)) Cr167 szr167 ord := hTTr167
              have hXr167 := hTr167
              obtain ⟨⟨-, ga0r167, ga1r167, gx5r167⟩, hTtr167, ⟨ga3r167, ga4r167, hnlr167⟩, gx7r167, hszr167, hCr167⟩ := hXr167
              have hfr167 := zTt_f hTtr167
              refine zp_if (pc := 53) (tgt := 58) hx hb (zd_X5_test (53, .ifCond .ne 5, 3, 0, []) (List.mem_of_getElem? (i := 28) rfl)) rfl (fun (hc169 : ¬ 1 = 0) => ?_) (fun (hc169 : ¬ (¬ 1 = 0)) => ?_)
              · refine zp_load (pc := 58) hx hb (zd_X5_test (58, .aload_n 0, 1, 0, []) (List.mem_of_getElem? (i := 31) rfl)) rfl (j := 2) rfl ?_
                refine zp_getf (n := (x : Int)) (pc := 59) hx hb hE hw (zd_X5_test (59, .getfield 16, 3, 0, []) (List.mem_of_getElem? (i := 32) rfl)) (j := 10) rfl rfl rfl hp ga1r167 ?_
                refine zp_load (pc := 62) hx hb (zd_X5_test (62, .iload_n 3, 1, 0, []) (List.mem_of_getElem? (i := 33) rfl)) rfl (j := 0) rfl ?_
                refine zp_call (pc := 63) (how := 0) (idx := 134) (mi := 76) (S := []) hx hb hE hw heff hrm (zX_vlp hW cd szr167 sz1 Cr167) rfl (j := 24) rfl rfl (zcb_uts_vlp d hd) (zd_X5_test (63, .invokevirtual 134, 3, 0, []) (List.mem_of_getElem? (i := 34) rfl)) [(x : Int), rna166] rfl ⟨zp_o2 px, zp_o0 (by omega) (by omega) (by omega) (by omega), trivial⟩ (Nat.le_of_ble_eq_true rfl) ⟨⟨gx7r167, by omega, htra166, by omega⟩, gx5r167, pc, hCr167⟩ (fun al hal rnl170 Pl170 Gl170 hextl170 hfrl170 hokl170 hcsl170 hpsil170 => ?_)
                obtain rfl := List.mem_singleton.mp hal
                obtain ⟨rfl, htl170⟩ := hpsil170
                have hTl170 : zT u.1 a t x b cd Gl170 B ln pr167 (nl + (k1 + kr167)) (yu Cr167 (sz1 + 1) ((szr167 : Nat) : Int)) szr167 ord := zT_lp hTr167 hfrl170 htl170
                have hXl170 := hTl170
                obtain ⟨⟨-, ga0l170, ga1l170, gx5l170⟩, hTtl170, ⟨ga3l170, ga4l170, hnll170⟩, gx7l170, hszl170, hCl170⟩ := hXl170
                have hfl170 := zTt_f hTtl170
                refine zp_iinc (L' := [(2, 0, ((k : Int) + 1)), (3, 0, rna166), (0, 2, (a : Int)), (1, 0, (d : Int))]) (n := ((k : Int) + 1)) (pc := 66) hx hb hnL (zd_X5_test (66, .iinc 2 1, 3, 0, []) (List.mem_of_getElem? (i := 35) rfl)) (j := 1) rfl (by omega) (zp_r0 (by omega) (by omega)) rfl rfl ?_
                refine zp_goto (tgt := 12) (pc := 69) hx hb (zd_X5_test (69, .goto (-57), 3, 0, []) (List.mem_of_getElem? (i := 36) rfl)) rfl ?_
                refine zp_drop (L' := [(2, 0, ((k + 1 : Nat) : Int)), (0, 2, (a : Int)), (1, 0, (d : Int))]) (by simp <;> omega) ?_
                have hH9 := (yH_jn hH1 hy1 hHr167).2 rfl
                exact ih (k + 1) pr167 (k1 + kr167) (yd_or x1 yr167) _ _ _ hTl170 hH9 (by omega) (by omega) (yd_T_or (hyr167 rfl)) (by omega) (by omega) (fun s hs => hgo s (yZ_or hyes (Or.inr ⟨_, _, _, hsr167, hs⟩)))
              · exfalso
                omega
        · have zd163 : ¬ rnd163 = 1 := fun z => hkd163 (htd163.mp z)
          obtain rfl : rnd163 = 0 := by omega
          refine zp_if (pc := 28) (tgt := 72) hx hb (zd_X5_test (28, .ifCond .eq 44, 3, 0, []) (List.mem_of_getElem? (i := 15) rfl)) rfl (fun (hc171 : 0 = 0) => ?_) (fun (hc171 : ¬ (0 = 0)) => ?_)
          · refine zp_const (pc := 72) hx hb (zd_X5_test (72, .iconst 1, 1, 0, []) (List.mem_of_getElem? (i := 37) rfl)) rfl rfl ?_
            have hno : ¬ yr_w (zy_so B ln) (zy_wo B ln) 498 tk1 = true := by
              exact hkd163
            refine zp_zret (pc := 73) (n := 1) hx hb hE hQ hU5 rfl (show (1 : Nat) ≠ 2 by decide) (zd_X5_test (73, .ireturn, 1, 0, []) (List.mem_of_getElem? (i := 38) rfl)) (j := 0) rfl (zp_o0 (by omega) (by omega) (by omega) (by omega)) ?_
            rw [hps]
            exact ⟨rfl, Sum.inr (tk1, nl + k1, x1), hgo _ (yZ_or0 hno), rfl, fun _ => hy1, k1, C1, sz1, rfl, hT1, hH1, hu1, hz1⟩
          · exfalso
            omega
  refine zp_load (pc := 0) hx hb (zd_X5_test (0, .aload_n 0, 1, 0, []) (List.mem_of_getElem? (i := 0) rfl)) rfl (j := 0) rfl ?_
  refine zp_load (pc := 1) hx hb (zd_X5_test (1, .iload_n 1, 1, 0, []) (List.mem_of_getElem? (i := 1) rfl)) rfl (j := 1) rfl ?_
  refine zp_call (pc := 2) (how := 0) (idx := 129) (mi := 72) (S := []) hx hb hE hw heff hrm (hbo t x b cd B ln tk nl C sz uu ord x0) rfl (j := 20) rfl rfl (zcb_uts_ubo d hd) (zd_X5_test (2, .invokevirtual 129, 3, 0, []) (List.mem_of_getElem? (i := 2) rfl)) [(a : Int), (d : Int)] rfl ⟨zp_o2 hp, zp_o0 (by omega) (by omega) (by omega) (by omega), trivial⟩ (Nat.le_of_ble_eq_true rfl) ⟨hT0, rfl, by omega⟩ (fun al hal rnr172 Pr172 Gr172 hextr172 hfrr172 hokr172 hcsr172 hpsir172 => ?_)
  obtain rfl := List.mem_singleton.mp hal
  have hrr172 := zp_int (hokr172 _ rfl).1
  obtain ⟨rfl, sr172, hsr172, htr172⟩ := hpsir172
  rcases sr172 with qr172 | ⟨pr172, nr172, yr172⟩
  · obtain ⟨hzr172, nlr172, Cr172, szr172, hTr172⟩ : rnr172 = 0 ∧ ∃ (nl' : Nat) (C' : Nat → Int) (sz' : Nat), zT u.1 a t x b cd Gr172 B ln qr172 nl' C' sz' ord := htr172
    subst hzr172
    refine zp_if (pc := 5) (tgt := 10) hx hb (zd_X5_test (5, .ifCond .ne 5, 3, 0, []) (List.mem_of_getElem? (i := 3) rfl)) rfl (fun (hc173 : ¬ 0 = 0) => ?_) (fun (hc173 : ¬ (¬ 0 = 0)) => ?_)
    · exfalso
      omega
    · refine zp_const (pc := 8) hx hb (zd_X5_test (8, .iconst 0, 1, 0, []) (List.mem_of_getElem? (i := 4) rfl)) rfl rfl ?_
      refine zp_zret (pc := 9) (n := 0) hx hb hE hQ hU5 rfl (show (1 : Nat) ≠ 2 by decide) (zd_X5_test (9, .ireturn, 1, 0, []) (List.mem_of_getElem? (i := 5) rfl)) (j := 0) rfl (zp_o0 (by omega) (by omega) (by omega) (by omega)) ?_
      rw [hps]
      refine ⟨rfl, Sum.inl qr172, ?_, rfl, _, _, _, hTr172⟩
      exact yZ_row (k := 8) (k1 := 6) (k2 := 9) (fun f => yr_8) (Or.inl ⟨_, rfl, hsr172⟩)
  · obtain ⟨hzr172, hyr172, kr172, Cr172, szr172, hnr172, hTTr172, hHr172, hur172, hf9r172⟩ : rnr172 = 1 ∧ (_ → yd_T yr172) ∧ ∃ (k : Nat) (C' : Nat → Int) (sz' : Nat), nr172 = nl + k ∧ zT u.1 a t x b cd Gr172 B ln pr172 nr172 C' sz' ord ∧ yH ord sz C C' sz' k yr172 ∧ sz' + uu ≤ 2 * zy_fr B ln pr172 + 72 ∧ zy_fr B ln tk + 1 ≤ zy_fr B ln pr172 := htr172
    subst hzr172
    obtain rfl : nr172 = nl + kr172 := by omega
    have hTr172 : zT u.1 a t x b cd Gr172 B ln pr172 (nl + kr172) Cr172 szr172 ord := hTTr172
    have hXr172 := hTr172
    obtain ⟨⟨-, ga0r172, ga1r172, gx5r172⟩, hTtr172, ⟨ga3r172, ga4r172, hnlr172⟩, gx7r172, hszr172, hCr172⟩ := hXr172
    have hfr172 := zTt_f hTtr172
    have hgo0 : ∀ s, yZ (zy_so B ln) (zy_wo B ln) (zy_to B ln) (ylf ord B ln) 9 d (nl + kr172) pr172 yr172 s → yZ (zy_so B ln) (zy_wo B ln) (zy_to B ln) (ylf ord B ln) 8 d nl tk x0 s := fun s hs => yZ_row (k := 8) (k1 := 6) (k2 := 9) (fun f => yr_8) (Or.inr ⟨_, _, _, hsr172, hs⟩)
    refine zp_if (pc := 5) (tgt := 10) hx hb (zd_X5_test (5, .ifCond .ne 5, 3, 0, []) (List.mem_of_getElem? (i := 3) rfl)) rfl (fun (hc174 : ¬ 1 = 0) => ?_) (fun (hc174 : ¬ (¬ 1 = 0)) => ?_)
    · refine zp_const (pc := 10) hx hb (zd_X5_test (10, .iconst 0, 1, 0, []) (List.mem_of_getElem? (i := 6) rfl)) rfl rfl ?_
      refine zp_store (L' := [(2, 0, 0), (0, 2, (a : Int)), (1, 0, (d : Int))]) (pc := 11) hx hb hnL (zd_X5_test (11, .istore_n 2, 1, 0, []) (List.mem_of_getElem? (i := 7) rfl)) rfl rfl rfl ?_
      refine zp_drop (L' := [(2, 0, ((0 : Nat) : Int)), (0, 2, (a : Int)), (1, 0, (d : Int))]) (by simp) ?_
      exact loop 402 0 pr172 kr172 yr172 _ _ _ hTr172 hHr172 hur172 hf9r172 (hyr172 rfl) (by omega) (by omega) hgo0
    · exfalso
      omega
theorem zX_uall {l : Launch} {w : zk_W} (hW : zh_W w) : ∀ k d, d + k = 8 → zQ_usu l w d ∧ zQ_uts l w d
  | 0, d, h => by
    have hd : d < 9 := by omega
    have h1 := zX_usu (l := l) hW d hd (zX_ute hW d hd (zX_upa hW d hd (fun z => absurd z (by omega))))
    exact ⟨h1, zX_uts hW d hd (zX_ubo hW d hd (zX_upl hW d hd (zX_ubr hW d hd (fun z => absurd z (by omega))) h1))⟩
  | k + 1, d, h => by
    have hd : d < 9 := by omega
    obtain ⟨i1, i2⟩ := zX_uall hW k (d + 1) (by omega)
    have h1 := zX_usu (l := l) hW d hd (zX_ute hW d hd (zX_upa hW d hd (fun _ => i1)))
    exact ⟨h1, zX_uts hW d hd (zX_ubo hW d hd (zX_upl hW d hd (zX_ubr hW d hd (fun _ => i2)) h1))⟩
