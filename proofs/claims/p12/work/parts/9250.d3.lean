/-! part d3: the class's reader: sums, tests, exactly -/
def zp_lkRd : List zk_L := zt_lk_WoundTown_Reader.map (fun r => r.1) ++ [(9, 63, 209, 0, 0), (9, 86, 200, 0, 0), (9, 88, 203, 0, 0), (9, 100, 204, 0, 0), (9, 112, 205, 0, 0), (9, 132, 208, 0, 0), (9, 141, 207, 0, 0), (9, 143, 206, 0, 0), (9, 161, 201, 0, 0), (9, 163, 202, 0, 0)]
def zp_lcRd : List (Nat × Nat × Nat) := zt_lc_WoundTown_Reader.map (fun r => r.1)
theorem zp_lkallRd : (zp_lkRd.all (zt_lkin "WoundTown$Reader") && zp_lcRd.all (zt_lcin "WoundTown$Reader")) = true := by decide +kernel
def zK_upa (d : Nat) : zk_K := (zt_mn 63, prog_7_method_16_code, 6, (Option.some Jvm.ClassFile.FieldType.boolean), 1, 5, [(2, 5, 0, 0), (0, 0, 0, 8)], [(some (0, 0, 0, 1), [])], [(5, 4, 0), (7, 3, 0), (7, 5, 0), (7, 2, 0), (7, 4, 0), (35, 1001, 0), (8, 7, 0)], (10 + 3 * (8 - d), 246 + 71 * (8 - d), 0, 0))
theorem zb_upa : ∀ d, d < 9 → (zt_cokb 806 (zK_upa d) && (zk_e0b (zt_types, zp_lkRd, zt_dv, [], [], zp_lcRd, zK_upa d) && (zk_Kk (zK_upa d) != 2 && (zk_Kp (zK_upa d)).all (fun f => decide (f.1 ≤ 2))))) = true := by decide +kernel
def zφ_upa (d : Nat) (t x b cd : Nat) (B : Nat → Int) (ln tk nl : Nat) (C : Nat → Int) (sz uu : Nat) (ord : Bool) (x0 : yD) : (Nat → Option Nat) → (Nat → Nat → Int) → List Int → Prop := fun P G ps => zT P (zp_0 ps) t x b cd G B ln tk nl C sz ord ∧ ps.getD 1 0 = (d : Int) ∧ sz + uu ≤ 2 * zy_fr B ln tk + 72
def zψ_upa (d : Nat) (t x b cd : Nat) (B : Nat → Int) (ln tk nl : Nat) (C : Nat → Int) (sz uu : Nat) (ord : Bool) (x0 : yD) : (Nat → Option Nat) → (Nat → Nat → Int) → List Int → (Nat → Option Nat) → (Nat → Nat → Int) → Int → Prop := fun P G ps P' G' rn => P' = P ∧ ∃ s, yZ (zy_so B ln) (zy_wo B ln) (zy_to B ln) (ylf ord B ln) 0 d nl tk x0 s ∧ zTr P (zp_0 ps) t x b cd G' B ln ord nl sz uu tk C false rn s
def zQ_upa (l : Launch) (w : zk_W) (d : Nat) : Prop := ∀ (t x b cd : Nat) (B : Nat → Int) (ln tk nl : Nat) (C : Nat → Int) (sz uu : Nat) (ord : Bool) (x0 : yD), zk_metX l w zt_dv zt_TB (zK_upa d) (zp_A (zφ_upa d t x b cd B ln tk nl C sz uu ord x0)) (zp_B (zψ_upa d t x b cd B ln tk nl C sz uu ord x0)) ∧ zk_cok w zt_TB (zK_upa d)
def zK_ute (d : Nat) : zk_K := (zt_mn 62, prog_7_method_14_code, 4, (Option.some Jvm.ClassFile.FieldType.boolean), 1, 5, [(2, 5, 0, 0), (0, 0, 0, 8)], [(some (0, 0, 0, 1), [])], [(5, 4, 0), (7, 3, 0), (7, 5, 0), (7, 2, 0), (7, 4, 0), (35, 1001, 0), (8, 7, 0)], (11 + 3 * (8 - d), 271 + 71 * (8 - d), 0, 0))
theorem zb_ute : ∀ d, d < 9 → (zt_cokb 802 (zK_ute d) && (zk_e0b (zt_types, zp_lkRd, zt_dv, [], [], zp_lcRd, zK_ute d) && (zk_Kk (zK_ute d) != 2 && (zk_Kp (zK_ute d)).all (fun f => decide (f.1 ≤ 2))))) = true := by decide +kernel
def zφ_ute (d : Nat) (t x b cd : Nat) (B : Nat → Int) (ln tk nl : Nat) (C : Nat → Int) (sz uu : Nat) (ord : Bool) (x0 : yD) : (Nat → Option Nat) → (Nat → Nat → Int) → List Int → Prop := fun P G ps => zT P (zp_0 ps) t x b cd G B ln tk nl C sz ord ∧ ps.getD 1 0 = (d : Int) ∧ sz + uu ≤ 2 * zy_fr B ln tk + 72
def zψ_ute (d : Nat) (t x b cd : Nat) (B : Nat → Int) (ln tk nl : Nat) (C : Nat → Int) (sz uu : Nat) (ord : Bool) (x0 : yD) : (Nat → Option Nat) → (Nat → Nat → Int) → List Int → (Nat → Option Nat) → (Nat → Nat → Int) → Int → Prop := fun P G ps P' G' rn => P' = P ∧ ∃ s, yZ (zy_so B ln) (zy_wo B ln) (zy_to B ln) (ylf ord B ln) 1 d nl tk x0 s ∧ zTr P (zp_0 ps) t x b cd G' B ln ord nl sz uu tk C false rn s
def zQ_ute (l : Launch) (w : zk_W) (d : Nat) : Prop := ∀ (t x b cd : Nat) (B : Nat → Int) (ln tk nl : Nat) (C : Nat → Int) (sz uu : Nat) (ord : Bool) (x0 : yD), zk_metX l w zt_dv zt_TB (zK_ute d) (zp_A (zφ_ute d t x b cd B ln tk nl C sz uu ord x0)) (zp_B (zψ_ute d t x b cd B ln tk nl C sz uu ord x0)) ∧ zk_cok w zt_TB (zK_ute d)
def zK_usu (d : Nat) : zk_K := (zt_mn 61, prog_7_method_13_code, 4, (Option.some Jvm.ClassFile.FieldType.boolean), 1, 5, [(2, 5, 0, 0), (0, 0, 0, 8)], [(some (0, 0, 0, 1), [])], [(5, 4, 0), (7, 3, 0), (7, 5, 0), (7, 2, 0), (7, 4, 0), (35, 1001, 0), (8, 7, 0)], (12 + 3 * (8 - d), 294 + 71 * (8 - d), 0, 0))
theorem zb_usu : ∀ d, d < 9 → (zt_cokb 798 (zK_usu d) && (zk_e0b (zt_types, zp_lkRd, zt_dv, [], [], zp_lcRd, zK_usu d) && (zk_Kk (zK_usu d) != 2 && (zk_Kp (zK_usu d)).all (fun f => decide (f.1 ≤ 2))))) = true := by decide +kernel
def zφ_usu (d : Nat) (t x b cd : Nat) (B : Nat → Int) (ln tk nl : Nat) (C : Nat → Int) (sz uu : Nat) (ord : Bool) (x0 : yD) : (Nat → Option Nat) → (Nat → Nat → Int) → List Int → Prop := fun P G ps => zT P (zp_0 ps) t x b cd G B ln tk nl C sz ord ∧ ps.getD 1 0 = (d : Int) ∧ sz + uu ≤ 2 * zy_fr B ln tk + 72
def zψ_usu (d : Nat) (t x b cd : Nat) (B : Nat → Int) (ln tk nl : Nat) (C : Nat → Int) (sz uu : Nat) (ord : Bool) (x0 : yD) : (Nat → Option Nat) → (Nat → Nat → Int) → List Int → (Nat → Option Nat) → (Nat → Nat → Int) → Int → Prop := fun P G ps P' G' rn => P' = P ∧ ∃ s, yZ (zy_so B ln) (zy_wo B ln) (zy_to B ln) (ylf ord B ln) 3 d nl tk x0 s ∧ zTr P (zp_0 ps) t x b cd G' B ln ord nl sz uu tk C false rn s
def zQ_usu (l : Launch) (w : zk_W) (d : Nat) : Prop := ∀ (t x b cd : Nat) (B : Nat → Int) (ln tk nl : Nat) (C : Nat → Int) (sz uu : Nat) (ord : Bool) (x0 : yD), zk_metX l w zt_dv zt_TB (zK_usu d) (zp_A (zφ_usu d t x b cd B ln tk nl C sz uu ord x0)) (zp_B (zψ_usu d t x b cd B ln tk nl C sz uu ord x0)) ∧ zk_cok w zt_TB (zK_usu d)
def zK_ubr (d : Nat) : zk_K := (zt_mn 74, prog_7_method_12_code, 2, (Option.some Jvm.ClassFile.FieldType.boolean), 1, 5, [(2, 5, 0, 0), (0, 0, 0, 8)], [(some (0, 0, 0, 1), [])], [(5, 4, 0), (7, 3, 0), (7, 5, 0), (7, 2, 0), (7, 4, 0), (35, 1001, 0), (8, 7, 0)], (12 + 4 * (8 - d), 296 + 90 * (8 - d), 0, 0))
theorem zb_ubr : ∀ d, d < 9 → (zt_cokb 859 (zK_ubr d) && (zk_e0b (zt_types, zp_lkRd, zt_dv, [], [], zp_lcRd, zK_ubr d) && (zk_Kk (zK_ubr d) != 2 && (zk_Kp (zK_ubr d)).all (fun f => decide (f.1 ≤ 2))))) = true := by decide +kernel
def zφ_ubr (d : Nat) (t x b cd : Nat) (B : Nat → Int) (ln tk nl : Nat) (C : Nat → Int) (sz uu : Nat) (ord : Bool) (x0 : yD) : (Nat → Option Nat) → (Nat → Nat → Int) → List Int → Prop := fun P G ps => zT P (zp_0 ps) t x b cd G B ln tk nl C sz ord ∧ ps.getD 1 0 = (d : Int) ∧ sz + uu ≤ 2 * zy_fr B ln tk + 72 ∧ yr_s (zy_so B ln) (zy_wo B ln) 40 tk = true
def zψ_ubr (d : Nat) (t x b cd : Nat) (B : Nat → Int) (ln tk nl : Nat) (C : Nat → Int) (sz uu : Nat) (ord : Bool) (x0 : yD) : (Nat → Option Nat) → (Nat → Nat → Int) → List Int → (Nat → Option Nat) → (Nat → Nat → Int) → Int → Prop := fun P G ps P' G' rn => P' = P ∧ ∃ s, yZ (zy_so B ln) (zy_wo B ln) (zy_to B ln) (ylf ord B ln) 5 d nl tk x0 s ∧ zTr P (zp_0 ps) t x b cd G' B ln ord nl sz uu tk C true rn s
def zQ_ubr (l : Launch) (w : zk_W) (d : Nat) : Prop := ∀ (t x b cd : Nat) (B : Nat → Int) (ln tk nl : Nat) (C : Nat → Int) (sz uu : Nat) (ord : Bool) (x0 : yD), zk_metX l w zt_dv zt_TB (zK_ubr d) (zp_A (zφ_ubr d t x b cd B ln tk nl C sz uu ord x0)) (zp_B (zψ_ubr d t x b cd B ln tk nl C sz uu ord x0)) ∧ zk_cok w zt_TB (zK_ubr d)
def zK_upl (d : Nat) : zk_K := (zt_mn 73, prog_7_method_10_code, 4, (Option.some Jvm.ClassFile.FieldType.boolean), 1, 5, [(2, 5, 0, 0), (0, 0, 0, 8)], [(some (0, 0, 0, 1), [])], [(5, 4, 0), (7, 3, 0), (7, 5, 0), (7, 2, 0), (7, 4, 0), (35, 1001, 0), (8, 7, 0)], (13 + 4 * (8 - d), 317 + 90 * (8 - d), 0, 0))
theorem zb_upl : ∀ d, d < 9 → (zt_cokb 854 (zK_upl d) && (zk_e0b (zt_types, zp_lkRd, zt_dv, [], [], zp_lcRd, zK_upl d) && (zk_Kk (zK_upl d) != 2 && (zk_Kp (zK_upl d)).all (fun f => decide (f.1 ≤ 2))))) = true := by decide +kernel
def zφ_upl (d : Nat) (t x b cd : Nat) (B : Nat → Int) (ln tk nl : Nat) (C : Nat → Int) (sz uu : Nat) (ord : Bool) (x0 : yD) : (Nat → Option Nat) → (Nat → Nat → Int) → List Int → Prop := fun P G ps => zT P (zp_0 ps) t x b cd G B ln tk nl C sz ord ∧ ps.getD 1 0 = (d : Int) ∧ sz + uu ≤ 2 * zy_fr B ln tk + 72
def zψ_upl (d : Nat) (t x b cd : Nat) (B : Nat → Int) (ln tk nl : Nat) (C : Nat → Int) (sz uu : Nat) (ord : Bool) (x0 : yD) : (Nat → Option Nat) → (Nat → Nat → Int) → List Int → (Nat → Option Nat) → (Nat → Nat → Int) → Int → Prop := fun P G ps P' G' rn => P' = P ∧ ∃ s, yZ (zy_so B ln) (zy_wo B ln) (zy_to B ln) (ylf ord B ln) 5 d nl tk x0 s ∧ zTr P (zp_0 ps) t x b cd G' B ln ord nl sz uu tk C true rn s
def zQ_upl (l : Launch) (w : zk_W) (d : Nat) : Prop := ∀ (t x b cd : Nat) (B : Nat → Int) (ln tk nl : Nat) (C : Nat → Int) (sz uu : Nat) (ord : Bool) (x0 : yD), zk_metX l w zt_dv zt_TB (zK_upl d) (zp_A (zφ_upl d t x b cd B ln tk nl C sz uu ord x0)) (zp_B (zψ_upl d t x b cd B ln tk nl C sz uu ord x0)) ∧ zk_cok w zt_TB (zK_upl d)
def zK_ubo (d : Nat) : zk_K := (zt_mn 72, prog_7_method_9_code, 4, (Option.some Jvm.ClassFile.FieldType.boolean), 1, 5, [(2, 5, 0, 0), (0, 0, 0, 8)], [(some (0, 0, 0, 1), [])], [(5, 4, 0), (7, 3, 0), (7, 5, 0), (7, 2, 0), (7, 4, 0), (35, 1001, 0), (8, 7, 0)], (14 + 4 * (8 - d), 340 + 90 * (8 - d), 0, 0))
theorem zb_ubo : ∀ d, d < 9 → (zt_cokb 850 (zK_ubo d) && (zk_e0b (zt_types, zp_lkRd, zt_dv, [], [], zp_lcRd, zK_ubo d) && (zk_Kk (zK_ubo d) != 2 && (zk_Kp (zK_ubo d)).all (fun f => decide (f.1 ≤ 2))))) = true := by decide +kernel
def zφ_ubo (d : Nat) (t x b cd : Nat) (B : Nat → Int) (ln tk nl : Nat) (C : Nat → Int) (sz uu : Nat) (ord : Bool) (x0 : yD) : (Nat → Option Nat) → (Nat → Nat → Int) → List Int → Prop := fun P G ps => zT P (zp_0 ps) t x b cd G B ln tk nl C sz ord ∧ ps.getD 1 0 = (d : Int) ∧ sz + uu ≤ 2 * zy_fr B ln tk + 72
def zψ_ubo (d : Nat) (t x b cd : Nat) (B : Nat → Int) (ln tk nl : Nat) (C : Nat → Int) (sz uu : Nat) (ord : Bool) (x0 : yD) : (Nat → Option Nat) → (Nat → Nat → Int) → List Int → (Nat → Option Nat) → (Nat → Nat → Int) → Int → Prop := fun P G ps P' G' rn => P' = P ∧ ∃ s, yZ (zy_so B ln) (zy_wo B ln) (zy_to B ln) (ylf ord B ln) 6 d nl tk x0 s ∧ zTr P (zp_0 ps) t x b cd G' B ln ord nl sz uu tk C true rn s
def zQ_ubo (l : Launch) (w : zk_W) (d : Nat) : Prop := ∀ (t x b cd : Nat) (B : Nat → Int) (ln tk nl : Nat) (C : Nat → Int) (sz uu : Nat) (ord : Bool) (x0 : yD), zk_metX l w zt_dv zt_TB (zK_ubo d) (zp_A (zφ_ubo d t x b cd B ln tk nl C sz uu ord x0)) (zp_B (zψ_ubo d t x b cd B ln tk nl C sz uu ord x0)) ∧ zk_cok w zt_TB (zK_ubo d)
def zK_uts (d : Nat) : zk_K := (zt_mn 71, prog_7_method_8_code, 4, (Option.some Jvm.ClassFile.FieldType.boolean), 1, 5, [(2, 5, 0, 0), (0, 0, 0, 8)], [(some (0, 0, 0, 1), [])], [(5, 4, 0), (7, 3, 0), (7, 5, 0), (7, 2, 0), (7, 4, 0), (35, 1001, 0), (8, 7, 0)], (15 + 4 * (8 - d), 363 + 90 * (8 - d), 0, 0))
theorem zb_uts : ∀ d, d < 9 → (zt_cokb 846 (zK_uts d) && (zk_e0b (zt_types, zp_lkRd, zt_dv, [], [], zp_lcRd, zK_uts d) && (zk_Kk (zK_uts d) != 2 && (zk_Kp (zK_uts d)).all (fun f => decide (f.1 ≤ 2))))) = true := by decide +kernel
def zφ_uts (d : Nat) (t x b cd : Nat) (B : Nat → Int) (ln tk nl : Nat) (C : Nat → Int) (sz uu : Nat) (ord : Bool) (x0 : yD) : (Nat → Option Nat) → (Nat → Nat → Int) → List Int → Prop := fun P G ps => zT P (zp_0 ps) t x b cd G B ln tk nl C sz ord ∧ ps.getD 1 0 = (d : Int) ∧ sz + uu ≤ 2 * zy_fr B ln tk + 72
def zψ_uts (d : Nat) (t x b cd : Nat) (B : Nat → Int) (ln tk nl : Nat) (C : Nat → Int) (sz uu : Nat) (ord : Bool) (x0 : yD) : (Nat → Option Nat) → (Nat → Nat → Int) → List Int → (Nat → Option Nat) → (Nat → Nat → Int) → Int → Prop := fun P G ps P' G' rn => P' = P ∧ ∃ s, yZ (zy_so B ln) (zy_wo B ln) (zy_to B ln) (ylf ord B ln) 8 d nl tk x0 s ∧ zTr P (zp_0 ps) t x b cd G' B ln ord nl sz uu tk C true rn s
def zQ_uts (l : Launch) (w : zk_W) (d : Nat) : Prop := ∀ (t x b cd : Nat) (B : Nat → Int) (ln tk nl : Nat) (C : Nat → Int) (sz uu : Nat) (ord : Bool) (x0 : yD), zk_metX l w zt_dv zt_TB (zK_uts d) (zp_A (zφ_uts d t x b cd B ln tk nl C sz uu ord x0)) (zp_B (zψ_uts d t x b cd B ln tk nl C sz uu ord x0)) ∧ zk_cok w zt_TB (zK_uts d)
def zK_um : zk_K := (zt_mn 67, prog_7_method_15_code, 1, (Option.some Jvm.ClassFile.FieldType.int), 1, 5, [(2, 5, 0, 0)], [(some (0, 0, (-1), 13), [])], [], (1, 21, 0, 0))
def zφ_um (t x b cd : Nat) (B : Nat → Int) (ln tk nl : Nat) (C : Nat → Int) (sz : Nat) (ord : Bool) : (Nat → Option Nat) → (Nat → Nat → Int) → List Int → Prop := fun P G ps => zT P (zp_0 ps) t x b cd G B ln tk nl C sz ord
def zψ_um (t x b cd : Nat) (B : Nat → Int) (ln tk nl : Nat) (C : Nat → Int) (sz : Nat) (ord : Bool) : (Nat → Option Nat) → (Nat → Nat → Int) → List Int → (Nat → Option Nat) → (Nat → Nat → Int) → Int → Prop := fun P G ps P' G' rn => P' = P ∧ G' = G ∧ rn = if yr_mu (zy_so B ln) (zy_wo B ln) tk = -1 then -1 else yr_mu (zy_so B ln) (zy_wo B ln) tk - 14
theorem zX_um {l : Launch} {w : zk_W} (hW : zh_W w) (t x b cd : Nat) (B : Nat → Int) (ln tk nl : Nat) (C : Nat → Int) (sz : Nat) (ord : Bool) : zk_metX l w zt_dv zt_TB zK_um (zp_A (zφ_um t x b cd B ln tk nl C sz ord)) (zp_B (zψ_um t x b cd B ln tk nl C sz ord)) ∧ zk_cok w zt_TB zK_um := by
  sorry
def zK_uc : zk_K := (zt_mn 75, prog_7_method_11_code, 1, (Option.some Jvm.ClassFile.FieldType.int), 1, 5, [(2, 5, 0, 0)], [(some (0, 0, (-1), 13), [])], [], (1, 21, 0, 0))
def zφ_uc (t x b cd : Nat) (B : Nat → Int) (ln tk nl : Nat) (C : Nat → Int) (sz : Nat) (ord : Bool) : (Nat → Option Nat) → (Nat → Nat → Int) → List Int → Prop := fun P G ps => zT P (zp_0 ps) t x b cd G B ln tk nl C sz ord
def zψ_uc (t x b cd : Nat) (B : Nat → Int) (ln tk nl : Nat) (C : Nat → Int) (sz : Nat) (ord : Bool) : (Nat → Option Nat) → (Nat → Nat → Int) → List Int → (Nat → Option Nat) → (Nat → Nat → Int) → Int → Prop := fun P G ps P' G' rn => P' = P ∧ G' = G ∧ rn = if yr_cm (zy_so B ln) (zy_wo B ln) tk = -1 then -1 else yr_cm (zy_so B ln) (zy_wo B ln) tk - 14
theorem zX_uc {l : Launch} {w : zk_W} (hW : zh_W w) (t x b cd : Nat) (B : Nat → Int) (ln tk nl : Nat) (C : Nat → Int) (sz : Nat) (ord : Bool) : zk_metX l w zt_dv zt_TB zK_uc (zp_A (zφ_uc t x b cd B ln tk nl C sz ord)) (zp_B (zψ_uc t x b cd B ln tk nl C sz ord)) ∧ zk_cok w zt_TB zK_uc := by
  sorry
theorem ych_sh {v : Int} : ∀ (L : List Int) (d : Int), 0 ≤ d → ych L (d + 1) v = if ych L d v = -1 then -1 else ych L d v + 1
  | [], d, _ => rfl
  | x :: r, d, hd => by
    have ih := ych_sh (v := v) r (d + 1) (by omega)
    show (if v = x then d + 1 else ych r (d + 1 + 1) v) = if (if v = x then d else ych r (d + 1) v) = -1 then -1 else (if v = x then d else ych r (d + 1) v) + 1
    by_cases hx : v = x
    · rw [if_pos hx, if_pos hx, if_neg (by omega)]
    · rw [if_neg hx, if_neg hx, ih]
theorem ych_s {v : Int} {L : List Int} : ych L 1 v = if ych L 0 v = -1 then -1 else ych L 0 v + 1 := ych_sh L 0 (Int.le_refl 0)
theorem zy_wo_nn {t b : Nat} {G : Nat → Nat → Int} {B : Nat → Int} {ln tk : Nat} (h : zTt t b G B ln tk) (hs : zy_so B ln tk = 2) : 0 ≤ zy_wo B ln tk := by
  obtain ⟨h1, h2⟩ := zBc_dig h hs
  obtain ⟨g1, g2, g3, g4⟩ := zv_nf_d _ h1
  rw [← h2]
  by_cases z : zv_nf B (zy_fr B ln tk) (zy_to B ln tk - zy_fr B ln tk) < 10000
  · rw [g3 z]
    exact g1
  · have := g4 (by omega)
    omega
theorem yr_mu_q (so : Nat → Nat) (wo : Nat → Int) (p : Nat) : yr_mu so wo p = -1 ∨ (22 ≤ yr_mu so wo p ∧ yr_mu so wo p ≤ 24) := by
  unfold yr_mu
  repeat' split
  all_goals omega
theorem yr_cm_q (so : Nat → Nat) (wo : Nat → Int) (p : Nat) : yr_cm so wo p = -1 ∨ (25 ≤ yr_cm so wo p ∧ yr_cm so wo p ≤ 27) := by
  unfold yr_cm
  repeat' split
  all_goals omega
/-- turned, or not -/
def ytw (it : Nat) (s : yR) : yR := match s with
  | Sum.inl q => Sum.inl q
  | Sum.inr (p, n, y) => Sum.inr (p, n, if it = 0 then y else yd_nt y)
theorem ytw_id {s : yR} : ytw 0 s = s := by
  cases s with
  | inl q => rfl
  | inr y => rfl
def ytn (s : yR) : yR := match s with
  | Sum.inl q => Sum.inl q
  | Sum.inr (p, n, y) => Sum.inr (p, n, yd_nt y)
theorem ytw_nt {so : Nat → Nat} {wo : Nat → Int} {nx : Nat → Nat} {lf : Nat → Nat ⊕ (Nat × Int × Int)} {d n p : Nat} {x : yD} {s : yR} (h : yZ so wo nx lf 5 d n p x s) : (∃ q, ytn s = Sum.inl q ∧ yZ so wo nx lf 5 d n p x (Sum.inl q)) ∨ ∃ p1 n1 y, yZ so wo nx lf 5 d n p x (Sum.inr (p1, n1, y)) ∧ ytn s = Sum.inr (p1, n1, yd_nt y) := by
  cases s with
  | inl q => exact Or.inl ⟨q, rfl, h⟩
  | inr y => exact Or.inr ⟨y.1, y.2.1, y.2.2, h, rfl⟩
theorem ytw_1 {s : yR} : ytw 0 (ytn s) = ytw 1 s := by
  cases s with
  | inl q => rfl
  | inr y => rfl
theorem ytw_0 {s : yR} : ytw 1 (ytn s) = ytw 0 s := by
  cases s with
  | inl q => rfl
  | inr y =>
    show (Sum.inr (y.1, y.2.1, yd_nt (yd_nt y.2.2)) : yR) = Sum.inr (y.1, y.2.1, y.2.2)
    rw [yd_nn]
theorem zcb_upa_csi : ∀ d, d < 9 → zp_cb (zk_Ke (zK_upa d)) (zk_Kr (zK_upa d)) (zK_csi) 0 = true := by decide +kernel
theorem zcb_upa_cnx : ∀ d, d < 9 → zp_cb (zk_Ke (zK_upa d)) (zk_Kr (zK_upa d)) (zK_cnx) 0 = true := by decide +kernel
theorem zcb_upa_usuu : ∀ d, d < 8 → zp_cb (zk_Ke (zK_upa d)) (zk_Kr (zK_upa d)) (zK_usu (d + 1)) 0 = true := by decide +kernel
theorem zcb_upa_vwlw : ∀ d, d < 9 → zp_cb (zk_Ke (zK_upa d)) (zk_Kr (zK_upa d)) (zK_vwlw) 0 = true := by decide +kernel
theorem zcb_upa_vad : ∀ d, d < 9 → zp_cb (zk_Ke (zK_upa d)) (zk_Kr (zK_upa d)) (zK_vad) 0 = true := by decide +kernel
theorem zcb_upa_vwow : ∀ d, d < 9 → zp_cb (zk_Ke (zK_upa d)) (zk_Kr (zK_upa d)) (zK_vwow) 0 = true := by decide +kernel
theorem zcb_upa_vnw : ∀ d, d < 9 → zp_cb (zk_Ke (zK_upa d)) (zk_Kr (zK_upa d)) (zK_vnw) 0 = true := by decide +kernel
theorem zX_upa {l : Launch} {w : zk_W} (hW : zh_W w) (d : Nat) (hd : d < 9) (ih : d < 8 → zQ_usu l w (d + 1)) : zQ_upa l w d := by
  sorry
theorem zcb_ute_cnx : ∀ d, d < 9 → zp_cb (zk_Ke (zK_ute d)) (zk_Kr (zK_ute d)) (zK_cnx) 0 = true := by decide +kernel
theorem zcb_ute_upa : ∀ d, d < 9 → zp_cb (zk_Ke (zK_ute d)) (zk_Kr (zK_ute d)) (zK_upa d) 0 = true := by decide +kernel
theorem zcb_ute_vad : ∀ d, d < 9 → zp_cb (zk_Ke (zK_ute d)) (zk_Kr (zK_ute d)) (zK_vad) 0 = true := by decide +kernel
theorem zcb_ute_um : ∀ d, d < 9 → zp_cb (zk_Ke (zK_ute d)) (zk_Kr (zK_ute d)) (zK_um) 0 = true := by decide +kernel
theorem zX_ute {l : Launch} {w : zk_W} (hW : zh_W w) (d : Nat) (hd : d < 9) (hpa : zQ_upa l w d) : zQ_ute l w d := by
  sorry
theorem zcb_usu_csi : ∀ d, d < 9 → zp_cb (zk_Ke (zK_usu d)) (zk_Kr (zK_usu d)) (zK_csi) 0 = true := by decide +kernel
theorem zcb_usu_cnx : ∀ d, d < 9 → zp_cb (zk_Ke (zK_usu d)) (zk_Kr (zK_usu d)) (zK_cnx) 0 = true := by decide +kernel
theorem zcb_usu_ute : ∀ d, d < 9 → zp_cb (zk_Ke (zK_usu d)) (zk_Kr (zK_usu d)) (zK_ute d) 0 = true := by decide +kernel
theorem zcb_usu_vad : ∀ d, d < 9 → zp_cb (zk_Ke (zK_usu d)) (zk_Kr (zK_usu d)) (zK_vad) 0 = true := by decide +kernel
theorem zX_usu {l : Launch} {w : zk_W} (hW : zh_W w) (d : Nat) (hd : d < 9) (hte : zQ_ute l w d) : zQ_usu l w d := by
  sorry
theorem zcb_ubr_cnx : ∀ d, d < 9 → zp_cb (zk_Ke (zK_ubr d)) (zk_Kr (zK_ubr d)) (zK_cnx) 0 = true := by decide +kernel
theorem zcb_ubr_utsu : ∀ d, d < 8 → zp_cb (zk_Ke (zK_ubr d)) (zk_Kr (zK_ubr d)) (zK_uts (d + 1)) 0 = true := by decide +kernel
theorem zcb_ubr_csi : ∀ d, d < 9 → zp_cb (zk_Ke (zK_ubr d)) (zk_Kr (zK_ubr d)) (zK_csi) 0 = true := by decide +kernel
theorem zX_ubr {l : Launch} {w : zk_W} (hW : zh_W w) (d : Nat) (hd : d < 9) (ih : d < 8 → zQ_uts l w (d + 1)) : zQ_ubr l w d := by
  sorry
theorem zcb_upl_csi : ∀ d, d < 9 → zp_cb (zk_Ke (zK_upl d)) (zk_Kr (zK_upl d)) (zK_csi) 0 = true := by decide +kernel
theorem zcb_upl_ubr : ∀ d, d < 9 → zp_cb (zk_Ke (zK_upl d)) (zk_Kr (zK_upl d)) (zK_ubr d) 0 = true := by decide +kernel
theorem zcb_upl_vad : ∀ d, d < 9 → zp_cb (zk_Ke (zK_upl d)) (zk_Kr (zK_upl d)) (zK_vad) 0 = true := by decide +kernel
theorem zcb_upl_usu : ∀ d, d < 9 → zp_cb (zk_Ke (zK_upl d)) (zk_Kr (zK_upl d)) (zK_usu d) 0 = true := by decide +kernel
theorem zcb_upl_uc : ∀ d, d < 9 → zp_cb (zk_Ke (zK_upl d)) (zk_Kr (zK_upl d)) (zK_uc) 0 = true := by decide +kernel
theorem zcb_upl_cnx : ∀ d, d < 9 → zp_cb (zk_Ke (zK_upl d)) (zk_Kr (zK_upl d)) (zK_cnx) 0 = true := by decide +kernel
theorem zcb_upl_vino : ∀ d, d < 9 → zp_cb (zk_Ke (zK_upl d)) (zk_Kr (zK_upl d)) (zK_vino) 0 = true := by decide +kernel
theorem zX_upl {l : Launch} {w : zk_W} (hW : zh_W w) (d : Nat) (hd : d < 9) (hbr : zQ_ubr l w d) (hsu : zQ_usu l w d) : zQ_upl l w d := by
  sorry
theorem zcb_ubo_vian : ∀ d, d < 9 → zp_cb (zk_Ke (zK_ubo d)) (zk_Kr (zK_ubo d)) (zK_vian) 0 = true := by decide +kernel
theorem zcb_ubo_cnx : ∀ d, d < 9 → zp_cb (zk_Ke (zK_ubo d)) (zk_Kr (zK_ubo d)) (zK_cnx) 0 = true := by decide +kernel
theorem zcb_ubo_vad : ∀ d, d < 9 → zp_cb (zk_Ke (zK_ubo d)) (zk_Kr (zK_ubo d)) (zK_vad) 0 = true := by decide +kernel
theorem zcb_ubo_upl : ∀ d, d < 9 → zp_cb (zk_Ke (zK_ubo d)) (zk_Kr (zK_ubo d)) (zK_upl d) 0 = true := by decide +kernel
theorem zcb_ubo_vlp : ∀ d, d < 9 → zp_cb (zk_Ke (zK_ubo d)) (zk_Kr (zK_ubo d)) (zK_vlp) 0 = true := by decide +kernel
theorem zX_ubo {l : Launch} {w : zk_W} (hW : zh_W w) (d : Nat) (hd : d < 9) (hpl : zQ_upl l w d) : zQ_ubo l w d := by
  sorry
theorem zcb_uts_vior : ∀ d, d < 9 → zp_cb (zk_Ke (zK_uts d)) (zk_Kr (zK_uts d)) (zK_vior) 0 = true := by decide +kernel
theorem zcb_uts_cnx : ∀ d, d < 9 → zp_cb (zk_Ke (zK_uts d)) (zk_Kr (zK_uts d)) (zK_cnx) 0 = true := by decide +kernel
theorem zcb_uts_vad : ∀ d, d < 9 → zp_cb (zk_Ke (zK_uts d)) (zk_Kr (zK_uts d)) (zK_vad) 0 = true := by decide +kernel
theorem zcb_uts_ubo : ∀ d, d < 9 → zp_cb (zk_Ke (zK_uts d)) (zk_Kr (zK_uts d)) (zK_ubo d) 0 = true := by decide +kernel
theorem zcb_uts_vlp : ∀ d, d < 9 → zp_cb (zk_Ke (zK_uts d)) (zk_Kr (zK_uts d)) (zK_vlp) 0 = true := by decide +kernel
theorem zX_uts {l : Launch} {w : zk_W} (hW : zh_W w) (d : Nat) (hd : d < 9) (hbo : zQ_ubo l w d) : zQ_uts l w d := by
  sorry
theorem zX_uall {l : Launch} {w : zk_W} (hW : zh_W w) : ∀ k d, d + k = 8 → zQ_usu l w d ∧ zQ_uts l w d
  | 0, d, h => by
    have hd : d < 9 := by omega
    have h1 := zX_usu (l := l) hW d hd (zX_ute hW d hd (zX_upa hW d hd (fun z => absurd z (by omega))))
    exact ⟨h1, zX_uts hW d hd (zX_ubo hW d hd (zX_upl hW d hd (zX_ubr hW d hd (fun z => absurd z (by omega))) h1))⟩
  | k + 1, d, h => by
    have hd : d < 9 := by omega
    obtain ⟨i1, i2⟩ := zX_uall hW k (d + 1) (by omega)
    have h1 := zX_usu (l := l) hW d hd (zX_ute hW d hd (zX_upa hW d hd (fun _ => i1)))
    exact ⟨h1, zX_uts hW d hd (zX_ubo hW d hd (zX_upl hW d hd (zX_ubr hW d hd (fun _ => i2)) h1))⟩
