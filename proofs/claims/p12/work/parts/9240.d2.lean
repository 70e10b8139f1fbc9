/-! part d2: the class's text -/
def zp_lkTx : List zk_L := zt_lk_WoundTown_Text.map (fun r => r.1)
def zp_lcTx : List (Nat × Nat × Nat) := zt_lc_WoundTown_Text.map (fun r => r.1)
theorem zp_lkallTx : (zp_lkTx.all (zt_lkin "WoundTown$Text") && zp_lcTx.all (zt_lcin "WoundTown$Text")) = true := by decide +kernel
def zK_vad : zk_K := (zt_mn 66, prog_10_method_6_code, 4, (Option.some Jvm.ClassFile.FieldType.int), 1, 8, [(2, 8, 0, 0), (0, 0, 0, 13), (0, 0, 0, 1000)], [(some (0, 0, 0, 872), [])], [(8, 7, 0), (35, 1001, 0)], (0, 0, 0, 0))
def zφ_vad (cd sz : Nat) (C : Nat → Int) : (Nat → Option Nat) → (Nat → Nat → Int) → List Int → Prop := fun P G ps => (G (zp_0 ps) 7 = (sz : Int) ∧ sz + 2 ≤ 872) ∧ G (zp_0 ps) 5 = (cd : Int) ∧ P cd = some 35 ∧ ∀ j, G cd (2000 + j) = C j
def zψ_vad (cd sz : Nat) (C : Nat → Int) : (Nat → Option Nat) → (Nat → Nat → Int) → List Int → (Nat → Option Nat) → (Nat → Nat → Int) → Int → Prop := fun P G ps P' G' rn => P' = P ∧ rn = (sz : Int) ∧ G' (zp_0 ps) 7 = ((sz + 2 : Nat) : Int) ∧ ∀ j, G' cd (2000 + j) = yh C sz (ps.getD 1 0) (ps.getD 2 0) j
theorem zX_vad {l : Launch} {w : zk_W} (hW : zh_W w) (cd sz : Nat) (C : Nat → Int) : zk_metX l w zt_dv zt_TB zK_vad (zp_A (zφ_vad cd sz C)) (zp_B (zψ_vad cd sz C)) ∧ zk_cok w zt_TB zK_vad := by
  sorry
def zK_vlp : zk_K := (zt_mn 76, prog_10_method_7_code, 2, (Option.none : Option Jvm.ClassFile.FieldType), 1, 8, [(2, 8, 0, 0), (0, 0, 0, 872)], [(none, [])], [(35, 1001, 0)], (0, 0, 0, 0))
def zφ_vlp (cd sz n : Nat) (C : Nat → Int) : (Nat → Option Nat) → (Nat → Nat → Int) → List Int → Prop := fun P G ps => (G (zp_0 ps) 7 = (sz : Int) ∧ sz ≤ 872 ∧ ps.getD 1 0 = (n : Int) ∧ n + 2 ≤ 872) ∧ G (zp_0 ps) 5 = (cd : Int) ∧ P cd = some 35 ∧ ∀ j, G cd (2000 + j) = C j
def zψ_vlp (cd sz n : Nat) (C : Nat → Int) : (Nat → Option Nat) → (Nat → Nat → Int) → List Int → (Nat → Option Nat) → (Nat → Nat → Int) → Int → Prop := fun P G ps P' G' rn => P' = P ∧ ∀ j, G' cd (2000 + j) = yu C (n + 1) (sz : Int) j
theorem zX_vlp {l : Launch} {w : zk_W} (hW : zh_W w) (cd sz n : Nat) (C : Nat → Int) : zk_metX l w zt_dv zt_TB zK_vlp (zp_A (zφ_vlp cd sz n C)) (zp_B (zψ_vlp cd sz n C)) ∧ zk_cok w zt_TB zK_vlp := by
  sorry
def zK_vcl : zk_K := (zt_mn 41, prog_10_method_3_code, 1, (Option.none : Option Jvm.ClassFile.FieldType), 1, 8, [(2, 8, 0, 0)], [(none, [])], [(8, 6, 0), (8, 7, 0)], (0, 0, 0, 0))
def zψ_vcl : (Nat → Option Nat) → (Nat → Nat → Int) → List Int → (Nat → Option Nat) → (Nat → Nat → Int) → Int → Prop := fun P G ps P' G' rn => P' = P ∧ G' (zp_0 ps) 6 = 0 ∧ G' (zp_0 ps) 7 = 0
theorem zX_vcl {l : Launch} {w : zk_W} (hW : zh_W w) : zk_metX l w zt_dv zt_TB zK_vcl (zp_A zp_tA) (zp_B zψ_vcl) ∧ zk_cok w zt_TB zK_vcl := by
  sorry
def zK_vop : zk_K := (zt_mn 58, prog_10_method_4_code, 2, (Option.some Jvm.ClassFile.FieldType.boolean), 1, 8, [(2, 8, 0, 0), (0, 0, 0, 4)], [(some (0, 0, 0, 1), [])], [(30, 1001, 0), (31, 1001, 0), (32, 1001, 0), (33, 1001, 0), (34, 1001, 0), (8, 6, 0)], (0, 0, 0, 0))
def zφ_vop (bb : Nat → Nat) (cl : Nat) : (Nat → Option Nat) → (Nat → Nat → Int) → List Int → Prop := fun P G ps => G (zp_0 ps) 6 = (cl : Int) ∧ cl < 12 ∧ (∀ i : Nat, i < 5 → G (zp_0 ps) i = (bb i : Int) ∧ P (bb i) = some (30 + i))
def zψ_vop (bb : Nat → Nat) (cl : Nat) : (Nat → Option Nat) → (Nat → Nat → Int) → List Int → (Nat → Option Nat) → (Nat → Nat → Int) → Int → Prop := fun P G ps P' G' rn => P' = P ∧ rn = 1 ∧ G' (zp_0 ps) 6 = ((cl + 1 : Nat) : Int) ∧ (∀ i j : Nat, i < 5 → j ≠ cl → G' (bb i) (2000 + j) = G (bb i) (2000 + j)) ∧ G' (bb 0) (2000 + cl) = ps.getD 1 0 ∧ G' (bb 1) (2000 + cl) = -1 ∧ G' (bb 2) (2000 + cl) = -1 ∧ G' (bb 3) (2000 + cl) = 1 ∧ G' (bb 4) (2000 + cl) = -1
theorem zX_vop {l : Launch} {w : zk_W} (hW : zh_W w) (bb : Nat → Nat) (cl : Nat) : zk_metX l w zt_dv zt_TB zK_vop (zp_A (zφ_vop bb cl)) (zp_B (zψ_vop bb cl)) ∧ zk_cok w zt_TB zK_vop := by
  sorry
def zK_vt31 : zk_K := (zt_mn 60, prog_10_method_5_code, 3, (Option.none : Option Jvm.ClassFile.FieldType), 1, 8, [(2, 8, 0, 0), (2, 31, 0, 0), (0, 0, 0, 872)], [(none, [])], [(31, 1001, 0)], (0, 0, 0, 0))
def zφ_vt31 (r cl : Nat) : (Nat → Option Nat) → (Nat → Nat → Int) → List Int → Prop := fun P G ps => ps.getD 1 0 = (r : Int) ∧ G (zp_0 ps) 6 = ((cl + 1 : Nat) : Int) ∧ cl < 12
def zψ_vt31 (r cl : Nat) : (Nat → Option Nat) → (Nat → Nat → Int) → List Int → (Nat → Option Nat) → (Nat → Nat → Int) → Int → Prop := fun P G ps P' G' rn => P' = P ∧ G' r (2000 + cl) = ps.getD 2 0 ∧ ∀ j, j ≠ cl → G' r (2000 + j) = G r (2000 + j)
theorem zX_vt31 {l : Launch} {w : zk_W} (hW : zh_W w) (r cl : Nat) : zk_metX l w zt_dv zt_TB zK_vt31 (zp_A (zφ_vt31 r cl)) (zp_B (zψ_vt31 r cl)) ∧ zk_cok w zt_TB zK_vt31 := by
  sorry
def zK_vt32 : zk_K := (zt_mn 60, prog_10_method_5_code, 3, (Option.none : Option Jvm.ClassFile.FieldType), 1, 8, [(2, 8, 0, 0), (2, 32, 0, 0), (0, 0, 0, 872)], [(none, [])], [(32, 1001, 0)], (0, 0, 0, 0))
def zφ_vt32 (r cl : Nat) : (Nat → Option Nat) → (Nat → Nat → Int) → List Int → Prop := fun P G ps => ps.getD 1 0 = (r : Int) ∧ G (zp_0 ps) 6 = ((cl + 1 : Nat) : Int) ∧ cl < 12
def zψ_vt32 (r cl : Nat) : (Nat → Option Nat) → (Nat → Nat → Int) → List Int → (Nat → Option Nat) → (Nat → Nat → Int) → Int → Prop := fun P G ps P' G' rn => P' = P ∧ G' r (2000 + cl) = ps.getD 2 0 ∧ ∀ j, j ≠ cl → G' r (2000 + j) = G r (2000 + j)
theorem zX_vt32 {l : Launch} {w : zk_W} (hW : zh_W w) (r cl : Nat) : zk_metX l w zt_dv zt_TB zK_vt32 (zp_A (zφ_vt32 r cl)) (zp_B (zψ_vt32 r cl)) ∧ zk_cok w zt_TB zK_vt32 := by
  sorry
def zK_vt33 : zk_K := (zt_mn 60, prog_10_method_5_code, 3, (Option.none : Option Jvm.ClassFile.FieldType), 1, 8, [(2, 8, 0, 0), (2, 33, 0, 0), (0, 0, 1, 20)], [(none, [])], [(33, 1001, 0)], (0, 0, 0, 0))
def zφ_vt33 (r cl : Nat) : (Nat → Option Nat) → (Nat → Nat → Int) → List Int → Prop := fun P G ps => ps.getD 1 0 = (r : Int) ∧ G (zp_0 ps) 6 = ((cl + 1 : Nat) : Int) ∧ cl < 12
def zψ_vt33 (r cl : Nat) : (Nat → Option Nat) → (Nat → Nat → Int) → List Int → (Nat → Option Nat) → (Nat → Nat → Int) → Int → Prop := fun P G ps P' G' rn => P' = P ∧ G' r (2000 + cl) = ps.getD 2 0 ∧ ∀ j, j ≠ cl → G' r (2000 + j) = G r (2000 + j)
theorem zX_vt33 {l : Launch} {w : zk_W} (hW : zh_W w) (r cl : Nat) : zk_metX l w zt_dv zt_TB zK_vt33 (zp_A (zφ_vt33 r cl)) (zp_B (zψ_vt33 r cl)) ∧ zk_cok w zt_TB zK_vt33 := by
  sorry
def zK_vt34 : zk_K := (zt_mn 60, prog_10_method_5_code, 3, (Option.none : Option Jvm.ClassFile.FieldType), 1, 8, [(2, 8, 0, 0), (2, 34, 0, 0), (0, 0, 0, 872)], [(none, [])], [(34, 1001, 0)], (0, 0, 0, 0))
def zφ_vt34 (r cl : Nat) : (Nat → Option Nat) → (Nat → Nat → Int) → List Int → Prop := fun P G ps => ps.getD 1 0 = (r : Int) ∧ G (zp_0 ps) 6 = ((cl + 1 : Nat) : Int) ∧ cl < 12
def zψ_vt34 (r cl : Nat) : (Nat → Option Nat) → (Nat → Nat → Int) → List Int → (Nat → Option Nat) → (Nat → Nat → Int) → Int → Prop := fun P G ps P' G' rn => P' = P ∧ G' r (2000 + cl) = ps.getD 2 0 ∧ ∀ j, j ≠ cl → G' r (2000 + j) = G r (2000 + j)
theorem zX_vt34 {l : Launch} {w : zk_W} (hW : zh_W w) (r cl : Nat) : zk_metX l w zt_dv zt_TB zK_vt34 (zp_A (zφ_vt34 r cl)) (zp_B (zψ_vt34 r cl)) ∧ zk_cok w zt_TB zK_vt34 := by
  sorry