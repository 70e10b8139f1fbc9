/-! part h1ξ: the reference over logical cells: accessors, pick -/
noncomputable def zYr : List (Nat × Nat) := [(0, 13), (2, 58), (3, 59), (4, 60), (5, 61), (6, 62), (7, 63), (9, 64), (10, 65), (12, 66), (22, 67), (24, 68), (25, 69), (27, 70), (28, 71), (31, 72), (32, 73), (33, 74), (35, 75), (36, 76), (37, 77), (41, 78), (42, 79), (43, 80), (44, 81), (45, 82), (46, 83), (48, 84), (50, 85), (51, 86), (52, 87), (54, 88), (55, 89), (56, 90), (62, 91)]
noncomputable def zFr : List (Nat × Nat × Nat) := [(0, 2, 2), (0, 3, 3), (0, 4, 4), (0, 5, 5), (0, 6, 6), (0, 7, 7), (0, 9, 9), (0, 10, 10), (0, 12, 12), (0, 22, 22), (0, 24, 24), (0, 25, 25), (0, 27, 27), (0, 28, 28), (0, 31, 31), (0, 32, 32), (0, 33, 33), (0, 35, 35), (0, 36, 36), (0, 37, 37), (0, 41, 41), (0, 42, 42), (0, 43, 43), (0, 44, 44), (0, 45, 45), (0, 46, 46), (0, 48, 48), (0, 50, 50), (0, 51, 51), (0, 52, 52), (0, 54, 54), (0, 55, 55), (0, 56, 56), (0, 62, 62)]
/-- cells that the laying of a day leaves alone -/
noncomputable def zNl : List Nat := [2, 3, 4, 5, 6, 7, 9, 10, 12, 22, 24, 25, 27, 28, 31, 32, 33, 36, 48, 50, 51, 52, 54, 55, 56, 62]
noncomputable def zNs (o k : Nat) : Prop := o ∈ zNl ∨ (o = 0 ∧ k < 64 ∧ k ≠ 34 ∧ k ≠ 38 ∧ k ≠ 39 ∧ k ≠ 40)
noncomputable def zSb (M : Nat → Nat → Int) : Prop := ∀ j, j < 13 → -2147483648 ≤ M 35 (2000 + j) ∧ M 35 (2000 + j) ≤ 2147483648
/-- what stands there but for scratch -/
noncomputable def zMVr (A : Nat → Nat) (V : Nat → Nat → Int) (P : Nat → Option Nat) (G : Nat → Nat → Int) : Prop := ∃ M, zM A zYr zFr M P G ∧ (∀ o k, zNs o k → M o k = V o k) ∧ zSb M
theorem zV_set {N : Nat → Nat → Prop} {M V : Nat → Nat → Int} {o k : Nat} {v : Int} (h : ∀ o k, N o k → M o k = V o k) : ∀ o' k', N o' k' → zp_set M o k v o' k' = zp_set V o k v o' k' := fun o' k' hkξ => by
  unfold zp_set
  split
  · rfl
  · exact h o' k' hkξ
theorem zSb_set {M : Nat → Nat → Int} {o k : Nat} {v : Int} (hoξ : 35 ≠ o) (h : zSb M) : zSb (zp_set M o k v) := fun j hjξ => by
  rw [zp_set_ne (Or.inl hoξ)]
  exact h j hjξ
/-- the row's numbers are ints -/
noncomputable def zRb (M : Nat → Nat → Int) : Prop := ∀ j, j < 5580 → -2147483648 ≤ M 3 (2000 + j) ∧ M 3 (2000 + j) ≤ 2147483647
noncomputable def zK_wi : zk_K := (zt_mn 245, prog_14_method_6_code, 4, (Option.some Jvm.ClassFile.FieldType.int), 0, 12, [(1, 0, (-9223372036854775808), 9223372036854775807), (0, 0, (-2147483648), 2147483647), (0, 0, (-2147483648), 2147483647)], [(some (0, 0, (-2147483648), 2147483647), [])], [], (0, 0, 0, 0))
noncomputable def zφ_wi : (Nat → Option Nat) → (Nat → Nat → Int) → List Int → Prop := fun _ G ps => ps.getD 1 0 ≤ ps.getD 2 0
noncomputable def zψ_wi : (Nat → Option Nat) → (Nat → Nat → Int) → List Int → (Nat → Option Nat) → (Nat → Nat → Int) → Int → Prop := fun P G ps P' G' rn => P' = P ∧ G' = G ∧ rn = max (ps.getD 1 0) (min (ps.getD 2 0) (ps.getD 0 0))
theorem zX_wi {l : Launch} {w : zk_W} (hWξ : zh_W w) : zk_metX l w zt_dv zt_TB zK_wi (zp_A zφ_wi) (zp_B zψ_wi) ∧ zk_cok w zt_TB zK_wi := by
  refine zp_methX (cn := "WoundTownModel") zp_lkall hWξ (pl := 1830) rfl (by decide +kernel) (fun p e R s m args below meth c Q u hx hb hEξ hQξ hU5ξ heffξ hnLξ hokξ hφ => ?_)
  have hwξ := hWξ.1
  obtain ⟨p0ξ, p1ξ, p2ξ, hpsξ, k0, k1ξ, k2⟩ := zp_ps3 hokξ
  have hrmξ : zk_Kr (zk_ev (zt_types, zp_lk, zt_dv, [], [], zp_lc, zK_wi)) = zk_Kr zK_wi := rfl
  rw [hpsξ] at hφ ⊢
  have hi1ξ := zp_int k1ξ
  have hi2ξ := zp_int k2
  show zp_J p l e R s m args below meth c Q w u [] 0 [(0, 1, p0ξ), (2, 0, p1ξ), (3, 0, p2ξ)] [] u.1 (zp_n u.2.1)
  have hφ : p1ξ ≤ p2ξ := hφ
  have hl0ξ : zk_rg 1 p0ξ := k0.2.2
  refine zp_load (pc := 0) hx hb (zd_X12_within (0, .lload_n 0, 1, 0, []) (List.mem_of_getElem? (i := 0) rfl)) rfl (j := 0) rfl ?_
  refine zp_load (pc := 1) hx hb (zd_X12_within (1, .iload_n 2, 1, 0, []) (List.mem_of_getElem? (i := 1) rfl)) rfl (j := 1) rfl ?_
  refine zp_i2l (pc := 2) hx hb (zd_X12_within (2, .i2l, 1, 0, []) (List.mem_of_getElem? (i := 2) rfl)) ?_
  refine zp_lcmp (pc := 3) (tgt := 11) hx hb (zd_X12_within (3, .lcmp, 1, 0, []) (List.mem_of_getElem? (i := 3) rfl)) (zd_X12_within (4, .ifCond .ge 7, 3, 0, []) (List.mem_of_getElem? (i := 4) rfl)) rfl (fun (hc21ξ : p1ξ ≤ p0ξ) => ?_) (fun (hc21ξ : ¬ (p1ξ ≤ p0ξ)) => ?_)
  · refine zp_load (pc := 11) hx hb (zd_X12_within (11, .lload_n 0, 1, 0, []) (List.mem_of_getElem? (i := 7) rfl)) rfl (j := 0) rfl ?_
    refine zp_load (pc := 12) hx hb (zd_X12_within (12, .iload_n 3, 1, 0, []) (List.mem_of_getElem? (i := 8) rfl)) rfl (j := 2) rfl ?_
    refine zp_i2l (pc := 13) hx hb (zd_X12_within (13, .i2l, 1, 0, []) (List.mem_of_getElem? (i := 9) rfl)) ?_
    refine zp_lcmp (pc := 14) (tgt := 22) hx hb (zd_X12_within (14, .lcmp, 1, 0, []) (List.mem_of_getElem? (i := 10) rfl)) (zd_X12_within (15, .ifCond .le 7, 3, 0, []) (List.mem_of_getElem? (i := 11) rfl)) rfl (fun (hc22ξ : p0ξ ≤ p2ξ) => ?_) (fun (hc22ξ : ¬ (p0ξ ≤ p2ξ)) => ?_)
    · refine zp_load (pc := 22) hx hb (zd_X12_within (22, .lload_n 0, 1, 0, []) (List.mem_of_getElem? (i := 14) rfl)) rfl (j := 0) rfl ?_
      refine zp_l2i (pc := 23) hx hb (zd_X12_within (23, .l2i, 1, 0, []) (List.mem_of_getElem? (i := 15) rfl)) (fun x23 r_x23 e_x23 => ?_)
      have i_x23 := zp_rg0 r_x23
      have e9ξ := e_x23 (zp_r0 (by omega) (by omega))
      refine zp_iret (pc := 24) (n := x23) hx hb hEξ hQξ hU5ξ rfl (by decide) (zd_X12_within (24, .ireturn, 1, 0, []) (List.mem_of_getElem? (i := 16) rfl)) (j := 0) rfl (zp_o0 (by omega) (by omega) (by omega) (by omega)) ?_
      rw [hpsξ]
      refine ⟨rfl, rfl, ?_⟩
      show x23 = max p1ξ (min p2ξ p0ξ)
      omega
    · refine zp_load (pc := 18) hx hb (zd_X12_within (18, .iload_n 3, 1, 0, []) (List.mem_of_getElem? (i := 12) rfl)) rfl (j := 2) rfl ?_
      refine zp_goto (tgt := 24) (pc := 19) hx hb (zd_X12_within (19, .goto 5, 3, 0, []) (List.mem_of_getElem? (i := 13) rfl)) rfl ?_
      refine zp_iret (pc := 24) (n := p2ξ) hx hb hEξ hQξ hU5ξ rfl (by decide) (zd_X12_within (24, .ireturn, 1, 0, []) (List.mem_of_getElem? (i := 16) rfl)) (j := 0) rfl (zp_o0 (by omega) (by omega) (by omega) (by omega)) ?_
      rw [hpsξ]
      refine ⟨rfl, rfl, ?_⟩
      show p2ξ = max p1ξ (min p2ξ p0ξ)
      omega
  · refine zp_load (pc := 7) hx hb (zd_X12_within (7, .iload_n 2, 1, 0, []) (List.mem_of_getElem? (i := 5) rfl)) rfl (j := 1) rfl ?_
    refine zp_goto (tgt := 24) (pc := 8) hx hb (zd_X12_within (8, .goto 16, 3, 0, []) (List.mem_of_getElem? (i := 6) rfl)) rfl ?_
    refine zp_iret (pc := 24) (n := p1ξ) hx hb hEξ hQξ hU5ξ rfl (by decide) (zd_X12_within (24, .ireturn, 1, 0, []) (List.mem_of_getElem? (i := 16) rfl)) (j := 0) rfl (zp_o0 (by omega) (by omega) (by omega) (by omega)) ?_
    rw [hpsξ]
    refine ⟨rfl, rfl, ?_⟩
    show p1ξ = max p1ξ (min p2ξ p0ξ)
    omega
noncomputable def zK_ofw : zk_K := (zt_mn 196, prog_14_method_18_code, 3, (Option.some Jvm.ClassFile.FieldType.int), 1, 12, [(2, 13, 0, 0), (0, 0, 0, 9), (0, 0, 0, 4)], [(some (0, 0, (-2147483648), 2147483647), [])], [], (0, 0, 0, 0))
noncomputable def zφ_ofw (A : Nat → Nat) (M : Nat → Nat → Int) (w1ξ k1ξ : Nat) : (Nat → Option Nat) → (Nat → Nat → Int) → List Int → Prop := fun P G ps => zM A zYr zFr M P G ∧ ps.getD 0 0 = (A 0 : Int) ∧ (ps.getD 1 0) = (w1ξ : Int) ∧ (ps.getD 2 0) = (k1ξ : Int) ∧ -2147483648 ≤ M 3 (2000 + (5 * w1ξ + (39 + k1ξ))) ∧ M 3 (2000 + (5 * w1ξ + (39 + k1ξ))) ≤ 2147483647
noncomputable def zψ_ofw (A : Nat → Nat) (M : Nat → Nat → Int) (w1ξ k1ξ : Nat) : (Nat → Option Nat) → (Nat → Nat → Int) → List Int → (Nat → Option Nat) → (Nat → Nat → Int) → Int → Prop := fun P G ps P' G' rn => P' = P ∧ G' = G ∧ rn = M 3 (2000 + (5 * w1ξ + (39 + k1ξ)))
theorem zX_ofw {l : Launch} {w : zk_W} (hWξ : zh_W w) (A : Nat → Nat) (M : Nat → Nat → Int) (w1ξ k1ξ : Nat) : zk_metX l w zt_dv zt_TB zK_ofw (zp_A (zφ_ofw A M w1ξ k1ξ)) (zp_B (zψ_ofw A M w1ξ k1ξ)) ∧ zk_cok w zt_TB zK_ofw := by
  refine zp_methX (cn := "WoundTownModel") zp_lkall hWξ (pl := 1616) rfl (by decide +kernel) (fun p e R s m args below meth c Q u hx hb hEξ hQξ hU5ξ heffξ hnLξ hokξ hφ => ?_)
  have hwξ := hWξ.1
  obtain ⟨p0ξ, p1ξ, p2ξ, hpsξ, tk0, tk1, tk2⟩ := zp_ps3 hokξ
  have hrmξ : zk_Kr (zk_ev (zt_types, zp_lk, zt_dv, [], [], zp_lc, zK_ofw)) = zk_Kr zK_ofw := rfl
  rw [hpsξ] at hφ ⊢
  have hφ : zM A zYr zFr M u.1 (zp_n u.2.1) ∧ p0ξ = (A 0 : Int) ∧ p1ξ = (w1ξ : Int) ∧ p2ξ = (k1ξ : Int) ∧ -2147483648 ≤ M 3 (2000 + (5 * w1ξ + (39 + k1ξ))) ∧ M 3 (2000 + (5 * w1ξ + (39 + k1ξ))) ≤ 2147483647 := hφ
  obtain ⟨hMξ, rfl, rfl, rfl, hE1ξ, hE2ξ⟩ := hφ
  have hi1ξ := zp_int tk1
  have hi2ξ := zp_int tk2
  show zp_J p l e R s m args below meth c Q w u [] 0 [(0, 2, (A 0 : Int)), (1, 0, (w1ξ : Int)), (2, 0, (k1ξ : Int))] [] u.1 (zp_n u.2.1)
  refine zp_load (pc := 0) hx hb (zd_X12_ofWork (0, .aload_n 0, 1, 0, []) (List.mem_of_getElem? (i := 0) rfl)) rfl (j := 0) rfl ?_
  refine zp_getf (n := (A 3 : Int)) (pc := 1) hx hb hEξ hwξ (zd_X12_ofWork (1, .getfield 13, 3, 0, []) (List.mem_of_getElem? (i := 1) rfl)) (j := 21) rfl rfl rfl (zM_P hMξ (List.mem_of_getElem? (i := 0) rfl)) ((zM_G hMξ (List.mem_of_getElem? (i := 0) rfl) 3).trans (zM_F hMξ (List.mem_of_getElem? (i := 1) rfl))) ?_
  refine zp_const (pc := 4) hx hb (zd_X12_ofWork (4, .bipush 39, 2, 0, []) (List.mem_of_getElem? (i := 2) rfl)) rfl rfl ?_
  refine zp_const (pc := 6) hx hb (zd_X12_ofWork (6, .iconst 5, 1, 0, []) (List.mem_of_getElem? (i := 3) rfl)) rfl rfl ?_
  refine zp_load (pc := 7) hx hb (zd_X12_ofWork (7, .iload_n 1, 1, 0, []) (List.mem_of_getElem? (i := 4) rfl)) rfl (j := 1) rfl ?_
  refine zp_mul (n := (5 * (w1ξ : Int))) (pc := 8) hx hb (zd_X12_ofWork (8, .imul, 1, 0, []) (List.mem_of_getElem? (i := 5) rfl)) (by omega) (zp_r0 (by omega) (by omega)) ?_
  refine zp_add (n := (5 * (w1ξ : Int) + 39)) (pc := 9) hx hb (zd_X12_ofWork (9, .iadd, 1, 0, []) (List.mem_of_getElem? (i := 6) rfl)) (by omega) (zp_r0 (by omega) (by omega)) ?_
  refine zp_load (pc := 10) hx hb (zd_X12_ofWork (10, .iload_n 2, 1, 0, []) (List.mem_of_getElem? (i := 7) rfl)) rfl (j := 2) rfl ?_
  refine zp_add (n := (5 * (w1ξ : Int) + (k1ξ : Int) + 39)) (pc := 11) hx hb (zd_X12_ofWork (11, .iadd, 1, 0, []) (List.mem_of_getElem? (i := 8) rfl)) (by omega) (zp_r0 (by omega) (by omega)) ?_
  refine zp_ialdT (j := (5 * w1ξ + k1ξ + 39)) (v := (M 3 (2000 + (5 * w1ξ + k1ξ + 39)))) (pc := 12) hx hb hwξ (zd_X12_ofWork (12, .iaload, 1, 0, []) (List.mem_of_getElem? (i := 9) rfl)) zl_T59 rfl (zl_kd ((5 * w1ξ + k1ξ + 39))) (zM_P hMξ (List.mem_of_getElem? (i := 2) rfl)) (by omega) (show (5 * w1ξ + k1ξ + 39) < 5580 by omega) (zM_G hMξ (List.mem_of_getElem? (i := 2) rfl) (2000 + (5 * w1ξ + k1ξ + 39))) (fun _ => ?_)
  have heq9ξ : (M 3 (2000 + (5 * w1ξ + k1ξ + 39))) = M 3 (2000 + (5 * w1ξ + (39 + k1ξ))) := congrArg (fun z => M 3 (2000 + z)) (by omega)
  refine zp_iret (pc := 13) (n := (M 3 (2000 + (5 * w1ξ + k1ξ + 39)))) hx hb hEξ hQξ hU5ξ rfl (by decide) (zd_X12_ofWork (13, .ireturn, 1, 0, []) (List.mem_of_getElem? (i := 10) rfl)) (j := 0) rfl (zp_o0 (by omega) (by omega) (by omega) (by omega)) ?_
  rw [hpsξ]
  refine ⟨rfl, rfl, ?_⟩
  exact heq9ξ
noncomputable def zK_ofp : zk_K := (zt_mn 195, prog_14_method_17_code, 3, (Option.some Jvm.ClassFile.FieldType.int), 1, 12, [(2, 13, 0, 0), (0, 0, 0, 5), (0, 0, 0, 2)], [(some (0, 0, (-2147483648), 2147483647), [])], [], (0, 0, 0, 0))
noncomputable def zφ_ofp (A : Nat → Nat) (M : Nat → Nat → Int) (w1ξ k1ξ : Nat) : (Nat → Option Nat) → (Nat → Nat → Int) → List Int → Prop := fun P G ps => zM A zYr zFr M P G ∧ ps.getD 0 0 = (A 0 : Int) ∧ (ps.getD 1 0) = (w1ξ : Int) ∧ (ps.getD 2 0) = (k1ξ : Int) ∧ -2147483648 ≤ M 3 (2000 + (3 * w1ξ + (11 + k1ξ))) ∧ M 3 (2000 + (3 * w1ξ + (11 + k1ξ))) ≤ 2147483647
noncomputable def zψ_ofp (A : Nat → Nat) (M : Nat → Nat → Int) (w1ξ k1ξ : Nat) : (Nat → Option Nat) → (Nat → Nat → Int) → List Int → (Nat → Option Nat) → (Nat → Nat → Int) → Int → Prop := fun P G ps P' G' rn => P' = P ∧ G' = G ∧ rn = M 3 (2000 + (3 * w1ξ + (11 + k1ξ)))
theorem zX_ofp {l : Launch} {w : zk_W} (hWξ : zh_W w) (A : Nat → Nat) (M : Nat → Nat → Int) (w1ξ k1ξ : Nat) : zk_metX l w zt_dv zt_TB zK_ofp (zp_A (zφ_ofp A M w1ξ k1ξ)) (zp_B (zψ_ofp A M w1ξ k1ξ)) ∧ zk_cok w zt_TB zK_ofp := by
  refine zp_methX (cn := "WoundTownModel") zp_lkall hWξ (pl := 1612) rfl (by decide +kernel) (fun p e R s m args below meth c Q u hx hb hEξ hQξ hU5ξ heffξ hnLξ hokξ hφ => ?_)
  have hwξ := hWξ.1
  obtain ⟨p0ξ, p1ξ, p2ξ, hpsξ, tk0, tk1, tk2⟩ := zp_ps3 hokξ
  have hrmξ : zk_Kr (zk_ev (zt_types, zp_lk, zt_dv, [], [], zp_lc, zK_ofp)) = zk_Kr zK_ofp := rfl
  rw [hpsξ] at hφ ⊢
  have hφ : zM A zYr zFr M u.1 (zp_n u.2.1) ∧ p0ξ = (A 0 : Int) ∧ p1ξ = (w1ξ : Int) ∧ p2ξ = (k1ξ : Int) ∧ -2147483648 ≤ M 3 (2000 + (3 * w1ξ + (11 + k1ξ))) ∧ M 3 (2000 + (3 * w1ξ + (11 + k1ξ))) ≤ 2147483647 := hφ
  obtain ⟨hMξ, rfl, rfl, rfl, hE1ξ, hE2ξ⟩ := hφ
  have hi1ξ := zp_int tk1
  have hi2ξ := zp_int tk2
  show zp_J p l e R s m args below meth c Q w u [] 0 [(0, 2, (A 0 : Int)), (1, 0, (w1ξ : Int)), (2, 0, (k1ξ : Int))] [] u.1 (zp_n u.2.1)
  refine zp_load (pc := 0) hx hb (zd_X12_ofPerson (0, .aload_n 0, 1, 0, []) (List.mem_of_getElem? (i := 0) rfl)) rfl (j := 0) rfl ?_
  refine zp_getf (n := (A 3 : Int)) (pc := 1) hx hb hEξ hwξ (zd_X12_ofPerson (1, .getfield 13, 3, 0, []) (List.mem_of_getElem? (i := 1) rfl)) (j := 21) rfl rfl rfl (zM_P hMξ (List.mem_of_getElem? (i := 0) rfl)) ((zM_G hMξ (List.mem_of_getElem? (i := 0) rfl) 3).trans (zM_F hMξ (List.mem_of_getElem? (i := 1) rfl))) ?_
  refine zp_const (pc := 4) hx hb (zd_X12_ofPerson (4, .bipush 11, 2, 0, []) (List.mem_of_getElem? (i := 2) rfl)) rfl rfl ?_
  refine zp_const (pc := 6) hx hb (zd_X12_ofPerson (6, .iconst 3, 1, 0, []) (List.mem_of_getElem? (i := 3) rfl)) rfl rfl ?_
  refine zp_load (pc := 7) hx hb (zd_X12_ofPerson (7, .iload_n 1, 1, 0, []) (List.mem_of_getElem? (i := 4) rfl)) rfl (j := 1) rfl ?_
  refine zp_mul (n := (3 * (w1ξ : Int))) (pc := 8) hx hb (zd_X12_ofPerson (8, .imul, 1, 0, []) (List.mem_of_getElem? (i := 5) rfl)) (by omega) (zp_r0 (by omega) (by omega)) ?_
  refine zp_add (n := (3 * (w1ξ : Int) + 11)) (pc := 9) hx hb (zd_X12_ofPerson (9, .iadd, 1, 0, []) (List.mem_of_getElem? (i := 6) rfl)) (by omega) (zp_r0 (by omega) (by omega)) ?_
  refine zp_load (pc := 10) hx hb (zd_X12_ofPerson (10, .iload_n 2, 1, 0, []) (List.mem_of_getElem? (i := 7) rfl)) rfl (j := 2) rfl ?_
  refine zp_add (n := (3 * (w1ξ : Int) + (k1ξ : Int) + 11)) (pc := 11) hx hb (zd_X12_ofPerson (11, .iadd, 1, 0, []) (List.mem_of_getElem? (i := 8) rfl)) (by omega) (zp_r0 (by omega) (by omega)) ?_
  refine zp_ialdT (j := (3 * w1ξ + k1ξ + 11)) (v := (M 3 (2000 + (3 * w1ξ + k1ξ + 11)))) (pc := 12) hx hb hwξ (zd_X12_ofPerson (12, .iaload, 1, 0, []) (List.mem_of_getElem? (i := 9) rfl)) zl_T59 rfl (zl_kd ((3 * w1ξ + k1ξ + 11))) (zM_P hMξ (List.mem_of_getElem? (i := 2) rfl)) (by omega) (show (3 * w1ξ + k1ξ + 11) < 5580 by omega) (zM_G hMξ (List.mem_of_getElem? (i := 2) rfl) (2000 + (3 * w1ξ + k1ξ + 11))) (fun _ => ?_)
  have heq9ξ : (M 3 (2000 + (3 * w1ξ + k1ξ + 11))) = M 3 (2000 + (3 * w1ξ + (11 + k1ξ))) := congrArg (fun z => M 3 (2000 + z)) (by omega)
  refine zp_iret (pc := 13) (n := (M 3 (2000 + (3 * w1ξ + k1ξ + 11)))) hx hb hEξ hQξ hU5ξ rfl (by decide) (zd_X12_ofPerson (13, .ireturn, 1, 0, []) (List.mem_of_getElem? (i := 10) rfl)) (j := 0) rfl (zp_o0 (by omega) (by omega) (by omega) (by omega)) ?_
  rw [hpsξ]
  refine ⟨rfl, rfl, ?_⟩
  exact heq9ξ
noncomputable def zK_toda : zk_K := (zt_mn 241, prog_14_method_16_code, 1, (Option.some Jvm.ClassFile.FieldType.int), 1, 12, [(2, 13, 0, 0)], [(some (0, 0, (-2147483648), 2147483647), [])], [], (0, 0, 0, 0))
noncomputable def zφ_toda (A : Nat → Nat) (M : Nat → Nat → Int) : (Nat → Option Nat) → (Nat → Nat → Int) → List Int → Prop := fun P G ps => zM A zYr zFr M P G ∧ ps.getD 0 0 = (A 0 : Int) ∧ -2147483648 ≤ M 3 (2000 + 5) ∧ M 3 (2000 + 5) ≤ 2147483647
noncomputable def zψ_toda (A : Nat → Nat) (M : Nat → Nat → Int) : (Nat → Option Nat) → (Nat → Nat → Int) → List Int → (Nat → Option Nat) → (Nat → Nat → Int) → Int → Prop := fun P G ps P' G' rn => P' = P ∧ G' = G ∧ rn = M 3 (2000 + 5)
theorem zX_toda {l : Launch} {w : zk_W} (hWξ : zh_W w) (A : Nat → Nat) (M : Nat → Nat → Int) : zk_metX l w zt_dv zt_TB zK_toda (zp_A (zφ_toda A M)) (zp_B (zψ_toda A M)) ∧ zk_cok w zt_TB zK_toda := by
  refine zp_methX (cn := "WoundTownModel") zp_lkall hWξ (pl := 1813) rfl (by decide +kernel) (fun p e R s m args below meth c Q u hx hb hEξ hQξ hU5ξ heffξ hnLξ hokξ hφ => ?_)
  have hwξ := hWξ.1
  obtain ⟨p0ξ, hpsξ, tk0⟩ := zp_ps1 hokξ
  have hrmξ : zk_Kr (zk_ev (zt_types, zp_lk, zt_dv, [], [], zp_lc, zK_toda)) = zk_Kr zK_toda := rfl
  rw [hpsξ] at hφ ⊢
  have hφ : zM A zYr zFr M u.1 (zp_n u.2.1) ∧ p0ξ = (A 0 : Int) ∧ -2147483648 ≤ M 3 (2000 + 5) ∧ M 3 (2000 + 5) ≤ 2147483647 := hφ
  obtain ⟨hMξ, rfl, hE1ξ, hE2ξ⟩ := hφ
  show zp_J p l e R s m args below meth c Q w u [] 0 [(0, 2, (A 0 : Int))] [] u.1 (zp_n u.2.1)
  refine zp_load (pc := 0) hx hb (zd_X12_today (0, .aload_n 0, 1, 0, []) (List.mem_of_getElem? (i := 0) rfl)) rfl (j := 0) rfl ?_
  refine zp_getf (n := (A 3 : Int)) (pc := 1) hx hb hEξ hwξ (zd_X12_today (1, .getfield 13, 3, 0, []) (List.mem_of_getElem? (i := 1) rfl)) (j := 21) rfl rfl rfl (zM_P hMξ (List.mem_of_getElem? (i := 0) rfl)) ((zM_G hMξ (List.mem_of_getElem? (i := 0) rfl) 3).trans (zM_F hMξ (List.mem_of_getElem? (i := 1) rfl))) ?_
  refine zp_const (pc := 4) hx hb (zd_X12_today (4, .iconst 5, 1, 0, []) (List.mem_of_getElem? (i := 2) rfl)) rfl rfl ?_
  refine zp_ialdT (j := 5) (v := (M 3 (2000 + 5))) (pc := 5) hx hb hwξ (zd_X12_today (5, .iaload, 1, 0, []) (List.mem_of_getElem? (i := 3) rfl)) zl_T59 rfl (zl_kd 5) (zM_P hMξ (List.mem_of_getElem? (i := 2) rfl)) (by omega) (show 5 < 5580 by omega) (zM_G hMξ (List.mem_of_getElem? (i := 2) rfl) (2000 + 5)) (fun _ => ?_)
  refine zp_iret (pc := 6) (n := (M 3 (2000 + 5))) hx hb hEξ hQξ hU5ξ rfl (by decide) (zd_X12_today (6, .ireturn, 1, 0, []) (List.mem_of_getElem? (i := 4) rfl)) (j := 0) rfl (zp_o0 (by omega) (by omega) (by omega) (by omega)) ?_
  rw [hpsξ]
  refine ⟨rfl, rfl, ?_⟩
  rfl
noncomputable def zK_isp : zk_K := (zt_mn 193, prog_14_method_19_code, 2, (Option.some Jvm.ClassFile.FieldType.boolean), 1, 12, [(2, 13, 0, 0), (0, 0, (-2147483648), 2147483647)], [(some (0, 0, 0, 1), [])], [], (1, 60, 0, 0))
noncomputable def zφ_isp (A : Nat → Nat) (M : Nat → Nat → Int) : (Nat → Option Nat) → (Nat → Nat → Int) → List Int → Prop := fun P G ps => zM A zYr zFr M P G ∧ ps.getD 0 0 = (A 0 : Int) ∧ -2147483647 ≤ M 3 (2000 + 0) ∧ M 3 (2000 + 0) ≤ 2147483647
noncomputable def zψ_isp (A : Nat → Nat) (M : Nat → Nat → Int) : (Nat → Option Nat) → (Nat → Nat → Int) → List Int → (Nat → Option Nat) → (Nat → Nat → Int) → Int → Prop := fun P G ps P' G' rn => P' = P ∧ G' = G ∧ (rn = 1 ↔ 0 ≤ (ps.getD 1 0) ∧ (ps.getD 1 0) < M 3 (2000 + 0))
theorem zX_isp {l : Launch} {w : zk_W} (hWξ : zh_W w) (A : Nat → Nat) (M : Nat → Nat → Int) : zk_metX l w zt_dv zt_TB zK_isp (zp_A (zφ_isp A M)) (zp_B (zψ_isp A M)) ∧ zk_cok w zt_TB zK_isp := by
  refine zp_methX (cn := "WoundTownModel") zp_lkall hWξ (pl := 1603) rfl (by decide +kernel) (fun p e R s m args below meth c Q u hx hb hEξ hQξ hU5ξ heffξ hnLξ hokξ hφ => ?_)
  have hwξ := hWξ.1
  obtain ⟨p0ξ, p1ξ, hpsξ, tk0, tk1⟩ := zp_ps2 hokξ
  have hrmξ : zk_Kr (zk_ev (zt_types, zp_lk, zt_dv, [], [], zp_lc, zK_isp)) = zk_Kr zK_isp := rfl
  rw [hpsξ] at hφ ⊢
  have hφ : zM A zYr zFr M u.1 (zp_n u.2.1) ∧ p0ξ = (A 0 : Int) ∧ -2147483647 ≤ M 3 (2000 + 0) ∧ M 3 (2000 + 0) ≤ 2147483647 := hφ
  obtain ⟨hMξ, rfl, hE1ξ, hE2ξ⟩ := hφ
  have hi1ξ := zp_int tk1
  show zp_J p l e R s m args below meth c Q w u [] 0 [(0, 2, (A 0 : Int)), (1, 0, p1ξ)] [] u.1 (zp_n u.2.1)
  refine zp_load (pc := 0) hx hb (zd_X12_isPerson (0, .iload_n 1, 1, 0, []) (List.mem_of_getElem? (i := 0) rfl)) rfl (j := 1) rfl ?_
  refine zp_i2l (pc := 1) hx hb (zd_X12_isPerson (1, .i2l, 1, 0, []) (List.mem_of_getElem? (i := 1) rfl)) ?_
  refine zp_const (pc := 2) hx hb (zd_X12_isPerson (2, .lconst 0, 1, 0, []) (List.mem_of_getElem? (i := 2) rfl)) rfl rfl ?_
  refine zp_load (pc := 3) hx hb (zd_X12_isPerson (3, .aload_n 0, 1, 0, []) (List.mem_of_getElem? (i := 3) rfl)) rfl (j := 0) rfl ?_
  refine zp_getf (n := (A 3 : Int)) (pc := 4) hx hb hEξ hwξ (zd_X12_isPerson (4, .getfield 13, 3, 0, []) (List.mem_of_getElem? (i := 4) rfl)) (j := 21) rfl rfl rfl (zM_P hMξ (List.mem_of_getElem? (i := 0) rfl)) ((zM_G hMξ (List.mem_of_getElem? (i := 0) rfl) 3).trans (zM_F hMξ (List.mem_of_getElem? (i := 1) rfl))) ?_
  refine zp_const (pc := 7) hx hb (zd_X12_isPerson (7, .iconst 0, 1, 0, []) (List.mem_of_getElem? (i := 5) rfl)) rfl rfl ?_
  refine zp_ialdT (j := 0) (v := (M 3 (2000 + 0))) (pc := 8) hx hb hwξ (zd_X12_isPerson (8, .iaload, 1, 0, []) (List.mem_of_getElem? (i := 6) rfl)) zl_T59 rfl (zl_kd 0) (zM_P hMξ (List.mem_of_getElem? (i := 2) rfl)) (by omega) (show 0 < 5580 by omega) (zM_G hMξ (List.mem_of_getElem? (i := 2) rfl) (2000 + 0)) (fun _ => ?_)
  refine zp_i2l (pc := 9) hx hb (zd_X12_isPerson (9, .i2l, 1, 0, []) (List.mem_of_getElem? (i := 7) rfl)) ?_
  refine zp_const (pc := 10) hx hb (zd_X12_isPerson (10, .lconst 1, 1, 0, []) (List.mem_of_getElem? (i := 8) rfl)) rfl rfl ?_
  refine zp_lsubx (n := ((M 3 (2000 + 0)) - 1)) (pc := 11) hx hb (zd_X12_isPerson (11, .lsub, 1, 0, []) (List.mem_of_getElem? (i := 9) rfl)) rfl (zp_r1 (by omega) (by omega)) ?_
  refine zp_call (pc := 12) (how := 1) (idx := 181) (mi := 186) (S := []) hx hb hEξ hwξ heffξ hrmξ (zX_in2 hWξ) rfl (j := 2) rfl rfl (by decide +kernel) (zd_X12_isPerson (12, .invokestatic 181, 3, 0, []) (List.mem_of_getElem? (i := 10) rfl)) [p1ξ, 0, ((M 3 (2000 + 0)) - 1)] rfl ⟨zp_o1 (by first | assumption | exact zp_r1 (by omega) (by omega)), zp_o1 (by first | assumption | exact zp_r1 (by omega) (by omega)), zp_o1 (by first | assumption | exact zp_r1 (by omega) (by omega)), trivial⟩ (Nat.le_of_ble_eq_true rfl) trivial (fun al halξ rnn28ξ Pn28 Gn28 hextn28ξ hfrn28ξ hokn28ξ hcsn28ξ hpsin28ξ => ?_)
  obtain rfl := List.mem_singleton.mp halξ
  have hrn28ξ := zp_int (hokn28ξ _ rfl).1
  obtain ⟨hPen28ξ, hGen28ξ, htn28ξ⟩ := hpsin28ξ
  rw [hPen28ξ, hGen28ξ]
  clear hextn28ξ hfrn28ξ hcsn28ξ hPen28ξ hGen28ξ
  have htn28ξ : rnn28ξ = 1 ↔ 0 ≤ p1ξ ∧ p1ξ ≤ ((M 3 (2000 + 0)) - 1) := htn28ξ
  refine zp_zret (pc := 15) (n := rnn28ξ) hx hb hEξ hQξ hU5ξ rfl (by decide) (zd_X12_isPerson (15, .ireturn, 1, 0, []) (List.mem_of_getElem? (i := 11) rfl)) (j := 0) rfl (zp_o0 (by omega) (by omega) (by omega) (by omega)) ?_
  rw [hpsξ]
  refine ⟨rfl, rfl, ?_⟩
  show (rnn28ξ : Int) = 1 ↔ 0 ≤ p1ξ ∧ p1ξ < M 3 (2000 + 0)
  omega
noncomputable def zK_isw : zk_K := (zt_mn 200, prog_14_method_20_code, 2, (Option.some Jvm.ClassFile.FieldType.boolean), 1, 12, [(2, 13, 0, 0), (0, 0, (-2147483648), 2147483647)], [(some (0, 0, 0, 1), [])], [], (1, 60, 0, 0))
noncomputable def zφ_isw (A : Nat → Nat) (M : Nat → Nat → Int) : (Nat → Option Nat) → (Nat → Nat → Int) → List Int → Prop := fun P G ps => zM A zYr zFr M P G ∧ ps.getD 0 0 = (A 0 : Int) ∧ -2147483647 ≤ M 3 (2000 + 1) ∧ M 3 (2000 + 1) ≤ 2147483647
noncomputable def zψ_isw (A : Nat → Nat) (M : Nat → Nat → Int) : (Nat → Option Nat) → (Nat → Nat → Int) → List Int → (Nat → Option Nat) → (Nat → Nat → Int) → Int → Prop := fun P G ps P' G' rn => P' = P ∧ G' = G ∧ (rn = 1 ↔ 0 ≤ (ps.getD 1 0) ∧ (ps.getD 1 0) < M 3 (2000 + 1))
theorem zX_isw {l : Launch} {w : zk_W} (hWξ : zh_W w) (A : Nat → Nat) (M : Nat → Nat → Int) : zk_metX l w zt_dv zt_TB zK_isw (zp_A (zφ_isw A M)) (zp_B (zψ_isw A M)) ∧ zk_cok w zt_TB zK_isw := by
  refine zp_methX (cn := "WoundTownModel") zp_lkall hWξ (pl := 1634) rfl (by decide +kernel) (fun p e R s m args below meth c Q u hx hb hEξ hQξ hU5ξ heffξ hnLξ hokξ hφ => ?_)
  have hwξ := hWξ.1
  obtain ⟨p0ξ, p1ξ, hpsξ, tk0, tk1⟩ := zp_ps2 hokξ
  have hrmξ : zk_Kr (zk_ev (zt_types, zp_lk, zt_dv, [], [], zp_lc, zK_isw)) = zk_Kr zK_isw := rfl
  rw [hpsξ] at hφ ⊢
  have hφ : zM A zYr zFr M u.1 (zp_n u.2.1) ∧ p0ξ = (A 0 : Int) ∧ -2147483647 ≤ M 3 (2000 + 1) ∧ M 3 (2000 + 1) ≤ 2147483647 := hφ
  obtain ⟨hMξ, rfl, hE1ξ, hE2ξ⟩ := hφ
  have hi1ξ := zp_int tk1
  show zp_J p l e R s m args below meth c Q w u [] 0 [(0, 2, (A 0 : Int)), (1, 0, p1ξ)] [] u.1 (zp_n u.2.1)
  refine zp_load (pc := 0) hx hb (zd_X12_isWork (0, .iload_n 1, 1, 0, []) (List.mem_of_getElem? (i := 0) rfl)) rfl (j := 1) rfl ?_
  refine zp_i2l (pc := 1) hx hb (zd_X12_isWork (1, .i2l, 1, 0, []) (List.mem_of_getElem? (i := 1) rfl)) ?_
  refine zp_const (pc := 2) hx hb (zd_X12_isWork (2, .lconst 0, 1, 0, []) (List.mem_of_getElem? (i := 2) rfl)) rfl rfl ?_
  refine zp_load (pc := 3) hx hb (zd_X12_isWork (3, .aload_n 0, 1, 0, []) (List.mem_of_getElem? (i := 3) rfl)) rfl (j := 0) rfl ?_
  refine zp_getf (n := (A 3 : Int)) (pc := 4) hx hb hEξ hwξ (zd_X12_isWork (4, .getfield 13, 3, 0, []) (List.mem_of_getElem? (i := 4) rfl)) (j := 21) rfl rfl rfl (zM_P hMξ (List.mem_of_getElem? (i := 0) rfl)) ((zM_G hMξ (List.mem_of_getElem? (i := 0) rfl) 3).trans (zM_F hMξ (List.mem_of_getElem? (i := 1) rfl))) ?_
  refine zp_const (pc := 7) hx hb (zd_X12_isWork (7, .iconst 1, 1, 0, []) (List.mem_of_getElem? (i := 5) rfl)) rfl rfl ?_
  refine zp_ialdT (j := 1) (v := (M 3 (2000 + 1))) (pc := 8) hx hb hwξ (zd_X12_isWork (8, .iaload, 1, 0, []) (List.mem_of_getElem? (i := 6) rfl)) zl_T59 rfl (zl_kd 1) (zM_P hMξ (List.mem_of_getElem? (i := 2) rfl)) (by omega) (show 1 < 5580 by omega) (zM_G hMξ (List.mem_of_getElem? (i := 2) rfl) (2000 + 1)) (fun _ => ?_)
  refine zp_i2l (pc := 9) hx hb (zd_X12_isWork (9, .i2l, 1, 0, []) (List.mem_of_getElem? (i := 7) rfl)) ?_
  refine zp_const (pc := 10) hx hb (zd_X12_isWork (10, .lconst 1, 1, 0, []) (List.mem_of_getElem? (i := 8) rfl)) rfl rfl ?_
  refine zp_lsubx (n := ((M 3 (2000 + 1)) - 1)) (pc := 11) hx hb (zd_X12_isWork (11, .lsub, 1, 0, []) (List.mem_of_getElem? (i := 9) rfl)) rfl (zp_r1 (by omega) (by omega)) ?_
  refine zp_call (pc := 12) (how := 1) (idx := 181) (mi := 186) (S := []) hx hb hEξ hwξ heffξ hrmξ (zX_in2 hWξ) rfl (j := 2) rfl rfl (by decide +kernel) (zd_X12_isWork (12, .invokestatic 181, 3, 0, []) (List.mem_of_getElem? (i := 10) rfl)) [p1ξ, 0, ((M 3 (2000 + 1)) - 1)] rfl ⟨zp_o1 (by first | assumption | exact zp_r1 (by omega) (by omega)), zp_o1 (by first | assumption | exact zp_r1 (by omega) (by omega)), zp_o1 (by first | assumption | exact zp_r1 (by omega) (by omega)), trivial⟩ (Nat.le_of_ble_eq_true rfl) trivial (fun al halξ rnn30ξ Pn30 Gn30 hextn30ξ hfrn30ξ hokn30ξ hcsn30ξ hpsin30ξ => ?_)
  obtain rfl := List.mem_singleton.mp halξ
  have hrn30ξ := zp_int (hokn30ξ _ rfl).1
  obtain ⟨hPen30ξ, hGen30ξ, htn30ξ⟩ := hpsin30ξ
  rw [hPen30ξ, hGen30ξ]
  clear hextn30ξ hfrn30ξ hcsn30ξ hPen30ξ hGen30ξ
  have htn30ξ : rnn30ξ = 1 ↔ 0 ≤ p1ξ ∧ p1ξ ≤ ((M 3 (2000 + 1)) - 1) := htn30ξ
  refine zp_zret (pc := 15) (n := rnn30ξ) hx hb hEξ hQξ hU5ξ rfl (by decide) (zd_X12_isWork (15, .ireturn, 1, 0, []) (List.mem_of_getElem? (i := 11) rfl)) (j := 0) rfl (zp_o0 (by omega) (by omega) (by omega) (by omega)) ?_
  rw [hpsξ]
  refine ⟨rfl, rfl, ?_⟩
  show (rnn30ξ : Int) = 1 ↔ 0 ≤ p1ξ ∧ p1ξ < M 3 (2000 + 1)
  omega
noncomputable def zK_iov : zk_K := (zt_mn 197, prog_14_method_21_code, 2, (Option.some Jvm.ClassFile.FieldType.boolean), 1, 12, [(2, 13, 0, 0), (0, 0, 0, 9)], [(some (0, 0, 0, 1), [])], [], (1, 60, 0, 0))
noncomputable def zφ_iov (A : Nat → Nat) (M : Nat → Nat → Int) (w1ξ : Nat) : (Nat → Option Nat) → (Nat → Nat → Int) → List Int → Prop := fun P G ps => zM A zYr zFr M P G ∧ ps.getD 0 0 = (A 0 : Int) ∧ (ps.getD 1 0) = (w1ξ : Int) ∧ w1ξ ≤ 9 ∧ (-2147483648 ≤ M 3 (2000 + (w1ξ + 29)) ∧ M 3 (2000 + (w1ξ + 29)) ≤ 2147483647) ∧ -2147483648 ≤ M 3 (2000 + (5 * w1ξ + 40)) ∧ M 3 (2000 + (5 * w1ξ + 40)) ≤ 2147483647
noncomputable def zψ_iov (A : Nat → Nat) (M : Nat → Nat → Int) (w1ξ : Nat) : (Nat → Option Nat) → (Nat → Nat → Int) → List Int → (Nat → Option Nat) → (Nat → Nat → Int) → Int → Prop := fun P G ps P' G' rn => P' = P ∧ G' = G ∧ (rn = 1 ↔ M 3 (2000 + (w1ξ + 29)) = M 3 (2000 + (5 * w1ξ + 40)))
theorem zX_iov {l : Launch} {w : zk_W} (hWξ : zh_W w) (A : Nat → Nat) (M : Nat → Nat → Int) (w1ξ : Nat) : zk_metX l w zt_dv zt_TB zK_iov (zp_A (zφ_iov A M w1ξ)) (zp_B (zψ_iov A M w1ξ)) ∧ zk_cok w zt_TB zK_iov := by
  refine zp_methX (cn := "WoundTownModel") zp_lkall hWξ (pl := 1620) rfl (by decide +kernel) (fun p e R s m args below meth c Q u hx hb hEξ hQξ hU5ξ heffξ hnLξ hokξ hφ => ?_)
  have hwξ := hWξ.1
  obtain ⟨p0ξ, p1ξ, hpsξ, tk0, tk1⟩ := zp_ps2 hokξ
  have hrmξ : zk_Kr (zk_ev (zt_types, zp_lk, zt_dv, [], [], zp_lc, zK_iov)) = zk_Kr zK_iov := rfl
  rw [hpsξ] at hφ ⊢
  have hφ : zM A zYr zFr M u.1 (zp_n u.2.1) ∧ p0ξ = (A 0 : Int) ∧ p1ξ = (w1ξ : Int) ∧ w1ξ ≤ 9 ∧ (-2147483648 ≤ M 3 (2000 + (w1ξ + 29)) ∧ M 3 (2000 + (w1ξ + 29)) ≤ 2147483647) ∧ -2147483648 ≤ M 3 (2000 + (5 * w1ξ + 40)) ∧ M 3 (2000 + (5 * w1ξ + 40)) ≤ 2147483647 := hφ
  obtain ⟨hMξ, rfl, rfl, hw1ξ, hE1ξ, hE2ξ⟩ := hφ
  have hi1ξ := zp_int tk1
  show zp_J p l e R s m args below meth c Q w u [] 0 [(0, 2, (A 0 : Int)), (1, 0, (w1ξ : Int))] [] u.1 (zp_n u.2.1)
  refine zp_load (pc := 0) hx hb (zd_X12_isOver (0, .aload_n 0, 1, 0, []) (List.mem_of_getElem? (i := 0) rfl)) rfl (j := 0) rfl ?_
  refine zp_getf (n := (A 3 : Int)) (pc := 1) hx hb hEξ hwξ (zd_X12_isOver (1, .getfield 13, 3, 0, []) (List.mem_of_getElem? (i := 1) rfl)) (j := 21) rfl rfl rfl (zM_P hMξ (List.mem_of_getElem? (i := 0) rfl)) ((zM_G hMξ (List.mem_of_getElem? (i := 0) rfl) 3).trans (zM_F hMξ (List.mem_of_getElem? (i := 1) rfl))) ?_
  refine zp_const (pc := 4) hx hb (zd_X12_isOver (4, .bipush 29, 2, 0, []) (List.mem_of_getElem? (i := 2) rfl)) rfl rfl ?_
  refine zp_load (pc := 6) hx hb (zd_X12_isOver (6, .iload_n 1, 1, 0, []) (List.mem_of_getElem? (i := 3) rfl)) rfl (j := 1) rfl ?_
  refine zp_add (n := ((w1ξ : Int) + 29)) (pc := 7) hx hb (zd_X12_isOver (7, .iadd, 1, 0, []) (List.mem_of_getElem? (i := 4) rfl)) (by omega) (zp_r0 (by omega) (by omega)) ?_
  refine zp_ialdT (j := (w1ξ + 29)) (v := (M 3 (2000 + (w1ξ + 29)))) (pc := 8) hx hb hwξ (zd_X12_isOver (8, .iaload, 1, 0, []) (List.mem_of_getElem? (i := 5) rfl)) zl_T59 rfl (zl_kd ((w1ξ + 29))) (zM_P hMξ (List.mem_of_getElem? (i := 2) rfl)) (by omega) (show (w1ξ + 29) < 5580 by omega) (zM_G hMξ (List.mem_of_getElem? (i := 2) rfl) (2000 + (w1ξ + 29))) (fun _ => ?_)
  refine zp_load (pc := 9) hx hb (zd_X12_isOver (9, .aload_n 0, 1, 0, []) (List.mem_of_getElem? (i := 6) rfl)) rfl (j := 0) rfl ?_
  refine zp_load (pc := 10) hx hb (zd_X12_isOver (10, .iload_n 1, 1, 0, []) (List.mem_of_getElem? (i := 7) rfl)) rfl (j := 1) rfl ?_
  refine zp_const (pc := 11) hx hb (zd_X12_isOver (11, .iconst 1, 1, 0, []) (List.mem_of_getElem? (i := 8) rfl)) rfl rfl ?_
  refine zp_call (pc := 12) (how := 0) (idx := 188) (mi := 196) (S := [(0, (M 3 (2000 + (w1ξ + 29))))]) hx hb hEξ hwξ heffξ hrmξ (zX_ofw hWξ A M w1ξ 1) rfl (j := 7) rfl rfl (by decide +kernel) (zd_X12_isOver (12, .invokevirtual 188, 3, 0, []) (List.mem_of_getElem? (i := 9) rfl)) [(A 0 : Int), (w1ξ : Int), 1] rfl ⟨zp_o2 (zM_P hMξ (List.mem_of_getElem? (i := 0) rfl)), zp_o0 (by omega) (by omega) (by omega) (by omega), zp_o0 (by decide) (by decide) (by decide) (by decide), trivial⟩ (Nat.le_of_ble_eq_true rfl) ⟨hMξ, rfl, (show (w1ξ : Int) = ((w1ξ : Nat) : Int) by omega), rfl, (show -2147483648 ≤ M 3 (2000 + (5 * w1ξ + 40)) ∧ M 3 (2000 + (5 * w1ξ + 40)) ≤ 2147483647 by omega)⟩ (fun al halξ rnf32ξ Pf32 Gf32 hextf32ξ hfrf32ξ hokf32ξ hcsf32ξ hpsif32ξ => ?_)
  obtain rfl := List.mem_singleton.mp halξ
  have hrf32ξ := zp_int (hokf32ξ _ rfl).1
  obtain ⟨hPef32ξ, hGef32ξ, htf32ξ⟩ := hpsif32ξ
  rw [hPef32ξ, hGef32ξ]
  clear hextf32ξ hfrf32ξ hcsf32ξ hPef32ξ hGef32ξ
  have htf32ξ : rnf32ξ = (M 3 (2000 + (5 * w1ξ + 40))) := htf32ξ
  have htf32ξ := (Eq.symm htf32ξ)
  subst htf32ξ
  refine zp_icmp (pc := 15) (tgt := 22) hx hb (zd_X12_isOver (15, .if_icmp .ne 7, 3, 0, []) (List.mem_of_getElem? (i := 10) rfl)) rfl (fun (hc33ξ : ¬ (M 3 (2000 + (w1ξ + 29))) = (M 3 (2000 + (5 * w1ξ + 40)))) => ?_) (fun (hc33ξ : ¬ (¬ (M 3 (2000 + (w1ξ + 29))) = (M 3 (2000 + (5 * w1ξ + 40))))) => ?_)
  · refine zp_const (pc := 22) hx hb (zd_X12_isOver (22, .iconst 0, 1, 0, []) (List.mem_of_getElem? (i := 13) rfl)) rfl rfl ?_
    refine zp_zret (pc := 23) (n := 0) hx hb hEξ hQξ hU5ξ rfl (by decide) (zd_X12_isOver (23, .ireturn, 1, 0, []) (List.mem_of_getElem? (i := 14) rfl)) (j := 0) rfl (zp_o0 (by omega) (by omega) (by omega) (by omega)) ?_
    rw [hpsξ]
    refine ⟨rfl, rfl, ?_⟩
    show (0 : Int) = 1 ↔ M 3 (2000 + (w1ξ + 29)) = M 3 (2000 + (5 * w1ξ + 40))
    omega
  · refine zp_const (pc := 18) hx hb (zd_X12_isOver (18, .iconst 1, 1, 0, []) (List.mem_of_getElem? (i := 11) rfl)) rfl rfl ?_
    refine zp_goto (tgt := 23) (pc := 19) hx hb (zd_X12_isOver (19, .goto 4, 3, 0, []) (List.mem_of_getElem? (i := 12) rfl)) rfl ?_
    refine zp_zret (pc := 23) (n := 1) hx hb hEξ hQξ hU5ξ rfl (by decide) (zd_X12_isOver (23, .ireturn, 1, 0, []) (List.mem_of_getElem? (i := 14) rfl)) (j := 0) rfl (zp_o0 (by omega) (by omega) (by omega) (by omega)) ?_
    rw [hpsξ]
    refine ⟨rfl, rfl, ?_⟩
    show (1 : Int) = 1 ↔ M 3 (2000 + (w1ξ + 29)) = M 3 (2000 + (5 * w1ξ + 40))
    omega
noncomputable def zK_cgo : zk_K := (zt_mn 251, prog_14_method_75_code, 2, (Option.some Jvm.ClassFile.FieldType.boolean), 1, 12, [(2, 13, 0, 0), (0, 0, 0, 9)], [(some (0, 0, 0, 1), [])], [], (1, 60, 0, 0))
noncomputable def zφ_cgo (A : Nat → Nat) (M : Nat → Nat → Int) (w1ξ : Nat) : (Nat → Option Nat) → (Nat → Nat → Int) → List Int → Prop := fun P G ps => zM A zYr zFr M P G ∧ ps.getD 0 0 = (A 0 : Int) ∧ (ps.getD 1 0) = (w1ξ : Int) ∧ w1ξ ≤ 9 ∧ -2147483648 ≤ M 3 (2000 + (5 * w1ξ + 40)) ∧ M 3 (2000 + (5 * w1ξ + 40)) ≤ 2147483647
noncomputable def zψ_cgo (A : Nat → Nat) (M : Nat → Nat → Int) (w1ξ : Nat) : (Nat → Option Nat) → (Nat → Nat → Int) → List Int → (Nat → Option Nat) → (Nat → Nat → Int) → Int → Prop := fun P G ps P' G' rn => P' = P ∧ G' = G ∧ (rn = 1 ↔ M 46 (2000 + w1ξ) = 1 ∧ M 44 (2000 + w1ξ) < M 3 (2000 + (5 * w1ξ + 40)))
theorem zX_cgo {l : Launch} {w : zk_W} (hWξ : zh_W w) (A : Nat → Nat) (M : Nat → Nat → Int) (w1ξ : Nat) : zk_metX l w zt_dv zt_TB zK_cgo (zp_A (zφ_cgo A M w1ξ)) (zp_B (zψ_cgo A M w1ξ)) ∧ zk_cok w zt_TB zK_cgo := by
  refine zp_methX (cn := "WoundTownModel") zp_lkall hWξ (pl := 1854) rfl (by decide +kernel) (fun p e R s m args below meth c Q u hx hb hEξ hQξ hU5ξ heffξ hnLξ hokξ hφ => ?_)
  have hwξ := hWξ.1
  obtain ⟨p0ξ, p1ξ, hpsξ, tk0, tk1⟩ := zp_ps2 hokξ
  have hrmξ : zk_Kr (zk_ev (zt_types, zp_lk, zt_dv, [], [], zp_lc, zK_cgo)) = zk_Kr zK_cgo := rfl
  rw [hpsξ] at hφ ⊢
  have hφ : zM A zYr zFr M u.1 (zp_n u.2.1) ∧ p0ξ = (A 0 : Int) ∧ p1ξ = (w1ξ : Int) ∧ w1ξ ≤ 9 ∧ -2147483648 ≤ M 3 (2000 + (5 * w1ξ + 40)) ∧ M 3 (2000 + (5 * w1ξ + 40)) ≤ 2147483647 := hφ
  obtain ⟨hMξ, rfl, rfl, hw1ξ, hE1ξ, hE2ξ⟩ := hφ
  have hi1ξ := zp_int tk1
  show zp_J p l e R s m args below meth c Q w u [] 0 [(0, 2, (A 0 : Int)), (1, 0, (w1ξ : Int))] [] u.1 (zp_n u.2.1)
  refine zp_load (pc := 0) hx hb (zd_X12_canGoOn (0, .aload_n 0, 1, 0, []) (List.mem_of_getElem? (i := 0) rfl)) rfl (j := 0) rfl ?_
  refine zp_getf (n := (A 46 : Int)) (pc := 1) hx hb hEξ hwξ (zd_X12_canGoOn (1, .getfield 125, 3, 0, []) (List.mem_of_getElem? (i := 1) rfl)) (j := 64) rfl rfl rfl (zM_P hMξ (List.mem_of_getElem? (i := 0) rfl)) ((zM_G hMξ (List.mem_of_getElem? (i := 0) rfl) 46).trans (zM_F hMξ (List.mem_of_getElem? (i := 25) rfl))) ?_
  refine zp_load (pc := 4) hx hb (zd_X12_canGoOn (4, .iload_n 1, 1, 0, []) (List.mem_of_getElem? (i := 2) rfl)) rfl (j := 1) rfl ?_
  refine zp_zald (j := w1ξ) (v := (M 46 (2000 + w1ξ))) (pc := 5) hx hb hwξ (zd_X12_canGoOn (5, .baload, 1, 0, []) (List.mem_of_getElem? (i := 3) rfl)) (show zp_ia 4 83 = some (10, 0, 0, 0, 1) from rfl) (zM_P hMξ (List.mem_of_getElem? (i := 26) rfl)) (by omega) (by omega) (zM_G hMξ (List.mem_of_getElem? (i := 26) rfl) (2000 + w1ξ)) (fun hk34ξ => ?_)
  have hk34bξ := zp_int hk34ξ
  clear hk34ξ
  refine zp_if (pc := 6) (tgt := 28) hx hb (zd_X12_canGoOn (6, .ifCond .eq 22, 3, 0, []) (List.mem_of_getElem? (i := 4) rfl)) rfl (fun (hc35ξ : (M 46 (2000 + w1ξ)) = 0) => ?_) (fun (hc35ξ : ¬ ((M 46 (2000 + w1ξ)) = 0)) => ?_)
  · refine zp_const (pc := 28) hx hb (zd_X12_canGoOn (28, .iconst 0, 1, 0, []) (List.mem_of_getElem? (i := 16) rfl)) rfl rfl ?_
    refine zp_zret (pc := 29) (n := 0) hx hb hEξ hQξ hU5ξ rfl (by decide) (zd_X12_canGoOn (29, .ireturn, 1, 0, []) (List.mem_of_getElem? (i := 17) rfl)) (j := 0) rfl (zp_o0 (by omega) (by omega) (by omega) (by omega)) ?_
    rw [hpsξ]
    refine ⟨rfl, rfl, ?_⟩
    show (0 : Int) = 1 ↔ M 46 (2000 + w1ξ) = 1 ∧ M 44 (2000 + w1ξ) < M 3 (2000 + (5 * w1ξ + 40))
    omega
  · refine zp_load (pc := 9) hx hb (zd_X12_canGoOn (9, .aload_n 0, 1, 0, []) (List.mem_of_getElem? (i := 5) rfl)) rfl (j := 0) rfl ?_
    refine zp_getf (n := (A 44 : Int)) (pc := 10) hx hb hEξ hwξ (zd_X12_canGoOn (10, .getfield 119, 3, 0, []) (List.mem_of_getElem? (i := 6) rfl)) (j := 62) rfl rfl rfl (zM_P hMξ (List.mem_of_getElem? (i := 0) rfl)) ((zM_G hMξ (List.mem_of_getElem? (i := 0) rfl) 44).trans (zM_F hMξ (List.mem_of_getElem? (i := 23) rfl))) ?_
    refine zp_load (pc := 13) hx hb (zd_X12_canGoOn (13, .iload_n 1, 1, 0, []) (List.mem_of_getElem? (i := 7) rfl)) rfl (j := 1) rfl ?_
    refine zp_iald (j := w1ξ) (v := (M 44 (2000 + w1ξ))) (pc := 14) hx hb hwξ (zd_X12_canGoOn (14, .iaload, 1, 0, []) (List.mem_of_getElem? (i := 8) rfl)) (show zp_ia 1 81 = some (10, 0, 0, (-2147483648), 2147483647) from rfl) (zM_P hMξ (List.mem_of_getElem? (i := 24) rfl)) (by omega) (by omega) (zM_G hMξ (List.mem_of_getElem? (i := 24) rfl) (2000 + w1ξ)) (fun hk36ξ => ?_)
    have hk36bξ := zp_int hk36ξ
    clear hk36ξ
    refine zp_load (pc := 15) hx hb (zd_X12_canGoOn (15, .aload_n 0, 1, 0, []) (List.mem_of_getElem? (i := 9) rfl)) rfl (j := 0) rfl ?_
    refine zp_load (pc := 16) hx hb (zd_X12_canGoOn (16, .iload_n 1, 1, 0, []) (List.mem_of_getElem? (i := 10) rfl)) rfl (j := 1) rfl ?_
    refine zp_const (pc := 17) hx hb (zd_X12_canGoOn (17, .iconst 1, 1, 0, []) (List.mem_of_getElem? (i := 11) rfl)) rfl rfl ?_
    refine zp_call (pc := 18) (how := 0) (idx := 188) (mi := 196) (S := [(0, (M 44 (2000 + w1ξ)))]) hx hb hEξ hwξ heffξ hrmξ (zX_ofw hWξ A M w1ξ 1) rfl (j := 7) rfl rfl (by decide +kernel) (zd_X12_canGoOn (18, .invokevirtual 188, 3, 0, []) (List.mem_of_getElem? (i := 12) rfl)) [(A 0 : Int), (w1ξ : Int), 1] rfl ⟨zp_o2 (zM_P hMξ (List.mem_of_getElem? (i := 0) rfl)), zp_o0 (by omega) (by omega) (by omega) (by omega), zp_o0 (by decide) (by decide) (by decide) (by decide), trivial⟩ (Nat.le_of_ble_eq_true rfl) ⟨hMξ, rfl, (show (w1ξ : Int) = ((w1ξ : Nat) : Int) by omega), rfl, (show -2147483648 ≤ M 3 (2000 + (5 * w1ξ + 40)) ∧ M 3 (2000 + (5 * w1ξ + 40)) ≤ 2147483647 by omega)⟩ (fun al halξ rnf37ξ Pf37 Gf37 hextf37ξ hfrf37ξ hokf37ξ hcsf37ξ hpsif37ξ => ?_)
    obtain rfl := List.mem_singleton.mp halξ
    have hrf37ξ := zp_int (hokf37ξ _ rfl).1
    obtain ⟨hPef37ξ, hGef37ξ, htf37ξ⟩ := hpsif37ξ
    rw [hPef37ξ, hGef37ξ]
    clear hextf37ξ hfrf37ξ hcsf37ξ hPef37ξ hGef37ξ
    have htf37ξ : rnf37ξ = (M 3 (2000 + (5 * w1ξ + 40))) := htf37ξ
    have htf37ξ := (Eq.symm htf37ξ)
    subst htf37ξ
    refine zp_icmp (pc := 21) (tgt := 28) hx hb (zd_X12_canGoOn (21, .if_icmp .ge 7, 3, 0, []) (List.mem_of_getElem? (i := 13) rfl)) rfl (fun (hc38ξ : (M 3 (2000 + (5 * w1ξ + 40))) ≤ (M 44 (2000 + w1ξ))) => ?_) (fun (hc38ξ : ¬ ((M 3 (2000 + (5 * w1ξ + 40))) ≤ (M 44 (2000 + w1ξ)))) => ?_)
    · refine zp_const (pc := 28) hx hb (zd_X12_canGoOn (28, .iconst 0, 1, 0, []) (List.mem_of_getElem? (i := 16) rfl)) rfl rfl ?_
      refine zp_zret (pc := 29) (n := 0) hx hb hEξ hQξ hU5ξ rfl (by decide) (zd_X12_canGoOn (29, .ireturn, 1, 0, []) (List.mem_of_getElem? (i := 17) rfl)) (j := 0) rfl (zp_o0 (by omega) (by omega) (by omega) (by omega)) ?_
      rw [hpsξ]
      refine ⟨rfl, rfl, ?_⟩
      show (0 : Int) = 1 ↔ M 46 (2000 + w1ξ) = 1 ∧ M 44 (2000 + w1ξ) < M 3 (2000 + (5 * w1ξ + 40))
      omega
    · refine zp_const (pc := 24) hx hb (zd_X12_canGoOn (24, .iconst 1, 1, 0, []) (List.mem_of_getElem? (i := 14) rfl)) rfl rfl ?_
      refine zp_goto (tgt := 29) (pc := 25) hx hb (zd_X12_canGoOn (25, .goto 4, 3, 0, []) (List.mem_of_getElem? (i := 15) rfl)) rfl ?_
      refine zp_zret (pc := 29) (n := 1) hx hb hEξ hQξ hU5ξ rfl (by decide) (zd_X12_canGoOn (29, .ireturn, 1, 0, []) (List.mem_of_getElem? (i := 17) rfl)) (j := 0) rfl (zp_o0 (by omega) (by omega) (by omega) (by omega)) ?_
      rw [hpsξ]
      refine ⟨rfl, rfl, ?_⟩
      show (1 : Int) = 1 ↔ M 46 (2000 + w1ξ) = 1 ∧ M 44 (2000 + w1ξ) < M 3 (2000 + (5 * w1ξ + 40))
      omega
/-- which work one goes on with: k left, from w on -/
noncomputable def zd_pk (R D W : Nat → Int) (p : Int) : Nat → Nat → Int
  | 0, _ => -1
  | k + 1, w => if R (5 * w + 39) = p ∧ (D w = 1 ∧ W w < R (5 * w + 40)) then (w : Int) else zd_pk R D W p k (w + 1)
theorem zd_pk_c {R R' D D' W W' : Nat → Int} {p : Int} : ∀ {k w : Nat}, (∀ j, R' j = R j) → (∀ j, j < k + w → D' j = D j) → (∀ j, j < k + w → W' j = W j) → zd_pk R' D' W' p k w = zd_pk R D W p k w
  | 0, _, _, _, _ => rfl
  | k + 1, w, h1ξ, h2ξ, h3ξ => by
    rw [zd_pk, zd_pk, h1ξ, h1ξ, h2ξ w (by omega), h3ξ w (by omega), zd_pk_c (k := k) (w := w + 1) h1ξ (fun j hjξ => h2ξ j (by omega)) (fun j hjξ => h3ξ j (by omega))]
theorem zd_pk_r {R D W : Nat → Int} {p : Int} : ∀ {k w : Nat}, zd_pk R D W p k w = -1 ∨ ∃ j : Nat, zd_pk R D W p k w = (j : Int) ∧ w ≤ j ∧ j < k + w ∧ R (5 * j + 39) = p ∧ D j = 1 ∧ W j < R (5 * j + 40)
  | 0, _ => Or.inl rfl
  | k + 1, w => by
    rw [zd_pk]
    split
    · rename_i h
      exact Or.inr ⟨w, rfl, Nat.le_refl _, by omega, h⟩
    · rcases zd_pk_r (R := R) (D := D) (W := W) (p := p) (k := k) (w := w + 1) with h | ⟨j, h1ξ, h2ξ, h3ξ, h4ξ⟩
      · exact Or.inl h
      · exact Or.inr ⟨j, h1ξ, by omega, by omega, h4ξ⟩
noncomputable def zK_pk : zk_K := (zt_mn 250, prog_14_method_76_code, 3, (Option.some Jvm.ClassFile.FieldType.int), 1, 12, [(2, 13, 0, 0), (0, 0, 0, 5)], [(some (0, 0, (-1), 9), [])], [], (2, 120, 0, 0))
noncomputable def zφ_pk (A : Nat → Nat) (M : Nat → Nat → Int) (n1ξ : Nat) : (Nat → Option Nat) → (Nat → Nat → Int) → List Int → Prop := fun P G ps => zM A zYr zFr M P G ∧ ps.getD 0 0 = (A 0 : Int) ∧ zRb M ∧ M 0 47 = -1 ∧ M 3 (2000 + 1) = (n1ξ : Int) ∧ n1ξ ≤ 10
noncomputable def zψ_pk (A : Nat → Nat) (M : Nat → Nat → Int) (n1ξ : Nat) : (Nat → Option Nat) → (Nat → Nat → Int) → List Int → (Nat → Option Nat) → (Nat → Nat → Int) → Int → Prop := fun P G ps P' G' rn => P' = P ∧ G' = G ∧ rn = zd_pk (fun j => M 3 (2000 + j)) (fun j => M 46 (2000 + j)) (fun j => M 44 (2000 + j)) (ps.getD 1 0) n1ξ 0
theorem zX_pk {l : Launch} {w : zk_W} (hWξ : zh_W w) (A : Nat → Nat) (M : Nat → Nat → Int) (n1ξ : Nat) : zk_metX l w zt_dv zt_TB zK_pk (zp_A (zφ_pk A M n1ξ)) (zp_B (zψ_pk A M n1ξ)) ∧ zk_cok w zt_TB zK_pk := by
  refine zp_methX (cn := "WoundTownModel") zp_lkall hWξ (pl := 1850) rfl (by decide +kernel) (fun p e R s m args below meth c Q u hx hb hEξ hQξ hU5ξ heffξ hnLξ hokξ hφ => ?_)
  have hwξ := hWξ.1
  obtain ⟨p0ξ, p1ξ, hpsξ, tk0, tk1⟩ := zp_ps2 hokξ
  have hrmξ : zk_Kr (zk_ev (zt_types, zp_lk, zt_dv, [], [], zp_lc, zK_pk)) = zk_Kr zK_pk := rfl
  rw [hpsξ] at hφ ⊢
  have hφ : zM A zYr zFr M u.1 (zp_n u.2.1) ∧ p0ξ = (A 0 : Int) ∧ zRb M ∧ M 0 47 = -1 ∧ M 3 (2000 + 1) = (n1ξ : Int) ∧ n1ξ ≤ 10 := hφ
  obtain ⟨hMξ, rfl, hRξ, h47ξ, hn1ξ, hn10ξ⟩ := hφ
  have hi1ξ := zp_int tk1
  show zp_J p l e R s m args below meth c Q w u [] 0 [(0, 2, (A 0 : Int)), (1, 0, p1ξ)] [] u.1 (zp_n u.2.1)
  have loop : ∀ (k9ξ w9ξ : Nat), k9ξ + w9ξ = n1ξ → (zd_pk (fun j => M 3 (2000 + j)) (fun j => M 46 (2000 + j)) (fun j => M 44 (2000 + j)) p1ξ n1ξ 0 = zd_pk (fun j => M 3 (2000 + j)) (fun j => M 46 (2000 + j)) (fun j => M 44 (2000 + j)) p1ξ k9ξ w9ξ) → zp_J p l e R s m args below meth c Q w u [] 48 [(2, 0, (w9ξ : Int)), (0, 2, (A 0 : Int)), (1, 0, p1ξ)] [] u.1 (zp_n u.2.1) := by
    intro k9ξ
    induction k9ξ with
    | zero =>
      intro w9ξ hkwξ hzξ
      refine zp_load (pc := 48) hx hb (zd_X12_pick (48, .iload_n 2, 1, 0, []) (List.mem_of_getElem? (i := 28) rfl)) rfl (j := 0) rfl ?_
      refine zp_load (pc := 49) hx hb (zd_X12_pick (49, .aload_n 0, 1, 0, []) (List.mem_of_getElem? (i := 29) rfl)) rfl (j := 1) rfl ?_
      refine zp_getf (n := (A 3 : Int)) (pc := 50) hx hb hEξ hwξ (zd_X12_pick (50, .getfield 13, 3, 0, []) (List.mem_of_getElem? (i := 30) rfl)) (j := 21) rfl rfl rfl (zM_P hMξ (List.mem_of_getElem? (i := 0) rfl)) ((zM_G hMξ (List.mem_of_getElem? (i := 0) rfl) 3).trans (zM_F hMξ (List.mem_of_getElem? (i := 1) rfl))) ?_
      refine zp_const (pc := 53) hx hb (zd_X12_pick (53, .iconst 1, 1, 0, []) (List.mem_of_getElem? (i := 31) rfl)) rfl rfl ?_
      refine zp_ialdT (j := 1) (v := (n1ξ : Int)) (pc := 54) hx hb hwξ (zd_X12_pick (54, .iaload, 1, 0, []) (List.mem_of_getElem? (i := 32) rfl)) zl_T59 rfl (zl_kd 1) (zM_P hMξ (List.mem_of_getElem? (i := 2) rfl)) (by omega) (show 1 < 5580 by omega) ((zM_G hMξ (List.mem_of_getElem? (i := 2) rfl) (2000 + 1)).trans hn1ξ) (fun _ => ?_)
      refine zp_icmp (pc := 55) (tgt := 84) hx hb (zd_X12_pick (55, .if_icmp .ge 29, 3, 0, []) (List.mem_of_getElem? (i := 33) rfl)) rfl (fun (hc45ξ : (n1ξ : Int) ≤ (w9ξ : Int)) => ?_) (fun (hc45ξ : ¬ ((n1ξ : Int) ≤ (w9ξ : Int))) => ?_)
      · refine zp_const (pc := 84) hx hb (zd_X12_pick (84, .iconst (-1), 1, 0, []) (List.mem_of_getElem? (i := 48) rfl)) rfl rfl ?_
        refine zp_iret (pc := 85) (n := (-1)) hx hb hEξ hQξ hU5ξ rfl (by decide) (zd_X12_pick (85, .ireturn, 1, 0, []) (List.mem_of_getElem? (i := 49) rfl)) (j := 0) rfl (zp_o0 (by omega) (by omega) (by omega) (by omega)) ?_
        rw [hpsξ]
        refine ⟨rfl, rfl, ?_⟩
        exact (Eq.symm hzξ)
      · exfalso
        omega
    | succ k9ξ ih =>
      intro w9ξ hkwξ hzξ
      refine zp_load (pc := 48) hx hb (zd_X12_pick (48, .iload_n 2, 1, 0, []) (List.mem_of_getElem? (i := 28) rfl)) rfl (j := 0) rfl ?_
      refine zp_load (pc := 49) hx hb (zd_X12_pick (49, .aload_n 0, 1, 0, []) (List.mem_of_getElem? (i := 29) rfl)) rfl (j := 1) rfl ?_
      refine zp_getf (n := (A 3 : Int)) (pc := 50) hx hb hEξ hwξ (zd_X12_pick (50, .getfield 13, 3, 0, []) (List.mem_of_getElem? (i := 30) rfl)) (j := 21) rfl rfl rfl (zM_P hMξ (List.mem_of_getElem? (i := 0) rfl)) ((zM_G hMξ (List.mem_of_getElem? (i := 0) rfl) 3).trans (zM_F hMξ (List.mem_of_getElem? (i := 1) rfl))) ?_
      refine zp_const (pc := 53) hx hb (zd_X12_pick (53, .iconst 1, 1, 0, []) (List.mem_of_getElem? (i := 31) rfl)) rfl rfl ?_
      refine zp_ialdT (j := 1) (v := (n1ξ : Int)) (pc := 54) hx hb hwξ (zd_X12_pick (54, .iaload, 1, 0, []) (List.mem_of_getElem? (i := 32) rfl)) zl_T59 rfl (zl_kd 1) (zM_P hMξ (List.mem_of_getElem? (i := 2) rfl)) (by omega) (show 1 < 5580 by omega) ((zM_G hMξ (List.mem_of_getElem? (i := 2) rfl) (2000 + 1)).trans hn1ξ) (fun _ => ?_)
      refine zp_icmp (pc := 55) (tgt := 84) hx hb (zd_X12_pick (55, .if_icmp .ge 29, 3, 0, []) (List.mem_of_getElem? (i := 33) rfl)) rfl (fun (hc47ξ : (n1ξ : Int) ≤ (w9ξ : Int)) => ?_) (fun (hc47ξ : ¬ ((n1ξ : Int) ≤ (w9ξ : Int))) => ?_)
      · exfalso
        omega
      · refine zp_load (pc := 58) hx hb (zd_X12_pick (58, .aload_n 0, 1, 0, []) (List.mem_of_getElem? (i := 34) rfl)) rfl (j := 1) rfl ?_
        refine zp_load (pc := 59) hx hb (zd_X12_pick (59, .iload_n 2, 1, 0, []) (List.mem_of_getElem? (i := 35) rfl)) rfl (j := 0) rfl ?_
        refine zp_const (pc := 60) hx hb (zd_X12_pick (60, .iconst 0, 1, 0, []) (List.mem_of_getElem? (i := 36) rfl)) rfl rfl ?_
        have hr49ξ := hRξ (5 * w9ξ + 39) (by omega)
        refine zp_call (pc := 61) (how := 0) (idx := 188) (mi := 196) (S := []) hx hb hEξ hwξ heffξ hrmξ (zX_ofw hWξ A M w9ξ 0) rfl (j := 7) rfl rfl (by decide +kernel) (zd_X12_pick (61, .invokevirtual 188, 3, 0, []) (List.mem_of_getElem? (i := 37) rfl)) [(A 0 : Int), (w9ξ : Int), 0] rfl ⟨zp_o2 (zM_P hMξ (List.mem_of_getElem? (i := 0) rfl)), zp_o0 (by omega) (by omega) (by omega) (by omega), zp_o0 (by decide) (by decide) (by decide) (by decide), trivial⟩ (Nat.le_of_ble_eq_true rfl) ⟨hMξ, rfl, (show (w9ξ : Int) = ((w9ξ : Nat) : Int) by omega), rfl, (show -2147483648 ≤ M 3 (2000 + (5 * w9ξ + 39)) ∧ M 3 (2000 + (5 * w9ξ + 39)) ≤ 2147483647 by omega)⟩ (fun al halξ rnf48ξ Pf48 Gf48 hextf48ξ hfrf48ξ hokf48ξ hcsf48ξ hpsif48ξ => ?_)
        obtain rfl := List.mem_singleton.mp halξ
        have hrf48ξ := zp_int (hokf48ξ _ rfl).1
        obtain ⟨hPef48ξ, hGef48ξ, htf48ξ⟩ := hpsif48ξ
        rw [hPef48ξ, hGef48ξ]
        clear hextf48ξ hfrf48ξ hcsf48ξ hPef48ξ hGef48ξ
        have htf48ξ : rnf48ξ = (M 3 (2000 + (5 * w9ξ + 39))) := htf48ξ
        have htf48ξ := (Eq.symm htf48ξ)
        subst htf48ξ
        refine zp_load (pc := 64) hx hb (zd_X12_pick (64, .iload_n 1, 1, 0, []) (List.mem_of_getElem? (i := 38) rfl)) rfl (j := 2) rfl ?_
        refine zp_icmp (pc := 65) (tgt := 78) hx hb (zd_X12_pick (65, .if_icmp .ne 13, 3, 0, []) (List.mem_of_getElem? (i := 39) rfl)) rfl (fun (hc50ξ : ¬ (M 3 (2000 + (5 * w9ξ + 39))) = p1ξ) => ?_) (fun (hc50ξ : ¬ (¬ (M 3 (2000 + (5 * w9ξ + 39))) = p1ξ)) => ?_)
        · refine zp_iinc (L' := [(2, 0, ((w9ξ : Int) + 1)), (0, 2, (A 0 : Int)), (1, 0, p1ξ)]) (n := ((w9ξ : Int) + 1)) (pc := 78) hx hb hnLξ (zd_X12_pick (78, .iinc 2 1, 3, 0, []) (List.mem_of_getElem? (i := 46) rfl)) (j := 0) rfl (by omega) (zp_r0 (by omega) (by omega)) rfl rfl ?_
          refine zp_goto (tgt := 48) (pc := 81) hx hb (zd_X12_pick (81, .goto (-33), 3, 0, []) (List.mem_of_getElem? (i := 47) rfl)) rfl ?_
          refine ih (w9ξ + 1) (by omega) ((Eq.trans hzξ) ?_)
          rw [zd_pk, if_neg]
          rintro ⟨z1, z2⟩
          omega
        · refine zp_load (pc := 68) hx hb (zd_X12_pick (68, .aload_n 0, 1, 0, []) (List.mem_of_getElem? (i := 40) rfl)) rfl (j := 1) rfl ?_
          refine zp_load (pc := 69) hx hb (zd_X12_pick (69, .iload_n 2, 1, 0, []) (List.mem_of_getElem? (i := 41) rfl)) rfl (j := 0) rfl ?_
          refine zp_call (pc := 70) (how := 0) (idx := 442) (mi := 251) (S := []) hx hb hEξ hwξ heffξ hrmξ (zX_cgo hWξ A M w9ξ) rfl (j := 50) rfl rfl (by decide +kernel) (zd_X12_pick (70, .invokevirtual 442, 3, 0, []) (List.mem_of_getElem? (i := 42) rfl)) [(A 0 : Int), (w9ξ : Int)] rfl ⟨zp_o2 (zM_P hMξ (List.mem_of_getElem? (i := 0) rfl)), zp_o0 (by omega) (by omega) (by omega) (by omega), trivial⟩ (Nat.le_of_ble_eq_true rfl) ⟨hMξ, rfl, (show (w9ξ : Int) = ((w9ξ : Nat) : Int) by omega), by omega, hRξ (5 * w9ξ + 40) (by omega)⟩ (fun al halξ rng51ξ Pg51 Gg51 hextg51ξ hfrg51ξ hokg51ξ hcsg51ξ hpsig51ξ => ?_)
          obtain rfl := List.mem_singleton.mp halξ
          have hrg51ξ := zp_int (hokg51ξ _ rfl).1
          obtain ⟨hPeg51ξ, hGeg51ξ, htg51ξ⟩ := hpsig51ξ
          rw [hPeg51ξ, hGeg51ξ]
          clear hextg51ξ hfrg51ξ hcsg51ξ hPeg51ξ hGeg51ξ
          have htg51ξ : rng51ξ = 1 ↔ M 46 (2000 + w9ξ) = 1 ∧ M 44 (2000 + w9ξ) < M 3 (2000 + (5 * w9ξ + 40)) := htg51ξ
          refine zp_if (pc := 73) (tgt := 78) hx hb (zd_X12_pick (73, .ifCond .eq 5, 3, 0, []) (List.mem_of_getElem? (i := 43) rfl)) rfl (fun (hc52ξ : rng51ξ = 0) => ?_) (fun (hc52ξ : ¬ (rng51ξ = 0)) => ?_)
          · refine zp_iinc (L' := [(2, 0, ((w9ξ : Int) + 1)), (0, 2, (A 0 : Int)), (1, 0, p1ξ)]) (n := ((w9ξ : Int) + 1)) (pc := 78) hx hb hnLξ (zd_X12_pick (78, .iinc 2 1, 3, 0, []) (List.mem_of_getElem? (i := 46) rfl)) (j := 0) rfl (by omega) (zp_r0 (by omega) (by omega)) rfl rfl ?_
            refine zp_goto (tgt := 48) (pc := 81) hx hb (zd_X12_pick (81, .goto (-33), 3, 0, []) (List.mem_of_getElem? (i := 47) rfl)) rfl ?_
            refine ih (w9ξ + 1) (by omega) ((Eq.trans hzξ) ?_)
            rw [zd_pk, if_neg]
            rintro ⟨z1, z2⟩
            have := (Iff.mpr htg51ξ) z2
            omega
          · refine zp_load (pc := 76) hx hb (zd_X12_pick (76, .iload_n 2, 1, 0, []) (List.mem_of_getElem? (i := 44) rfl)) rfl (j := 0) rfl ?_
            refine zp_iret (pc := 77) (n := (w9ξ : Int)) hx hb hEξ hQξ hU5ξ rfl (by decide) (zd_X12_pick (77, .ireturn, 1, 0, []) (List.mem_of_getElem? (i := 45) rfl)) (j := 0) rfl (zp_o0 (by omega) (by omega) (by omega) (by omega)) ?_
            rw [hpsξ]
            refine ⟨rfl, rfl, ?_⟩
            refine Eq.trans ?_ (Eq.symm hzξ)
            rw [zd_pk, if_pos ⟨by omega, (Iff.mp htg51ξ) (by omega)⟩]
  refine zp_load (pc := 0) hx hb (zd_X12_pick (0, .iload_n 1, 1, 0, []) (List.mem_of_getElem? (i := 0) rfl)) rfl (j := 1) rfl ?_
  refine zp_load (pc := 1) hx hb (zd_X12_pick (1, .aload_n 0, 1, 0, []) (List.mem_of_getElem? (i := 1) rfl)) rfl (j := 0) rfl ?_
  refine zp_getf (n := (-1)) (pc := 2) hx hb hEξ hwξ (zd_X12_pick (2, .getfield 128, 3, 0, []) (List.mem_of_getElem? (i := 2) rfl)) (j := 65) rfl rfl rfl (zM_P hMξ (List.mem_of_getElem? (i := 0) rfl)) ((zM_G hMξ (List.mem_of_getElem? (i := 0) rfl) 47).trans h47ξ) ?_
  refine zp_icmp (pc := 5) (tgt := 46) hx hb (zd_X12_pick (5, .if_icmp .ne 41, 3, 0, []) (List.mem_of_getElem? (i := 3) rfl)) rfl (fun (hc53ξ : ¬ p1ξ = (-1)) => ?_) (fun (hc53ξ : ¬ (¬ p1ξ = (-1))) => ?_)
  · refine zp_const (pc := 46) hx hb (zd_X12_pick (46, .iconst 0, 1, 0, []) (List.mem_of_getElem? (i := 26) rfl)) rfl rfl ?_
    refine zp_store (L' := [(2, 0, 0), (0, 2, (A 0 : Int)), (1, 0, p1ξ)]) (pc := 47) hx hb hnLξ (zd_X12_pick (47, .istore_n 2, 1, 0, []) (List.mem_of_getElem? (i := 27) rfl)) rfl rfl rfl ?_
    exact loop n1ξ 0 (by omega) rfl
  · exfalso
    omega
