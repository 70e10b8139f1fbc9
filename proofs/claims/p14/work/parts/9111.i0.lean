/-! part i0: the class over logical cells: its world, accessors -/
noncomputable def zYc : List (Nat × Nat) := [(0, 12), (1, 10), (2, 2), (3, 11), (4, 6), (5, 0), (6, 1), (7, 2), (8, 2), (9, 2), (10, 11), (11, 7), (12, 5), (13, 8), (20, 57), (21, 56), (22, 55), (30, 42), (31, 43), (32, 44), (33, 45), (34, 46), (35, 47), (36, 48), (37, 49), (38, 50), (39, 51), (40, 52), (50, 17), (51, 18), (52, 19), (53, 17), (54, 18), (55, 19), (56, 17), (57, 18), (58, 19), (59, 17), (60, 18), (61, 19), (62, 53), (63, 54), (64, 53), (65, 54), (66, 27), (67, 28), (68, 14), (69, 15), (70, 16), (71, 29)]
noncomputable def zFc : List (Nat × Nat × Nat) := [(0, 0, 1), (0, 1, 22), (0, 2, 3), (0, 3, 4), (0, 4, 5), (0, 7, 6), (0, 8, 11), (0, 9, 12), (0, 10, 9), (0, 11, 10), (0, 12, 21), (0, 16, 8), (0, 19, 20), (1, 0, 30), (1, 2, 31), (1, 4, 32), (1, 5, 33), (1, 6, 34), (1, 7, 35), (1, 8, 36), (1, 10, 37), (1, 11, 38), (1, 12, 39), (1, 13, 40), (1, 18, 2), (2, 0, 50), (2, 1, 51), (2, 2, 52), (7, 0, 53), (7, 1, 54), (7, 2, 55), (8, 0, 56), (8, 1, 57), (8, 2, 58), (9, 0, 59), (9, 1, 60), (9, 2, 61), (3, 0, 62), (3, 1, 63), (10, 0, 64), (10, 1, 65), (4, 0, 66), (4, 1, 67), (5, 0, 4), (5, 3, 68), (5, 4, 69), (5, 5, 70), (6, 0, 7), (11, 0, 71), (12, 0, 11), (12, 1, 13)]
/-- fields that say which cell is which, of what comes to be later -/
noncomputable def zTF : List (Nat × Nat) := [(9, 0), (9, 1), (9, 2), (9, 3), (9, 4), (9, 5), (10, 0), (10, 2), (10, 4), (10, 5), (10, 6), (10, 7), (10, 8), (10, 10), (10, 11), (10, 12), (10, 13), (10, 18), (2, 0), (2, 1), (2, 2), (93, 0), (93, 2), (93, 4), (93, 5), (93, 6), (93, 7), (93, 8), (93, 10), (93, 11), (93, 12), (93, 13), (93, 18)]
/-- the world hasξ these cells; what is known of others begins at 100 -/
noncomputable def zTY : List Nat := [9, 36, 37, 38, 39, 40, 41, 10, 42, 43, 44, 45, 46, 47, 48, 49, 50, 51, 52, 2, 17, 18, 19, 93]
noncomputable def zMc (Y : List (Nat × Nat)) (F : List (Nat × Nat × Nat)) : Prop := (∀ q ∈ zYc, q ∈ Y) ∧ (∀ r ∈ zFc, r ∈ F) ∧ (∀ r ∈ F, r ∈ zFc ∨ (100 ≤ r.1 ∧ ∃ t, (r.1, t) ∈ Y ∧ (t, r.2.1) ∈ zTF)) ∧ ∀ q ∈ Y, q ∈ zYc ∨ (100 ≤ q.1 ∧ q.2 ∈ zTY)
theorem zFx {Y : List (Nat × Nat)} {F : List (Nat × Nat × Nat)} (h : ∀ r ∈ F, r ∈ zFc ∨ (100 ≤ r.1 ∧ ∃ t, (r.1, t) ∈ Y ∧ (t, r.2.1) ∈ zTF)) {o k : Nat} (hoξ : o < 100) (hkξ : ∀ r ∈ zFc, r.1 = o → r.2.1 ≠ k) : ∀ r ∈ F, r.1 = o → r.2.1 ≠ k := fun r hrξ e => (h r hrξ).elim (fun z => hkξ r z e) (fun z => by have := z.1; omega)
/-- effects that name none of the fields that say which cell is which -/
theorem zMc_fx {Y : List (Nat × Nat)} {F : List (Nat × Nat × Nat)} (h : zMc Y F) {eff : List (Nat × Nat × Nat)} (h1ξ : zFc.all (fun r => zYc.any (fun q => q.1 == r.1 && zp_nfb eff q.2 r.2.1)) = true) (h2ξ : zTF.all (fun q => zp_nfb eff q.1 q.2) = true) : zM_fx Y F eff := fun r hrξ => by
  rcases h.2.2.1 r hrξ with h3ξ | ⟨-, t, h4ξ, h5ξ⟩
  · obtain ⟨q, q1, q2⟩ := List.any_eq_true.mp (List.all_eq_true.mp h1ξ r h3ξ)
    rw [Bool.and_eq_true, beq_iff_eq] at q2
    exact ⟨q.2, by rw [← q2.1]; exact h.1 _ q1, q2.2⟩
  · exact ⟨t, h4ξ, List.all_eq_true.mp h2ξ _ h5ξ⟩
/-- behind a question to the rules: words and stack alone may have changed -/
theorem zM_rul {A : Nat → Nat} {Y : List (Nat × Nat)} {F : List (Nat × Nat × Nat)} {M : Nat → Nat → Int} {P P' : Nat → Option Nat} {G G' : Nat → Nat → Int} {ps : List Int} (h : zM A Y F M P G) (hYFξ : zMc Y F) (hfrξ : zp_fr [(27, 1001, 0), (28, 1001, 0)] ps P G G') (hextξ : ∀ a t, P a = some t → P' a = some t) : ∃ M', zM A Y F M' P' G' ∧ (∀ o k, o ≠ 66 → o ≠ 67 → M' o k = M o k) ∧ ∀ k, M' 66 k = G' (A 66) k := by
  obtain ⟨h1ξ, h2ξ, h3ξ, h4ξ⟩ := h
  obtain ⟨y1, y2, y3, y4⟩ := hYFξ
  refine ⟨fun o k => if o = 66 ∨ o = 67 then G' (A o) k else M o k, ⟨fun q hqξ => ⟨hextξ _ _ (h1ξ q hqξ).1, fun k => ?_⟩, fun r hrξ => ?_, h3ξ, h4ξ⟩, fun o k e1 e2 => if_neg (fun z => z.elim e1 e2), fun k => if_pos (Or.inl rfl)⟩
  · show G' (A q.1) k = if q.1 = 66 ∨ q.1 = 67 then G' (A q.1) k else M q.1 k
    by_cases e : q.1 = 66 ∨ q.1 = 67
    · rw [if_pos e]
    · rw [if_neg e]
      have h5ξ : zp_ncb [(27, 1001, 0), (28, 1001, 0)] q.2 = true := by
        rcases y4 q hqξ with h6ξ | ⟨-, h6ξ⟩
        · have h7ξ : ∀ q ∈ zYc, (q.1 = 66 ∨ q.1 = 67) ∨ zp_ncb [(27, 1001, 0), (28, 1001, 0)] q.2 = true := by decide
          exact (h7ξ q h6ξ).resolve_left e
        · have h7ξ : ∀ t ∈ zTY, zp_ncb [(27, 1001, 0), (28, 1001, 0)] t = true := by decide
          exact h7ξ _ h6ξ
      rw [zp_nc hfrξ (h1ξ q hqξ).1 h5ξ k]
      exact (h1ξ q hqξ).2 k
  · show (if r.1 = 66 ∨ r.1 = 67 then G' (A r.1) r.2.1 else M r.1 r.2.1) = _
    rw [if_neg (fun e => by
      rcases y3 r hrξ with h6ξ | ⟨h6ξ, -⟩
      · have h7ξ : ∀ r ∈ zFc, ¬ (r.1 = 66 ∨ r.1 = 67) := by decide
        exact h7ξ r h6ξ e
      · omega)]
    exact h2ξ r hrξ
/-- cells that are no scratch -/
abbrev zNc (o : Nat) : Prop := ¬ o ∈ [4, 5, 13, 21, 66, 67, 68, 69, 70]
noncomputable def zMVc (A : Nat → Nat) (Y : List (Nat × Nat)) (F : List (Nat × Nat × Nat)) (V : Nat → Nat → Int) (P : Nat → Option Nat) (G : Nat → Nat → Int) : Prop := ∃ M, zM A Y F M P G ∧ (∀ o k, zNc o → M o k = V o k) ∧ True
noncomputable def zp_lkDy : List zk_L := zt_lk_WoundTown_Day.map (fun r => r.1)
noncomputable def zp_lcDy : List (Nat × Nat × Nat) := [(0, 66, 105), (0, 36, 90), (0, 42, 106), (1, 60, 107), (0, 69, 108), (0, 90, 109), (0, 115, 110), (0, 119, 26), (0, 99, 111), (0, 77, 112), (0, 83, 113), (4, 122, 15), (0, 126, 22), (0, 129, 129), (0, 135, 135)]
theorem zp_lkallDy : (zp_lkDy.all (zt_lkin "WoundTown$Day") && zp_lcDy.all (zt_lcin "WoundTown$Day")) = true := by decide +kernel
noncomputable def zp_lkDc : List zk_L := zt_lk_WoundTown_Decade.map (fun r => r.1)
noncomputable def zp_lcDc : List (Nat × Nat × Nat) := zt_lc_WoundTown_Decade.map (fun r => r.1)
theorem zp_lkallDc : (zp_lkDc.all (zt_lkin "WoundTown$Decade") && zp_lcDc.all (zt_lcin "WoundTown$Decade")) = true := by decide +kernel
noncomputable def zp_lkU : List zk_L := zt_lk_WoundTown_Undo.map (fun r => r.1)
noncomputable def zp_lcU : List (Nat × Nat × Nat) := zt_lc_WoundTown_Undo.map (fun r => r.1)
theorem zp_lkallU : (zp_lkU.all (zt_lkin "WoundTown$Undo") && zp_lcU.all (zt_lcin "WoundTown$Undo")) = true := by decide +kernel
noncomputable def zK_art : zk_K := (zt_mn 86, prog_1_method_54_code, 1, (Option.some Jvm.ClassFile.FieldType.boolean), 0, 11, [(0, 0, (-2147483648), 2147483647)], [(some (0, 0, 0, 1), [])], [], (1, 60, 0, 0))
noncomputable def zψ_art : (Nat → Option Nat) → (Nat → Nat → Int) → List Int → (Nat → Option Nat) → (Nat → Nat → Int) → Int → Prop := fun P G ps P' G' rn => P' = P ∧ G' = G ∧ (rn = 1 ↔ 0 ≤ ps.getD 0 0 ∧ ps.getD 0 0 ≤ 12)
theorem zX_art {l : Launch} {w : zk_W} (hWξ : zh_W w) : zk_metX l w zt_dv zt_TB zK_art (zp_A zp_tA) (zp_B zψ_art) ∧ zk_cok w zt_TB zK_art := by
  refine zp_methX (cn := "WoundTown") zp_lkallW hWξ (pl := 921) rfl (by decide +kernel) (fun p e R s m args below meth c Q u hx hb hEξ hQξ hU5ξ heffξ hnLξ hokξ hφ => ?_)
  have hwξ := hWξ.1
  obtain ⟨p0ξ, hpsξ, k0⟩ := zp_ps1 hokξ
  have hrmξ : zk_Kr (zk_ev (zt_types, zp_lkW, zt_dv, [], [], zp_lcW, zK_art)) = zk_Kr zK_art := rfl
  rw [hpsξ] at hφ ⊢
  have hi0ξ := zp_int k0
  show zp_J p l e R s m args below meth c Q w u [] 0 [(0, 0, p0ξ)] [] u.1 (zp_n u.2.1)
  refine zp_load (pc := 0) hx hb (zd_X11_areTurns (0, .iload_n 0, 1, 0, []) (List.mem_of_getElem? (i := 0) rfl)) rfl (j := 0) rfl ?_
  refine zp_const (pc := 1) hx hb (zd_X11_areTurns (1, .iconst 0, 1, 0, []) (List.mem_of_getElem? (i := 1) rfl)) rfl rfl ?_
  refine zp_const (pc := 2) hx hb (zd_X11_areTurns (2, .bipush 12, 2, 0, []) (List.mem_of_getElem? (i := 2) rfl)) rfl rfl ?_
  refine zp_call (pc := 4) (how := 1) (idx := 107) (mi := 15) (S := []) hx hb hEξ hwξ heffξ hrmξ (zX_iwn hWξ) rfl (j := 10) rfl rfl (by decide +kernel) (zd_X11_areTurns (4, .invokestatic 107, 3, 0, []) (List.mem_of_getElem? (i := 3) rfl)) [p0ξ, 0, 12] rfl ⟨zp_o0 (by omega) (by omega) (by omega) (by omega), zp_o0 (by omega) (by omega) (by omega) (by omega), zp_o0 (by omega) (by omega) (by omega) (by omega), trivial⟩ (Nat.le_of_ble_eq_true rfl) trivial (fun al halξ rnn21ξ Pn21 Gn21 hextn21ξ hfrn21ξ hokn21ξ hcsn21ξ hpsin21ξ => ?_)
  obtain rfl := List.mem_singleton.mp halξ
  have hrn21ξ := zp_int (hokn21ξ _ rfl).1
  obtain ⟨hPen21ξ, hGen21ξ, htn21ξ⟩ := hpsin21ξ
  rw [hPen21ξ, hGen21ξ]
  clear hextn21ξ hfrn21ξ hcsn21ξ hPen21ξ hGen21ξ
  have htn21ξ : rnn21ξ = 1 ↔ 0 ≤ p0ξ ∧ p0ξ ≤ 12 := htn21ξ
  refine zp_zret (pc := 7) (n := rnn21ξ) hx hb hEξ hQξ hU5ξ rfl (by decide) (zd_X11_areTurns (7, .ireturn, 1, 0, []) (List.mem_of_getElem? (i := 4) rfl)) (j := 0) rfl (zp_o0 (by omega) (by omega) (by omega) (by omega)) ?_
  rw [hpsξ]
  refine ⟨rfl, rfl, ?_⟩
  show (rnn21ξ : Int) = 1 ↔ 0 ≤ p0ξ ∧ p0ξ ≤ 12
  omega
noncomputable def zK_hpe1 : zk_K := (zt_mn 22, prog_11_method_3_code, 2, (Option.some Jvm.ClassFile.FieldType.boolean), 1, 9, [(2, 10, 0, 0), (0, 0, (-2147483648), 2147483647)], [(some (0, 0, 0, 1), [])], [], (0, 0, 0, 0))
noncomputable def zφ_hpe1 (A : Nat → Nat) (Y : List (Nat × Nat)) (F : List (Nat × Nat × Nat)) (M : Nat → Nat → Int) : (Nat → Option Nat) → (Nat → Nat → Int) → List Int → Prop := fun P G ps => zM A Y F M P G ∧ ps.getD 0 0 = (A 1 : Int) ∧ zMc Y F
noncomputable def zψ_hpe1 (A : Nat → Nat) (Y : List (Nat × Nat)) (F : List (Nat × Nat × Nat)) (M : Nat → Nat → Int) : (Nat → Option Nat) → (Nat → Nat → Int) → List Int → (Nat → Option Nat) → (Nat → Nat → Int) → Int → Prop := fun P G ps P' G' rn => P' = P ∧ G' = G ∧ (rn = 1 ↔ 0 ≤ (ps.getD 1 0) ∧ (ps.getD 1 0) < M 1 1 ∧ (ps.getD 1 0) < 6)
theorem zX_hpe1 {l : Launch} {w : zk_W} (hWξ : zh_W w) (A : Nat → Nat) (Y : List (Nat × Nat)) (F : List (Nat × Nat × Nat)) (M : Nat → Nat → Int) : zk_metX l w zt_dv zt_TB zK_hpe1 (zp_A (zφ_hpe1 A Y F M)) (zp_B (zψ_hpe1 A Y F M)) ∧ zk_cok w zt_TB zK_hpe1 := by
  refine zp_methX (cn := "WoundTown$Town") zp_lkallN hWξ (pl := 635) rfl (by decide +kernel) (fun p e R s m args below meth c Q u hx hb hEξ hQξ hU5ξ heffξ hnLξ hokξ hφ => ?_)
  have hwξ := hWξ.1
  obtain ⟨p0ξ, p1ξ, hpsξ, tk0, tk1⟩ := zp_ps2 hokξ
  have hrmξ : zk_Kr (zk_ev (zt_types, zp_lkN, zt_dv, [], [], zp_lcN, zK_hpe1)) = zk_Kr zK_hpe1 := rfl
  rw [hpsξ] at hφ ⊢
  have hφ : zM A Y F M u.1 (zp_n u.2.1) ∧ p0ξ = (A 1 : Int) ∧ zMc Y F := hφ
  obtain ⟨hMξ, rfl, hYFξ⟩ := hφ
  have hYF0ξ := hYFξ
  obtain ⟨hYbξ, hFbξ, hFxξ, -⟩ := hYFξ
  have hi1ξ := zp_int tk1
  show zp_J p l e R s m args below meth c Q w u [] 0 [(0, 2, (A 1 : Int)), (1, 0, p1ξ)] [] u.1 (zp_n u.2.1)
  refine zp_load (pc := 0) hx hb (zd_X9_hasPerson (0, .iload_n 1, 1, 0, []) (List.mem_of_getElem? (i := 0) rfl)) rfl (j := 1) rfl ?_
  refine zp_if (pc := 1) (tgt := 22) hx hb (zd_X9_hasPerson (1, .ifCond .lt 21, 3, 0, []) (List.mem_of_getElem? (i := 1) rfl)) rfl (fun (hc22ξ : p1ξ < 0) => ?_) (fun (hc22ξ : ¬ (p1ξ < 0)) => ?_)
  · refine zp_const (pc := 22) hx hb (zd_X9_hasPerson (22, .iconst 0, 1, 0, []) (List.mem_of_getElem? (i := 11) rfl)) rfl rfl ?_
    refine zp_zret (pc := 23) (n := 0) hx hb hEξ hQξ hU5ξ rfl (by decide) (zd_X9_hasPerson (23, .ireturn, 1, 0, []) (List.mem_of_getElem? (i := 12) rfl)) (j := 0) rfl (zp_o0 (by omega) (by omega) (by omega) (by omega)) ?_
    rw [hpsξ]
    refine ⟨rfl, rfl, ?_⟩
    show (0 : Int) = 1 ↔ 0 ≤ p1ξ ∧ p1ξ < M 1 1 ∧ p1ξ < 6
    omega
  · refine zp_load (pc := 4) hx hb (zd_X9_hasPerson (4, .iload_n 1, 1, 0, []) (List.mem_of_getElem? (i := 2) rfl)) rfl (j := 1) rfl ?_
    refine zp_load (pc := 5) hx hb (zd_X9_hasPerson (5, .aload_n 0, 1, 0, []) (List.mem_of_getElem? (i := 3) rfl)) rfl (j := 0) rfl ?_
    refine zp_getf (n := (M 1 1)) (pc := 6) hx hb hEξ hwξ (zd_X9_hasPerson (6, .getfield 68, 3, 0, []) (List.mem_of_getElem? (i := 4) rfl)) (j := 8) rfl rfl rfl (zM_P hMξ (hYbξ _ (List.mem_of_getElem? (i := 1) rfl))) (zM_G hMξ (hYbξ _ (List.mem_of_getElem? (i := 1) rfl)) 1) ?_
    refine zp_kn (k := 1) (a := (A 1)) hwξ (show zp_fd 10 1 = some (9, 0, 0, 0, 6) from rfl) rfl (zM_P hMξ (hYbξ _ (List.mem_of_getElem? (i := 1) rfl))) (fun hf23ξ => ?_)
    have hf23bξ := zp_int hf23ξ
    rw [(zM_G hMξ (hYbξ _ (List.mem_of_getElem? (i := 1) rfl)) 1)] at hf23bξ
    clear hf23ξ
    refine zp_icmp (pc := 9) (tgt := 22) hx hb (zd_X9_hasPerson (9, .if_icmp .ge 13, 3, 0, []) (List.mem_of_getElem? (i := 5) rfl)) rfl (fun (hc24ξ : (M 1 1) ≤ p1ξ) => ?_) (fun (hc24ξ : ¬ ((M 1 1) ≤ p1ξ)) => ?_)
    · refine zp_const (pc := 22) hx hb (zd_X9_hasPerson (22, .iconst 0, 1, 0, []) (List.mem_of_getElem? (i := 11) rfl)) rfl rfl ?_
      refine zp_zret (pc := 23) (n := 0) hx hb hEξ hQξ hU5ξ rfl (by decide) (zd_X9_hasPerson (23, .ireturn, 1, 0, []) (List.mem_of_getElem? (i := 12) rfl)) (j := 0) rfl (zp_o0 (by omega) (by omega) (by omega) (by omega)) ?_
      rw [hpsξ]
      refine ⟨rfl, rfl, ?_⟩
      show (0 : Int) = 1 ↔ 0 ≤ p1ξ ∧ p1ξ < M 1 1 ∧ p1ξ < 6
      omega
    · refine zp_load (pc := 12) hx hb (zd_X9_hasPerson (12, .iload_n 1, 1, 0, []) (List.mem_of_getElem? (i := 6) rfl)) rfl (j := 1) rfl ?_
      refine zp_const (pc := 13) hx hb (zd_X9_hasPerson (13, .bipush 6, 2, 0, []) (List.mem_of_getElem? (i := 7) rfl)) rfl rfl ?_
      refine zp_icmp (pc := 15) (tgt := 22) hx hb (zd_X9_hasPerson (15, .if_icmp .ge 7, 3, 0, []) (List.mem_of_getElem? (i := 8) rfl)) rfl (fun (hc25ξ : 6 ≤ p1ξ) => ?_) (fun (hc25ξ : ¬ (6 ≤ p1ξ)) => ?_)
      · exfalso
        omega
      · refine zp_const (pc := 18) hx hb (zd_X9_hasPerson (18, .iconst 1, 1, 0, []) (List.mem_of_getElem? (i := 9) rfl)) rfl rfl ?_
        refine zp_goto (tgt := 23) (pc := 19) hx hb (zd_X9_hasPerson (19, .goto 4, 3, 0, []) (List.mem_of_getElem? (i := 10) rfl)) rfl ?_
        refine zp_zret (pc := 23) (n := 1) hx hb hEξ hQξ hU5ξ rfl (by decide) (zd_X9_hasPerson (23, .ireturn, 1, 0, []) (List.mem_of_getElem? (i := 12) rfl)) (j := 0) rfl (zp_o0 (by omega) (by omega) (by omega) (by omega)) ?_
        rw [hpsξ]
        refine ⟨rfl, rfl, ?_⟩
        show (1 : Int) = 1 ↔ 0 ≤ p1ξ ∧ p1ξ < M 1 1 ∧ p1ξ < 6
        omega
noncomputable def zK_hwo1 : zk_K := (zt_mn 26, prog_11_method_4_code, 2, (Option.some Jvm.ClassFile.FieldType.boolean), 1, 9, [(2, 10, 0, 0), (0, 0, (-2147483648), 2147483647)], [(some (0, 0, 0, 1), [])], [], (0, 0, 0, 0))
noncomputable def zφ_hwo1 (A : Nat → Nat) (Y : List (Nat × Nat)) (F : List (Nat × Nat × Nat)) (M : Nat → Nat → Int) : (Nat → Option Nat) → (Nat → Nat → Int) → List Int → Prop := fun P G ps => zM A Y F M P G ∧ ps.getD 0 0 = (A 1 : Int) ∧ zMc Y F
noncomputable def zψ_hwo1 (A : Nat → Nat) (Y : List (Nat × Nat)) (F : List (Nat × Nat × Nat)) (M : Nat → Nat → Int) : (Nat → Option Nat) → (Nat → Nat → Int) → List Int → (Nat → Option Nat) → (Nat → Nat → Int) → Int → Prop := fun P G ps P' G' rn => P' = P ∧ G' = G ∧ (rn = 1 ↔ 0 ≤ (ps.getD 1 0) ∧ (ps.getD 1 0) < M 1 3 ∧ (ps.getD 1 0) < 10)
theorem zX_hwo1 {l : Launch} {w : zk_W} (hWξ : zh_W w) (A : Nat → Nat) (Y : List (Nat × Nat)) (F : List (Nat × Nat × Nat)) (M : Nat → Nat → Int) : zk_metX l w zt_dv zt_TB zK_hwo1 (zp_A (zφ_hwo1 A Y F M)) (zp_B (zψ_hwo1 A Y F M)) ∧ zk_cok w zt_TB zK_hwo1 := by
  refine zp_methX (cn := "WoundTown$Town") zp_lkallN hWξ (pl := 651) rfl (by decide +kernel) (fun p e R s m args below meth c Q u hx hb hEξ hQξ hU5ξ heffξ hnLξ hokξ hφ => ?_)
  have hwξ := hWξ.1
  obtain ⟨p0ξ, p1ξ, hpsξ, tk0, tk1⟩ := zp_ps2 hokξ
  have hrmξ : zk_Kr (zk_ev (zt_types, zp_lkN, zt_dv, [], [], zp_lcN, zK_hwo1)) = zk_Kr zK_hwo1 := rfl
  rw [hpsξ] at hφ ⊢
  have hφ : zM A Y F M u.1 (zp_n u.2.1) ∧ p0ξ = (A 1 : Int) ∧ zMc Y F := hφ
  obtain ⟨hMξ, rfl, hYFξ⟩ := hφ
  have hYF0ξ := hYFξ
  obtain ⟨hYbξ, hFbξ, hFxξ, -⟩ := hYFξ
  have hi1ξ := zp_int tk1
  show zp_J p l e R s m args below meth c Q w u [] 0 [(0, 2, (A 1 : Int)), (1, 0, p1ξ)] [] u.1 (zp_n u.2.1)
  refine zp_load (pc := 0) hx hb (zd_X9_hasWork (0, .iload_n 1, 1, 0, []) (List.mem_of_getElem? (i := 0) rfl)) rfl (j := 1) rfl ?_
  refine zp_if (pc := 1) (tgt := 22) hx hb (zd_X9_hasWork (1, .ifCond .lt 21, 3, 0, []) (List.mem_of_getElem? (i := 1) rfl)) rfl (fun (hc26ξ : p1ξ < 0) => ?_) (fun (hc26ξ : ¬ (p1ξ < 0)) => ?_)
  · refine zp_const (pc := 22) hx hb (zd_X9_hasWork (22, .iconst 0, 1, 0, []) (List.mem_of_getElem? (i := 11) rfl)) rfl rfl ?_
    refine zp_zret (pc := 23) (n := 0) hx hb hEξ hQξ hU5ξ rfl (by decide) (zd_X9_hasWork (23, .ireturn, 1, 0, []) (List.mem_of_getElem? (i := 12) rfl)) (j := 0) rfl (zp_o0 (by omega) (by omega) (by omega) (by omega)) ?_
    rw [hpsξ]
    refine ⟨rfl, rfl, ?_⟩
    show (0 : Int) = 1 ↔ 0 ≤ p1ξ ∧ p1ξ < M 1 3 ∧ p1ξ < 10
    omega
  · refine zp_load (pc := 4) hx hb (zd_X9_hasWork (4, .iload_n 1, 1, 0, []) (List.mem_of_getElem? (i := 2) rfl)) rfl (j := 1) rfl ?_
    refine zp_load (pc := 5) hx hb (zd_X9_hasWork (5, .aload_n 0, 1, 0, []) (List.mem_of_getElem? (i := 3) rfl)) rfl (j := 0) rfl ?_
    refine zp_getf (n := (M 1 3)) (pc := 6) hx hb hEξ hwξ (zd_X9_hasWork (6, .getfield 71, 3, 0, []) (List.mem_of_getElem? (i := 4) rfl)) (j := 10) rfl rfl rfl (zM_P hMξ (hYbξ _ (List.mem_of_getElem? (i := 1) rfl))) (zM_G hMξ (hYbξ _ (List.mem_of_getElem? (i := 1) rfl)) 3) ?_
    refine zp_kn (k := 3) (a := (A 1)) hwξ (show zp_fd 10 3 = some (9, 0, 0, 0, 10) from rfl) rfl (zM_P hMξ (hYbξ _ (List.mem_of_getElem? (i := 1) rfl))) (fun hf27ξ => ?_)
    have hf27bξ := zp_int hf27ξ
    rw [(zM_G hMξ (hYbξ _ (List.mem_of_getElem? (i := 1) rfl)) 3)] at hf27bξ
    clear hf27ξ
    refine zp_icmp (pc := 9) (tgt := 22) hx hb (zd_X9_hasWork (9, .if_icmp .ge 13, 3, 0, []) (List.mem_of_getElem? (i := 5) rfl)) rfl (fun (hc28ξ : (M 1 3) ≤ p1ξ) => ?_) (fun (hc28ξ : ¬ ((M 1 3) ≤ p1ξ)) => ?_)
    · refine zp_const (pc := 22) hx hb (zd_X9_hasWork (22, .iconst 0, 1, 0, []) (List.mem_of_getElem? (i := 11) rfl)) rfl rfl ?_
      refine zp_zret (pc := 23) (n := 0) hx hb hEξ hQξ hU5ξ rfl (by decide) (zd_X9_hasWork (23, .ireturn, 1, 0, []) (List.mem_of_getElem? (i := 12) rfl)) (j := 0) rfl (zp_o0 (by omega) (by omega) (by omega) (by omega)) ?_
      rw [hpsξ]
      refine ⟨rfl, rfl, ?_⟩
      show (0 : Int) = 1 ↔ 0 ≤ p1ξ ∧ p1ξ < M 1 3 ∧ p1ξ < 10
      omega
    · refine zp_load (pc := 12) hx hb (zd_X9_hasWork (12, .iload_n 1, 1, 0, []) (List.mem_of_getElem? (i := 6) rfl)) rfl (j := 1) rfl ?_
      refine zp_const (pc := 13) hx hb (zd_X9_hasWork (13, .bipush 10, 2, 0, []) (List.mem_of_getElem? (i := 7) rfl)) rfl rfl ?_
      refine zp_icmp (pc := 15) (tgt := 22) hx hb (zd_X9_hasWork (15, .if_icmp .ge 7, 3, 0, []) (List.mem_of_getElem? (i := 8) rfl)) rfl (fun (hc29ξ : 10 ≤ p1ξ) => ?_) (fun (hc29ξ : ¬ (10 ≤ p1ξ)) => ?_)
      · exfalso
        omega
      · refine zp_const (pc := 18) hx hb (zd_X9_hasWork (18, .iconst 1, 1, 0, []) (List.mem_of_getElem? (i := 9) rfl)) rfl rfl ?_
        refine zp_goto (tgt := 23) (pc := 19) hx hb (zd_X9_hasWork (19, .goto 4, 3, 0, []) (List.mem_of_getElem? (i := 10) rfl)) rfl ?_
        refine zp_zret (pc := 23) (n := 1) hx hb hEξ hQξ hU5ξ rfl (by decide) (zd_X9_hasWork (23, .ireturn, 1, 0, []) (List.mem_of_getElem? (i := 12) rfl)) (j := 0) rfl (zp_o0 (by omega) (by omega) (by omega) (by omega)) ?_
        rw [hpsξ]
        refine ⟨rfl, rfl, ?_⟩
        show (1 : Int) = 1 ↔ 0 ≤ p1ξ ∧ p1ξ < M 1 3 ∧ p1ξ < 10
        omega
