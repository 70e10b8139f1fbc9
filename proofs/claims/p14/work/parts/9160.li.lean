/-! part li: the reference over logical cells: row -/
/-- one of a row's fours as a work -/
noncomputable def zr_w4q (V : Nat → Nat → Int) (npξ k : Nat) : Int × (Nat → Nat → Int) := zf_wk1 V npξ (V 3 (2000 + 1)).toNat (V 12 (2000 + 4 * k)) (V 12 (2000 + (4 * k + 1))) (V 12 (2000 + (4 * k + 2))) (V 12 (2000 + (4 * k + 3))) (-1)
/-- a row, four by four: works that came, what stands then -/
noncomputable def zr_rw (V : Nat → Nat → Int) (npξ ln : Nat) : Nat → Int × (Nat → Nat → Int)
  | 0 => (0, V)
  | k + 1 => if 4 * k + 3 < ln ∧ 0 ≤ (zr_w4q (zr_rw V npξ ln k).2 npξ k).1 then ((zr_rw V npξ ln k).1 + 1, (zr_w4q (zr_rw V npξ ln k).2 npξ k).2) else ((zr_rw V npξ ln k).1, zp_set (zr_rw V npξ ln k).2 0 11 ((zr_rw V npξ ln k).2 0 11 + 1))
noncomputable def zf_rowr (V : Nat → Nat → Int) (npξ ln : Nat) : Int × (Nat → Nat → Int) := if ln = 0 then (-6, zT_tell (zp_set (zp_set V 0 0 0) 0 13 0) (-6)) else ((zr_rw (zp_set (zp_set (zp_set V 0 0 0) 0 13 0) 0 11 0) npξ ln ((ln + 3) / 4)).1, (zf_stl (zr_rw (zp_set (zp_set (zp_set V 0 0 0) 0 13 0) 0 11 0) npξ ln ((ln + 3) / 4)).2 (zr_rw (zp_set (zp_set (zp_set V 0 0 0) 0 13 0) 0 11 0) npξ ln ((ln + 3) / 4)).1).2)
/-- what a work that comes leaves -/
noncomputable def zr_ok (V X : Nat → Nat → Int) (npξ n : Nat) : Prop := (∀ j, j < 5580 → -2147483648 ≤ X 3 (2000 + j) ∧ X 3 (2000 + j) ≤ 2147483647) ∧ (X 3 (2000 + 0) = (npξ : Int) ∧ npξ ≤ 6) ∧ (X 3 (2000 + 1) = (n : Int) ∧ n ≤ 10) ∧ (∀ j, X 12 j = V 12 j) ∧ ∀ j, j ≠ 11 → X 0 j = V 0 j
theorem zr_ok_s {V X : Nat → Nat → Int} {npξ n j : Nat} {v : Int} (h0ξ : j ≠ 0) (h1ξ : j ≠ 1) (hvξ : -2147483648 ≤ v ∧ v ≤ 2147483647) (h : zr_ok V X npξ n) : zr_ok V (zp_set X 3 (2000 + j) v) npξ n := by
  obtain ⟨a1, ⟨a2, a3⟩, ⟨a4, a5⟩, a6, a7⟩ := h
  refine ⟨fun i hi => ?_, ⟨(zp_set_ne (Or.inr (by omega))).trans a2, a3⟩, ⟨(zp_set_ne (Or.inr (by omega))).trans a4, a5⟩, fun i => (zp_set_ne (Or.inl (by decide))).trans (a6 i), fun i hi => (zp_set_ne (Or.inl (by decide))).trans (a7 i hi)⟩
  by_cases c : i = j
  · rw [c, zp_set_self]
    exact hvξ
  · rw [zp_set_ne (Or.inr (by omega))]
    exact a1 i hi
theorem zr_ok_w {V X : Nat → Nat → Int} {npξ n : Nat} {p1ξ p2ξ p3ξ p4ξ p5ξ : Int} (h : zr_ok V X npξ n) : ∃ n' : Nat, zr_ok V (zf_wk1 X npξ n p1ξ p2ξ p3ξ p4ξ p5ξ).2 npξ n' := by
  have hn10ξ := h.2.2.1.2
  have add : (1 ≤ p2ξ ∧ p2ξ ≤ 600) → (0 ≤ p3ξ ∧ p3ξ ≤ 23) → (1 ≤ p4ξ ∧ p4ξ ≤ 99) → (0 ≤ p1ξ ∧ p1ξ < (npξ : Int)) → (-1 ≤ p5ξ ∧ p5ξ < 11) → ¬ (n : Int) = 10 → zr_ok V (zp_set (zp_set (zp_set (zp_set (zp_set (zp_set (zp_set X 3 (2000 + (5 * n + 39)) p1ξ) 3 (2000 + (5 * n + 40)) p2ξ) 3 (2000 + (5 * n + 41)) p3ξ) 3 (2000 + (5 * n + 42)) p4ξ) 3 (2000 + (5 * n + 43)) p5ξ) 3 (2000 + (n + 29)) 0) 3 (2000 + 1) ((n : Int) + 1)) npξ (n + 1) := fun c1 c2 c3 c4 c5 c6 => by
    have hnpξ := h.2.1.2
    have h6ξ := zr_ok_s (j := n + 29) (v := 0) (by omega) (by omega) (by omega) (zr_ok_s (j := 5 * n + 43) (v := p5ξ) (by omega) (by omega) (by omega) (zr_ok_s (j := 5 * n + 42) (v := p4ξ) (by omega) (by omega) (by omega) (zr_ok_s (j := 5 * n + 41) (v := p3ξ) (by omega) (by omega) (by omega) (zr_ok_s (j := 5 * n + 40) (v := p2ξ) (by omega) (by omega) (by omega) (zr_ok_s (j := 5 * n + 39) (v := p1ξ) (by omega) (by omega) (by omega) h)))))
    obtain ⟨a1, ⟨a2, a3⟩, ⟨a4, a5⟩, a6, a7⟩ := h6ξ
    refine ⟨fun i hi => ?_, ⟨(zp_set_ne (Or.inr (by decide))).trans a2, a3⟩, ⟨zp_set_self.trans (by omega), by omega⟩, fun i => (zp_set_ne (Or.inl (by decide))).trans (a6 i), fun i hi => (zp_set_ne (Or.inl (by decide))).trans (a7 i hi)⟩
    by_cases c : i = 1
    · rw [c, zp_set_self]
      omega
    · rw [zp_set_ne (Or.inr (by omega))]
      exact a1 i hi
  unfold zf_wk1
  by_cases c1 : 1 ≤ p2ξ ∧ p2ξ ≤ 600
  · rw [if_pos c1]
    by_cases c2 : 0 ≤ p3ξ ∧ p3ξ ≤ 23
    · rw [if_pos c2]
      by_cases c3 : 1 ≤ p4ξ ∧ p4ξ ≤ 99
      · rw [if_pos c3]
        by_cases c4 : 0 ≤ p1ξ ∧ p1ξ < (npξ : Int)
        · rw [if_pos c4]
          by_cases c5 : p5ξ = -1
          · rw [if_pos c5]
            by_cases c6 : ¬ (n : Int) = 10
            · rw [if_pos c6]
              exact ⟨n + 1, add c1 c2 c3 c4 (by omega) c6⟩
            · rw [if_neg c6]
              exact ⟨n, h⟩
          · rw [if_neg c5]
            by_cases c7 : 0 ≤ p5ξ ∧ p5ξ < (n : Int)
            · rw [if_pos c7]
              by_cases c6 : ¬ (n : Int) = 10
              · rw [if_pos c6]
                exact ⟨n + 1, add c1 c2 c3 c4 (by omega) c6⟩
              · rw [if_neg c6]
                exact ⟨n, h⟩
            · rw [if_neg c7]
              exact ⟨n, h⟩
        · rw [if_neg c4]
          exact ⟨n, h⟩
      · rw [if_neg c3]
        exact ⟨n, h⟩
    · rw [if_neg c2]
      exact ⟨n, h⟩
  · rw [if_neg c1]
    exact ⟨n, h⟩
theorem zf_wk1_0 {X : Nat → Nat → Int} {npξ n k : Nat} {p1ξ p2ξ p3ξ p4ξ p5ξ : Int} : (zf_wk1 X npξ n p1ξ p2ξ p3ξ p4ξ p5ξ).2 0 k = X 0 k := by
  unfold zf_wk1
  repeat' split
  all_goals first | rfl | (show zp_set (zp_set (zp_set (zp_set (zp_set (zp_set (zp_set X 3 _ _) 3 _ _) 3 _ _) 3 _ _) 3 _ _) 3 _ _) 3 _ _ 0 k = X 0 k; rw [zp_set_ne (Or.inl (by decide)), zp_set_ne (Or.inl (by decide)), zp_set_ne (Or.inl (by decide)), zp_set_ne (Or.inl (by decide)), zp_set_ne (Or.inl (by decide)), zp_set_ne (Or.inl (by decide)), zp_set_ne (Or.inl (by decide))])
theorem zf_wk1_z {X : Nat → Nat → Int} {npξ n : Nat} {p1ξ p2ξ p3ξ p4ξ p5ξ : Int} (h : (zf_wk1 X npξ n p1ξ p2ξ p3ξ p4ξ p5ξ).1 < 0) : (zf_wk1 X npξ n p1ξ p2ξ p3ξ p4ξ p5ξ).2 = X := by
  unfold zf_wk1 at h ⊢
  repeat' split
  all_goals first | rfl | (exfalso; revert h; repeat' split; all_goals (intro h; dsimp only at h; omega))
theorem zr_rw0 {V : Nat → Nat → Int} {npξ ln : Nat} : ∀ {k : Nat}, 0 ≤ (zr_rw V npξ ln k).1
  | 0 => Int.le_refl _
  | k + 1 => by
    have ih := zr_rw0 (V := V) (npξ := npξ) (ln := ln) (k := k)
    rw [zr_rw]
    split
    · show 0 ≤ (zr_rw V npξ ln k).1 + 1
      omega
    · exact ih
theorem zr_rwb {V : Nat → Nat → Int} {npξ ln n : Nat} (h : zr_ok V V npξ n) (h0ξ : V 0 11 = 0) : ∀ k : Nat, (0 ≤ (zr_rw V npξ ln k).1 ∧ (zr_rw V npξ ln k).1 ≤ (k : Int)) ∧ (0 ≤ (zr_rw V npξ ln k).2 0 11 ∧ (zr_rw V npξ ln k).2 0 11 ≤ (k : Int)) ∧ ∃ n' : Nat, zr_ok V (zr_rw V npξ ln k).2 npξ n'
  | 0 => ⟨⟨Int.le_refl _, Int.le_refl _⟩, ⟨by show 0 ≤ V 0 11; omega, by show V 0 11 ≤ 0; omega⟩, n, h⟩
  | k + 1 => by
    obtain ⟨⟨h1ξ, h2ξ⟩, ⟨h3ξ, h4ξ⟩, n', h5ξ⟩ := zr_rwb (ln := ln) h h0ξ k
    have hn' : ((zr_rw V npξ ln k).2 3 (2000 + 1)).toNat = n' := by
      have h9ξ := h5ξ.2.2.1.1
      omega
    rw [zr_rw]
    split
    · refine ⟨⟨by show 0 ≤ (zr_rw V npξ ln k).1 + 1; omega, by show (zr_rw V npξ ln k).1 + 1 ≤ ((k + 1 : Nat) : Int); omega⟩, ⟨?_, ?_⟩, ?_⟩
      · show 0 ≤ (zf_wk1 _ _ _ _ _ _ _ _).2 0 11
        rw [zf_wk1_0]
        exact h3ξ
      · show (zf_wk1 _ _ _ _ _ _ _ _).2 0 11 ≤ ((k + 1 : Nat) : Int)
        rw [zf_wk1_0]
        omega
      · show ∃ n' : Nat, zr_ok V (zf_wk1 _ _ _ _ _ _ _ _).2 npξ n'
        rw [hn']
        exact zr_ok_w h5ξ
    · refine ⟨⟨h1ξ, by show (zr_rw V npξ ln k).1 ≤ ((k + 1 : Nat) : Int); omega⟩, ⟨?_, ?_⟩, n', ?_⟩
      · try dsimp only
        rw [zp_set_self]
        omega
      · try dsimp only
        rw [zp_set_self]
        omega
      · obtain ⟨a1, ⟨a2, a3⟩, ⟨a4, a5⟩, a6, a7⟩ := h5ξ
        show zr_ok V (zp_set (zr_rw V npξ ln k).2 0 11 ((zr_rw V npξ ln k).2 0 11 + 1)) npξ n'
        exact ⟨fun i hi => by rw [zp_set_ne (Or.inl (by decide))]; exact a1 i hi, ⟨(zp_set_ne (Or.inl (by decide))).trans a2, a3⟩, ⟨(zp_set_ne (Or.inl (by decide))).trans a4, a5⟩, fun i => (zp_set_ne (Or.inl (by decide))).trans (a6 i), fun i hi => (zp_set_ne (Or.inr hi)).trans (a7 i hi)⟩
noncomputable def zK_rowr : zk_K := (zt_mn 203, prog_14_method_30_code, 4, (Option.some Jvm.ClassFile.FieldType.int), 1, 12, [(2, 13, 0, 0)], [(some (0, 0, (-2147483648), 2147483647), [])], zUE, (4, 240, 0, 0))
noncomputable def zφ_rowr (A : Nat → Nat) (V : Nat → Nat → Int) (npξ n1ξ ln : Nat) : (Nat → Option Nat) → (Nat → Nat → Int) → List Int → Prop := fun P G ps => zMVr A V P G ∧ ps.getD 0 0 = (A 0 : Int) ∧ (∀ j, j < 5580 → -2147483648 ≤ V 3 (2000 + j) ∧ V 3 (2000 + j) ≤ 2147483647) ∧ V 3 (2000 + 0) = (npξ : Int) ∧ npξ ≤ 6 ∧ V 3 (2000 + 1) = (n1ξ : Int) ∧ n1ξ ≤ 10 ∧ V 0 13 = (ln : Int) ∧ ln ≤ 400 ∧ ∀ j, 0 ≤ V 12 (2000 + j) ∧ V 12 (2000 + j) ≤ 255
noncomputable def zψ_rowr (A : Nat → Nat) (V : Nat → Nat → Int) (npξ n1ξ ln : Nat) : (Nat → Option Nat) → (Nat → Nat → Int) → List Int → (Nat → Option Nat) → (Nat → Nat → Int) → Int → Prop := fun P G ps P' G' rn => P' = P ∧ zMVr A (zf_rowr V npξ ln).2 P' G' ∧ rn = (zf_rowr V npξ ln).1
theorem zX_rowr {l : Launch} {w : zk_W} (hWξ : zh_W w) (A : Nat → Nat) (V : Nat → Nat → Int) (npξ n1ξ ln : Nat) : zk_metX l w zt_dv zt_TB zK_rowr (zp_A (zφ_rowr A V npξ n1ξ ln)) (zp_B (zψ_rowr A V npξ n1ξ ln)) ∧ zk_cok w zt_TB zK_rowr := by
  refine zp_methX (cn := "WoundTownModel") zp_lkall hWξ (pl := 1648) rfl (by decide +kernel) (fun p e R s m args below meth c Q u hx hb hEξ hQξ hU5ξ heffξ hnLξ hokξ hφ => ?_)
  have hwξ := hWξ.1
  obtain ⟨p0ξ, hpsξ, tk0⟩ := zp_ps1 hokξ
  have hrmξ : zk_Kr (zk_ev (zt_types, zp_lk, zt_dv, [], [], zp_lc, zK_rowr)) = zk_Kr zK_rowr := rfl
  rw [hpsξ] at hφ ⊢
  have hφ : zMVr A V u.1 (zp_n u.2.1) ∧ p0ξ = (A 0 : Int) ∧ (∀ j, j < 5580 → -2147483648 ≤ V 3 (2000 + j) ∧ V 3 (2000 + j) ≤ 2147483647) ∧ V 3 (2000 + 0) = (npξ : Int) ∧ npξ ≤ 6 ∧ V 3 (2000 + 1) = (n1ξ : Int) ∧ n1ξ ≤ 10 ∧ V 0 13 = (ln : Int) ∧ ln ≤ 400 ∧ ∀ j, 0 ≤ V 12 (2000 + j) ∧ V 12 (2000 + j) ≤ 255 := hφ
  obtain ⟨⟨M, hMξ, hVξ, hSbξ⟩, rfl, hRξ, hnpξ, hnp6ξ, hn1ξ, hn10ξ, hlnξ, hl4ξ, hTξ⟩ := hφ
  show zp_J p l e R s m args below meth c Q w u [] 0 [(0, 2, (A 0 : Int))] [] u.1 (zp_n u.2.1)
  refine zp_load (pc := 0) hx hb (zd_X12_row (0, .aload_n 0, 1, 0, []) (List.mem_of_getElem? (i := 0) rfl)) rfl (j := 0) rfl ?_
  refine zp_const (pc := 1) hx hb (zd_X12_row (1, .iconst 0, 1, 0, []) (List.mem_of_getElem? (i := 1) rfl)) rfl rfl ?_
  refine zp_putf (pc := 2) hx hb hEξ hwξ heffξ (zd_X12_row (2, .putfield 161, 3, 0, []) (List.mem_of_getElem? (i := 2) rfl)) (j := 18) rfl rfl rfl (zM_P hMξ (List.mem_of_getElem? (i := 0) rfl)) (zp_o0 (by decide) (by decide) (by decide) (by decide)) ?_
  refine zp_load (pc := 5) hx hb (zd_X12_row (5, .aload_n 0, 1, 0, []) (List.mem_of_getElem? (i := 3) rfl)) rfl (j := 0) rfl ?_
  refine zp_getf (n := (ln : Int)) (pc := 6) hx hb hEξ hwξ (zd_X12_row (6, .getfield 228, 3, 0, []) (List.mem_of_getElem? (i := 4) rfl)) (j := 31) rfl rfl rfl (zM_P hMξ (List.mem_of_getElem? (i := 0) rfl)) ((zp_set_ne (Or.inr (by decide))).trans ((((zM_G hMξ (List.mem_of_getElem? (i := 0) rfl) 13).trans (hVξ 0 13 (Or.inr (by decide)))).trans hlnξ))) ?_
  refine zp_store (L' := [(1, 0, (ln : Int)), (0, 2, (A 0 : Int))]) (pc := 9) hx hb hnLξ (zd_X12_row (9, .istore_n 1, 1, 0, []) (List.mem_of_getElem? (i := 5) rfl)) rfl rfl rfl ?_
  refine zp_load (pc := 10) hx hb (zd_X12_row (10, .aload_n 0, 1, 0, []) (List.mem_of_getElem? (i := 6) rfl)) rfl (j := 1) rfl ?_
  refine zp_const (pc := 11) hx hb (zd_X12_row (11, .iconst 0, 1, 0, []) (List.mem_of_getElem? (i := 7) rfl)) rfl rfl ?_
  refine zp_putf (pc := 12) hx hb hEξ hwξ heffξ (zd_X12_row (12, .putfield 228, 3, 0, []) (List.mem_of_getElem? (i := 8) rfl)) (j := 31) rfl rfl rfl (zM_P hMξ (List.mem_of_getElem? (i := 0) rfl)) (zp_o0 (by decide) (by decide) (by decide) (by decide)) ?_
  refine zp_load (pc := 15) hx hb (zd_X12_row (15, .iload_n 1, 1, 0, []) (List.mem_of_getElem? (i := 9) rfl)) rfl (j := 0) rfl ?_
  refine zp_if (pc := 16) (tgt := 26) hx hb (zd_X12_row (16, .ifCond .ne 10, 3, 0, []) (List.mem_of_getElem? (i := 10) rfl)) rfl (fun (hc221ξ : ¬ (ln : Int) = 0) => ?_) (fun (hc221ξ : ¬ (¬ (ln : Int) = 0)) => ?_)
  · refine zp_load (pc := 26) hx hb (zd_X12_row (26, .aload_n 0, 1, 0, []) (List.mem_of_getElem? (i := 15) rfl)) rfl (j := 1) rfl ?_
    refine zp_const (pc := 27) hx hb (zd_X12_row (27, .iconst 0, 1, 0, []) (List.mem_of_getElem? (i := 16) rfl)) rfl rfl ?_
    refine zp_putf (pc := 28) hx hb hEξ hwξ heffξ (zd_X12_row (28, .putfield 231, 3, 0, []) (List.mem_of_getElem? (i := 17) rfl)) (j := 29) rfl rfl rfl (zM_P hMξ (List.mem_of_getElem? (i := 0) rfl)) (zp_o0 (by decide) (by decide) (by decide) (by decide)) ?_
    refine zp_const (pc := 31) hx hb (zd_X12_row (31, .iconst 0, 1, 0, []) (List.mem_of_getElem? (i := 18) rfl)) rfl rfl ?_
    refine zp_store (L' := [(2, 0, 0), (1, 0, (ln : Int)), (0, 2, (A 0 : Int))]) (pc := 32) hx hb hnLξ (zd_X12_row (32, .istore_n 2, 1, 0, []) (List.mem_of_getElem? (i := 19) rfl)) rfl rfl rfl ?_
    refine zp_const (pc := 33) hx hb (zd_X12_row (33, .iconst 0, 1, 0, []) (List.mem_of_getElem? (i := 20) rfl)) rfl rfl ?_
    refine zp_store (L' := [(3, 0, 0), (2, 0, 0), (1, 0, (ln : Int)), (0, 2, (A 0 : Int))]) (pc := 34) hx hb hnLξ (zd_X12_row (34, .istore_n 3, 1, 0, []) (List.mem_of_getElem? (i := 21) rfl)) rfl rfl rfl ?_
    have hl0ξ : ¬ ln = 0 := by omega
    have hok0ξ : zr_ok (zp_set (zp_set (zp_set V 0 0 0) 0 13 0) 0 11 0) (zp_set (zp_set (zp_set V 0 0 0) 0 13 0) 0 11 0) npξ n1ξ := ⟨fun j hjξ => by rw [zp_set_ne (Or.inl (by decide)), zp_set_ne (Or.inl (by decide)), zp_set_ne (Or.inl (by decide))]; exact hRξ j hjξ, ⟨(zp_set_ne (Or.inl (by decide))).trans ((zp_set_ne (Or.inl (by decide))).trans ((zp_set_ne (Or.inl (by decide))).trans hnpξ)), hnp6ξ⟩, ⟨(zp_set_ne (Or.inl (by decide))).trans ((zp_set_ne (Or.inl (by decide))).trans ((zp_set_ne (Or.inl (by decide))).trans hn1ξ)), hn10ξ⟩, fun j => rfl, fun j _ => rfl⟩
    have hz0ξ : (zp_set (zp_set (zp_set V 0 0 0) 0 13 0) 0 11 0) 0 11 = 0 := zp_set_self
    have hT0ξ : ∀ j, 0 ≤ (zp_set (zp_set (zp_set V 0 0 0) 0 13 0) 0 11 0) 12 (2000 + j) ∧ (zp_set (zp_set (zp_set V 0 0 0) 0 13 0) 0 11 0) 12 (2000 + j) ≤ 255 := fun j => by rw [zp_set_ne (Or.inl (by decide)), zp_set_ne (Or.inl (by decide)), zp_set_ne (Or.inl (by decide))]; exact hTξ j
    have loop : ∀ (r9ξ k9ξ : Nat) (M : Nat → Nat → Int) (G : Nat → Nat → Int), r9ξ + k9ξ = ((ln + 3) / 4) → zM A zYr zFr M u.1 G → (∀ o k, zNs o k → M o k = (zr_rw (zp_set (zp_set (zp_set V 0 0 0) 0 13 0) 0 11 0) npξ ln k9ξ).2 o k) → zSb M → zp_J p l e R s m args below meth c Q w u [] 35 [(3, 0, (4 * (k9ξ : Int))), (2, 0, (zr_rw (zp_set (zp_set (zp_set V 0 0 0) 0 13 0) 0 11 0) npξ ln k9ξ).1), (0, 2, (A 0 : Int)), (1, 0, (ln : Int))] [] u.1 G := by
      intro r9ξ
      induction r9ξ with
      | zero =>
        intro k9ξ M G hrξ hMξ hVξ hSbξ
        obtain ⟨⟨hcw0ξ, hcw1ξ⟩, ⟨hdw0ξ, hdw1ξ⟩, n9ξ, hok9ξ⟩ := zr_rwb (ln := ln) hok0ξ hz0ξ k9ξ
        obtain ⟨hR9ξ, ⟨hnp9ξ, -⟩, ⟨hn9ξ, hn9bξ⟩, hT9ξ, h09ξ⟩ := hok9ξ
        have hTxξ : ∀ j, 0 ≤ (zr_rw (zp_set (zp_set (zp_set V 0 0 0) 0 13 0) 0 11 0) npξ ln k9ξ).2 12 (2000 + j) ∧ (zr_rw (zp_set (zp_set (zp_set V 0 0 0) 0 13 0) 0 11 0) npξ ln k9ξ).2 12 (2000 + j) ≤ 255 := fun j => by rw [hT9ξ]; exact hT0ξ j
        have hk100ξ : k9ξ ≤ 101 := by omega
        have hk9ξ : k9ξ = ((ln + 3) / 4) := by omega
        have hge9ξ : (ln : Int) ≤ 4 * (k9ξ : Int) := by omega
        refine zp_load (pc := 35) hx hb (zd_X12_row (35, .iload_n 3, 1, 0, []) (List.mem_of_getElem? (i := 22) rfl)) rfl (j := 0) rfl ?_
        refine zp_load (pc := 36) hx hb (zd_X12_row (36, .iload_n 1, 1, 0, []) (List.mem_of_getElem? (i := 23) rfl)) rfl (j := 3) rfl ?_
        refine zp_icmp (pc := 37) (tgt := 107) hx hb (zd_X12_row (37, .if_icmp .ge 70, 3, 0, []) (List.mem_of_getElem? (i := 24) rfl)) rfl (fun (hc222ξ : (ln : Int) ≤ (4 * (k9ξ : Int))) => ?_) (fun (hc222ξ : ¬ ((ln : Int) ≤ (4 * (k9ξ : Int)))) => ?_)
        · refine zp_load (pc := 107) hx hb (zd_X12_row (107, .aload_n 0, 1, 0, []) (List.mem_of_getElem? (i := 66) rfl)) rfl (j := 2) rfl ?_
          refine zp_load (pc := 108) hx hb (zd_X12_row (108, .iload_n 2, 1, 0, []) (List.mem_of_getElem? (i := 67) rfl)) rfl (j := 1) rfl ?_
          refine zp_call (pc := 109) (how := 0) (idx := 185) (mi := 188) (S := []) hx hb hEξ hwξ heffξ hrmξ (zX_stl hWξ A (zr_rw (zp_set (zp_set (zp_set V 0 0 0) 0 13 0) 0 11 0) npξ ln k9ξ).2) rfl (j := 3) rfl rfl (by decide +kernel) (zd_X12_row (109, .invokevirtual 185, 3, 0, []) (List.mem_of_getElem? (i := 68) rfl)) [(A 0 : Int), (zr_rw (zp_set (zp_set (zp_set V 0 0 0) 0 13 0) 0 11 0) npξ ln k9ξ).1] rfl ⟨zp_o2 (zM_P hMξ (List.mem_of_getElem? (i := 0) rfl)), zp_o0 (by omega) (by omega) (by omega) (by omega), trivial⟩ (Nat.le_of_ble_eq_true rfl) ⟨⟨M, hMξ, hVξ, hSbξ⟩, rfl, (show -6 ≤ (zr_rw (zp_set (zp_set (zp_set V 0 0 0) 0 13 0) 0 11 0) npξ ln k9ξ).1 by omega)⟩ (fun al halξ rnt223ξ Pt223 Gt223 hextt223ξ hfrt223ξ hokt223ξ hcst223ξ hpsit223ξ => ?_)
          obtain rfl := List.mem_singleton.mp halξ
          have hrt223ξ := zp_int (hokt223ξ _ rfl).1
          obtain ⟨hPet223ξ, ⟨Mt223, hMt223ξ, hVt223ξ, hSbt223ξ⟩, htt223ξ⟩ := hpsit223ξ
          subst hPet223ξ
          clear hextt223ξ hfrt223ξ hcst223ξ hokt223ξ
          have hVt223ξ : ∀ o k, zNs o k → Mt223 o k = (zf_stl (zr_rw (zp_set (zp_set (zp_set V 0 0 0) 0 13 0) 0 11 0) npξ ln k9ξ).2 (zr_rw (zp_set (zp_set (zp_set V 0 0 0) 0 13 0) 0 11 0) npξ ln k9ξ).1).2 o k := hVt223ξ
          have htt223ξ : rnt223ξ = (zr_rw (zp_set (zp_set (zp_set V 0 0 0) 0 13 0) 0 11 0) npξ ln k9ξ).1 := Eq.trans htt223ξ (zf_stl1 _ _)
          have htt223ξ := (Eq.symm htt223ξ)
          subst htt223ξ
          refine zp_iret (pc := 112) (n := (zr_rw (zp_set (zp_set (zp_set V 0 0 0) 0 13 0) 0 11 0) npξ ln k9ξ).1) hx hb hEξ hQξ hU5ξ rfl (by decide) (zd_X12_row (112, .ireturn, 1, 0, []) (List.mem_of_getElem? (i := 69) rfl)) (j := 0) rfl (zp_o0 (by omega) (by omega) (by omega) (by omega)) ?_
          rw [hpsξ]
          refine ⟨rfl, ?_⟩
          have hffξ : zf_rowr V npξ ln = ((zr_rw (zp_set (zp_set (zp_set V 0 0 0) 0 13 0) 0 11 0) npξ ln k9ξ).1, (zf_stl (zr_rw (zp_set (zp_set (zp_set V 0 0 0) 0 13 0) 0 11 0) npξ ln k9ξ).2 (zr_rw (zp_set (zp_set (zp_set V 0 0 0) 0 13 0) 0 11 0) npξ ln k9ξ).1).2) := by
            unfold zf_rowr
            rw [if_neg hl0ξ, ← hk9ξ]
          show zMVr A (zf_rowr V npξ ln).2 u.1 Gt223 ∧ (zr_rw (zp_set (zp_set (zp_set V 0 0 0) 0 13 0) 0 11 0) npξ ln k9ξ).1 = (zf_rowr V npξ ln).1
          rw [hffξ]
          exact ⟨⟨Mt223, hMt223ξ, hVt223ξ, hSbt223ξ⟩, rfl⟩
        · exfalso
          omega
      | succ r9ξ ih =>
        intro k9ξ M G hrξ hMξ hVξ hSbξ
        obtain ⟨⟨hcw0ξ, hcw1ξ⟩, ⟨hdw0ξ, hdw1ξ⟩, n9ξ, hok9ξ⟩ := zr_rwb (ln := ln) hok0ξ hz0ξ k9ξ
        obtain ⟨hR9ξ, ⟨hnp9ξ, -⟩, ⟨hn9ξ, hn9bξ⟩, hT9ξ, h09ξ⟩ := hok9ξ
        have hTxξ : ∀ j, 0 ≤ (zr_rw (zp_set (zp_set (zp_set V 0 0 0) 0 13 0) 0 11 0) npξ ln k9ξ).2 12 (2000 + j) ∧ (zr_rw (zp_set (zp_set (zp_set V 0 0 0) 0 13 0) 0 11 0) npξ ln k9ξ).2 12 (2000 + j) ≤ 255 := fun j => by rw [hT9ξ]; exact hT0ξ j
        have hk100ξ : k9ξ ≤ 101 := by omega
        have hlt9ξ : 4 * (k9ξ : Int) < (ln : Int) := by omega
        refine zp_load (pc := 35) hx hb (zd_X12_row (35, .iload_n 3, 1, 0, []) (List.mem_of_getElem? (i := 22) rfl)) rfl (j := 0) rfl ?_
        refine zp_load (pc := 36) hx hb (zd_X12_row (36, .iload_n 1, 1, 0, []) (List.mem_of_getElem? (i := 23) rfl)) rfl (j := 3) rfl ?_
        refine zp_icmp (pc := 37) (tgt := 107) hx hb (zd_X12_row (37, .if_icmp .ge 70, 3, 0, []) (List.mem_of_getElem? (i := 24) rfl)) rfl (fun (hc224ξ : (ln : Int) ≤ (4 * (k9ξ : Int))) => ?_) (fun (hc224ξ : ¬ ((ln : Int) ≤ (4 * (k9ξ : Int)))) => ?_)
        · exfalso
          omega
        · refine zp_load (pc := 40) hx hb (zd_X12_row (40, .iload_n 3, 1, 0, []) (List.mem_of_getElem? (i := 25) rfl)) rfl (j := 0) rfl ?_
          refine zp_const (pc := 41) hx hb (zd_X12_row (41, .iconst 3, 1, 0, []) (List.mem_of_getElem? (i := 26) rfl)) rfl rfl ?_
          refine zp_add (n := (4 * (k9ξ : Int) + 3)) (pc := 42) hx hb (zd_X12_row (42, .iadd, 1, 0, []) (List.mem_of_getElem? (i := 27) rfl)) (by omega) (zp_r0 (by omega) (by omega)) ?_
          refine zp_load (pc := 43) hx hb (zd_X12_row (43, .iload_n 1, 1, 0, []) (List.mem_of_getElem? (i := 28) rfl)) rfl (j := 3) rfl ?_
          refine zp_icmp (pc := 44) (tgt := 91) hx hb (zd_X12_row (44, .if_icmp .ge 47, 3, 0, []) (List.mem_of_getElem? (i := 29) rfl)) rfl (fun (hc225ξ : (ln : Int) ≤ (4 * (k9ξ : Int) + 3)) => ?_) (fun (hc225ξ : ¬ ((ln : Int) ≤ (4 * (k9ξ : Int) + 3))) => ?_)
          · refine zp_load (pc := 91) hx hb (zd_X12_row (91, .aload_n 0, 1, 0, []) (List.mem_of_getElem? (i := 58) rfl)) rfl (j := 2) rfl ?_
            refine zp_dup (pc := 92) hx hb (zd_X12_row (92, .dup, 1, 0, []) (List.mem_of_getElem? (i := 59) rfl)) (show (2 : Nat) ≠ 1 by decide) ?_
            refine zp_getf (n := ((zr_rw (zp_set (zp_set (zp_set V 0 0 0) 0 13 0) 0 11 0) npξ ln k9ξ).2 0 11)) (pc := 93) hx hb hEξ hwξ (zd_X12_row (93, .getfield 231, 3, 0, []) (List.mem_of_getElem? (i := 60) rfl)) (j := 29) rfl rfl rfl (zM_P hMξ (List.mem_of_getElem? (i := 0) rfl)) ((zM_G hMξ (List.mem_of_getElem? (i := 0) rfl) 11).trans (hVξ 0 11 (Or.inr (by decide)))) ?_
            refine zp_const (pc := 96) hx hb (zd_X12_row (96, .iconst 1, 1, 0, []) (List.mem_of_getElem? (i := 61) rfl)) rfl rfl ?_
            refine zp_add (n := (((zr_rw (zp_set (zp_set (zp_set V 0 0 0) 0 13 0) 0 11 0) npξ ln k9ξ).2 0 11) + 1)) (pc := 97) hx hb (zd_X12_row (97, .iadd, 1, 0, []) (List.mem_of_getElem? (i := 62) rfl)) (by omega) (zp_r0 (by omega) (by omega)) ?_
            refine zp_putf (pc := 98) hx hb hEξ hwξ heffξ (zd_X12_row (98, .putfield 231, 3, 0, []) (List.mem_of_getElem? (i := 63) rfl)) (j := 29) rfl rfl rfl (zM_P hMξ (List.mem_of_getElem? (i := 0) rfl)) (zp_o0 (by omega) (by omega) (by omega) (by omega)) ?_
            refine zp_iinc (L' := [(3, 0, (4 * (k9ξ : Int) + 4)), (2, 0, (zr_rw (zp_set (zp_set (zp_set V 0 0 0) 0 13 0) 0 11 0) npξ ln k9ξ).1), (0, 2, (A 0 : Int)), (1, 0, (ln : Int))]) (n := (4 * (k9ξ : Int) + 4)) (pc := 101) hx hb hnLξ (zd_X12_row (101, .iinc 3 4, 3, 0, []) (List.mem_of_getElem? (i := 64) rfl)) (j := 0) rfl (by omega) (zp_r0 (by omega) (by omega)) rfl rfl ?_
            refine zp_goto (tgt := 35) (pc := 104) hx hb (zd_X12_row (104, .goto (-69), 3, 0, []) (List.mem_of_getElem? (i := 65) rfl)) rfl ?_
            have hcwξ : zr_rw (zp_set (zp_set (zp_set V 0 0 0) 0 13 0) 0 11 0) npξ ln (k9ξ + 1) = ((zr_rw (zp_set (zp_set (zp_set V 0 0 0) 0 13 0) 0 11 0) npξ ln k9ξ).1, (zp_set (zr_rw (zp_set (zp_set (zp_set V 0 0 0) 0 13 0) 0 11 0) npξ ln k9ξ).2 0 11 (((zr_rw (zp_set (zp_set (zp_set V 0 0 0) 0 13 0) 0 11 0) npξ ln k9ξ).2 0 11) + 1))) := by
              rw [zr_rw]
              rw [if_neg (fun z9ξ => by omega)]
            have hfr9ξ : (4 * (k9ξ : Int) + 4) = 4 * ((k9ξ + 1 : Nat) : Int) := by omega
            rw [hfr9ξ]
            have hccξ : (zr_rw (zp_set (zp_set (zp_set V 0 0 0) 0 13 0) 0 11 0) npξ ln k9ξ).1 = (zr_rw (zp_set (zp_set (zp_set V 0 0 0) 0 13 0) 0 11 0) npξ ln (k9ξ + 1)).1 := by rw [hcwξ]
            refine zp_drop (L' := [(3, 0, (4 * ((k9ξ + 1 : Nat) : Int))), (2, 0, (zr_rw (zp_set (zp_set (zp_set V 0 0 0) 0 13 0) 0 11 0) npξ ln k9ξ).1), (0, 2, (A 0 : Int)), (1, 0, (ln : Int))]) (by simp) ?_
            rw [hccξ]
            exact ih (k9ξ + 1) (zp_set M 0 11 (((zr_rw (zp_set (zp_set (zp_set V 0 0 0) 0 13 0) 0 11 0) npξ ln k9ξ).2 0 11) + 1)) (zp_set G (A 0) 11 (((zr_rw (zp_set (zp_set (zp_set V 0 0 0) 0 13 0) 0 11 0) npξ ln k9ξ).2 0 11) + 1)) (by omega) (zM_set hMξ (List.mem_of_getElem? (i := 0) rfl) (by decide)) (fun o k hkξ => by rw [hcwξ]; exact (zV_set hVξ) o k hkξ) (zSb_set (by decide) hSbξ)
          · refine zp_load (pc := 47) hx hb (zd_X12_row (47, .aload_n 0, 1, 0, []) (List.mem_of_getElem? (i := 30) rfl)) rfl (j := 2) rfl ?_
            refine zp_load (pc := 48) hx hb (zd_X12_row (48, .aload_n 0, 1, 0, []) (List.mem_of_getElem? (i := 31) rfl)) rfl (j := 2) rfl ?_
            refine zp_getf (n := (A 12 : Int)) (pc := 49) hx hb hEξ hwξ (zd_X12_row (49, .getfield 35, 3, 0, []) (List.mem_of_getElem? (i := 32) rfl)) (j := 30) rfl rfl rfl (zM_P hMξ (List.mem_of_getElem? (i := 0) rfl)) ((zM_G hMξ (List.mem_of_getElem? (i := 0) rfl) 12).trans (zM_F hMξ (List.mem_of_getElem? (i := 8) rfl))) ?_
            refine zp_load (pc := 52) hx hb (zd_X12_row (52, .iload_n 3, 1, 0, []) (List.mem_of_getElem? (i := 33) rfl)) rfl (j := 0) rfl ?_
            refine zp_iald (j := 4 * k9ξ) (v := ((zr_rw (zp_set (zp_set (zp_set V 0 0 0) 0 13 0) 0 11 0) npξ ln k9ξ).2 12 (2000 + 4 * k9ξ))) (pc := 53) hx hb hwξ (zd_X12_row (53, .iaload, 1, 0, []) (List.mem_of_getElem? (i := 34) rfl)) (show zp_ia 1 66 = some (400, 0, 0, 0, 255) from rfl) (zM_P hMξ (List.mem_of_getElem? (i := 9) rfl)) (by omega) (by omega) ((zM_G hMξ (List.mem_of_getElem? (i := 9) rfl) (2000 + 4 * k9ξ)).trans (hVξ 12 (2000 + 4 * k9ξ) (Or.inl (by decide)))) (fun hk226ξ => ?_)
            have hk226bξ := zp_int hk226ξ
            clear hk226ξ
            have ht227ξ := hTxξ (4 * k9ξ)
            refine zp_load (pc := 54) hx hb (zd_X12_row (54, .aload_n 0, 1, 0, []) (List.mem_of_getElem? (i := 35) rfl)) rfl (j := 2) rfl ?_
            refine zp_getf (n := (A 12 : Int)) (pc := 55) hx hb hEξ hwξ (zd_X12_row (55, .getfield 35, 3, 0, []) (List.mem_of_getElem? (i := 36) rfl)) (j := 30) rfl rfl rfl (zM_P hMξ (List.mem_of_getElem? (i := 0) rfl)) ((zM_G hMξ (List.mem_of_getElem? (i := 0) rfl) 12).trans (zM_F hMξ (List.mem_of_getElem? (i := 8) rfl))) ?_
            refine zp_load (pc := 58) hx hb (zd_X12_row (58, .iload_n 3, 1, 0, []) (List.mem_of_getElem? (i := 37) rfl)) rfl (j := 0) rfl ?_
            refine zp_const (pc := 59) hx hb (zd_X12_row (59, .iconst 1, 1, 0, []) (List.mem_of_getElem? (i := 38) rfl)) rfl rfl ?_
            refine zp_add (n := (4 * (k9ξ : Int) + 1)) (pc := 60) hx hb (zd_X12_row (60, .iadd, 1, 0, []) (List.mem_of_getElem? (i := 39) rfl)) (by omega) (zp_r0 (by omega) (by omega)) ?_
            refine zp_iald (j := (4 * k9ξ + 1)) (v := ((zr_rw (zp_set (zp_set (zp_set V 0 0 0) 0 13 0) 0 11 0) npξ ln k9ξ).2 12 (2000 + (4 * k9ξ + 1)))) (pc := 61) hx hb hwξ (zd_X12_row (61, .iaload, 1, 0, []) (List.mem_of_getElem? (i := 40) rfl)) (show zp_ia 1 66 = some (400, 0, 0, 0, 255) from rfl) (zM_P hMξ (List.mem_of_getElem? (i := 9) rfl)) (by omega) (by omega) ((zM_G hMξ (List.mem_of_getElem? (i := 9) rfl) (2000 + (4 * k9ξ + 1))).trans (hVξ 12 (2000 + (4 * k9ξ + 1)) (Or.inl (by decide)))) (fun hk228ξ => ?_)
            have hk228bξ := zp_int hk228ξ
            clear hk228ξ
            have ht229ξ := hTxξ (4 * k9ξ + 1)
            refine zp_load (pc := 62) hx hb (zd_X12_row (62, .aload_n 0, 1, 0, []) (List.mem_of_getElem? (i := 41) rfl)) rfl (j := 2) rfl ?_
            refine zp_getf (n := (A 12 : Int)) (pc := 63) hx hb hEξ hwξ (zd_X12_row (63, .getfield 35, 3, 0, []) (List.mem_of_getElem? (i := 42) rfl)) (j := 30) rfl rfl rfl (zM_P hMξ (List.mem_of_getElem? (i := 0) rfl)) ((zM_G hMξ (List.mem_of_getElem? (i := 0) rfl) 12).trans (zM_F hMξ (List.mem_of_getElem? (i := 8) rfl))) ?_
            refine zp_load (pc := 66) hx hb (zd_X12_row (66, .iload_n 3, 1, 0, []) (List.mem_of_getElem? (i := 43) rfl)) rfl (j := 0) rfl ?_
            refine zp_const (pc := 67) hx hb (zd_X12_row (67, .iconst 2, 1, 0, []) (List.mem_of_getElem? (i := 44) rfl)) rfl rfl ?_
            refine zp_add (n := (4 * (k9ξ : Int) + 2)) (pc := 68) hx hb (zd_X12_row (68, .iadd, 1, 0, []) (List.mem_of_getElem? (i := 45) rfl)) (by omega) (zp_r0 (by omega) (by omega)) ?_
            refine zp_iald (j := (4 * k9ξ + 2)) (v := ((zr_rw (zp_set (zp_set (zp_set V 0 0 0) 0 13 0) 0 11 0) npξ ln k9ξ).2 12 (2000 + (4 * k9ξ + 2)))) (pc := 69) hx hb hwξ (zd_X12_row (69, .iaload, 1, 0, []) (List.mem_of_getElem? (i := 46) rfl)) (show zp_ia 1 66 = some (400, 0, 0, 0, 255) from rfl) (zM_P hMξ (List.mem_of_getElem? (i := 9) rfl)) (by omega) (by omega) ((zM_G hMξ (List.mem_of_getElem? (i := 9) rfl) (2000 + (4 * k9ξ + 2))).trans (hVξ 12 (2000 + (4 * k9ξ + 2)) (Or.inl (by decide)))) (fun hk230ξ => ?_)
            have hk230bξ := zp_int hk230ξ
            clear hk230ξ
            have ht231ξ := hTxξ (4 * k9ξ + 2)
            refine zp_load (pc := 70) hx hb (zd_X12_row (70, .aload_n 0, 1, 0, []) (List.mem_of_getElem? (i := 47) rfl)) rfl (j := 2) rfl ?_
            refine zp_getf (n := (A 12 : Int)) (pc := 71) hx hb hEξ hwξ (zd_X12_row (71, .getfield 35, 3, 0, []) (List.mem_of_getElem? (i := 48) rfl)) (j := 30) rfl rfl rfl (zM_P hMξ (List.mem_of_getElem? (i := 0) rfl)) ((zM_G hMξ (List.mem_of_getElem? (i := 0) rfl) 12).trans (zM_F hMξ (List.mem_of_getElem? (i := 8) rfl))) ?_
            refine zp_load (pc := 74) hx hb (zd_X12_row (74, .iload_n 3, 1, 0, []) (List.mem_of_getElem? (i := 49) rfl)) rfl (j := 0) rfl ?_
            refine zp_const (pc := 75) hx hb (zd_X12_row (75, .iconst 3, 1, 0, []) (List.mem_of_getElem? (i := 50) rfl)) rfl rfl ?_
            refine zp_add (n := (4 * (k9ξ : Int) + 3)) (pc := 76) hx hb (zd_X12_row (76, .iadd, 1, 0, []) (List.mem_of_getElem? (i := 51) rfl)) (by omega) (zp_r0 (by omega) (by omega)) ?_
            refine zp_iald (j := (4 * k9ξ + 3)) (v := ((zr_rw (zp_set (zp_set (zp_set V 0 0 0) 0 13 0) 0 11 0) npξ ln k9ξ).2 12 (2000 + (4 * k9ξ + 3)))) (pc := 77) hx hb hwξ (zd_X12_row (77, .iaload, 1, 0, []) (List.mem_of_getElem? (i := 52) rfl)) (show zp_ia 1 66 = some (400, 0, 0, 0, 255) from rfl) (zM_P hMξ (List.mem_of_getElem? (i := 9) rfl)) (by omega) (by omega) ((zM_G hMξ (List.mem_of_getElem? (i := 9) rfl) (2000 + (4 * k9ξ + 3))).trans (hVξ 12 (2000 + (4 * k9ξ + 3)) (Or.inl (by decide)))) (fun hk232ξ => ?_)
            have hk232bξ := zp_int hk232ξ
            clear hk232ξ
            have ht233ξ := hTxξ (4 * k9ξ + 3)
            refine zp_const (pc := 78) hx hb (zd_X12_row (78, .iconst (-1), 1, 0, []) (List.mem_of_getElem? (i := 53) rfl)) rfl rfl ?_
            refine zp_call (pc := 79) (how := 0) (idx := 220) (mi := 199) (S := []) hx hb hEξ hwξ heffξ hrmξ (zX_wk1 hWξ A (zr_rw (zp_set (zp_set (zp_set V 0 0 0) 0 13 0) 0 11 0) npξ ln k9ξ).2 npξ n9ξ) rfl (j := 9) rfl rfl (by decide +kernel) (zd_X12_row (79, .invokevirtual 220, 3, 0, []) (List.mem_of_getElem? (i := 54) rfl)) [(A 0 : Int), ((zr_rw (zp_set (zp_set (zp_set V 0 0 0) 0 13 0) 0 11 0) npξ ln k9ξ).2 12 (2000 + 4 * k9ξ)), ((zr_rw (zp_set (zp_set (zp_set V 0 0 0) 0 13 0) 0 11 0) npξ ln k9ξ).2 12 (2000 + (4 * k9ξ + 1))), ((zr_rw (zp_set (zp_set (zp_set V 0 0 0) 0 13 0) 0 11 0) npξ ln k9ξ).2 12 (2000 + (4 * k9ξ + 2))), ((zr_rw (zp_set (zp_set (zp_set V 0 0 0) 0 13 0) 0 11 0) npξ ln k9ξ).2 12 (2000 + (4 * k9ξ + 3))), (-1)] rfl ⟨zp_o2 (zM_P hMξ (List.mem_of_getElem? (i := 0) rfl)), zp_o0 (by omega) (by omega) (by omega) (by omega), zp_o0 (by omega) (by omega) (by omega) (by omega), zp_o0 (by omega) (by omega) (by omega) (by omega), zp_o0 (by omega) (by omega) (by omega) (by omega), zp_o0 (by omega) (by omega) (by omega) (by omega), trivial⟩ (Nat.le_of_ble_eq_true rfl) ⟨⟨M, hMξ, hVξ, hSbξ⟩, rfl, hR9ξ, hnp9ξ, hnp6ξ, hn9ξ, hn9bξ⟩ (fun al halξ rnw Pw Gw hextwξ hfrwξ hokwξ hcswξ hpsiwξ => ?_)
            obtain rfl := List.mem_singleton.mp halξ
            have hrwξ := zp_int (hokwξ _ rfl).1
            obtain ⟨hPewξ, ⟨Mw, hMwξ, hVwξ, hSbwξ⟩, htwξ⟩ := hpsiwξ
            subst hPewξ
            clear hextwξ hfrwξ hcswξ hokwξ
            have hVwξ : ∀ o k, zNs o k → Mw o k = (zf_wk1 (zr_rw (zp_set (zp_set (zp_set V 0 0 0) 0 13 0) 0 11 0) npξ ln k9ξ).2 npξ n9ξ ((zr_rw (zp_set (zp_set (zp_set V 0 0 0) 0 13 0) 0 11 0) npξ ln k9ξ).2 12 (2000 + 4 * k9ξ)) ((zr_rw (zp_set (zp_set (zp_set V 0 0 0) 0 13 0) 0 11 0) npξ ln k9ξ).2 12 (2000 + (4 * k9ξ + 1))) ((zr_rw (zp_set (zp_set (zp_set V 0 0 0) 0 13 0) 0 11 0) npξ ln k9ξ).2 12 (2000 + (4 * k9ξ + 2))) ((zr_rw (zp_set (zp_set (zp_set V 0 0 0) 0 13 0) 0 11 0) npξ ln k9ξ).2 12 (2000 + (4 * k9ξ + 3))) (-1)).2 o k := hVwξ
            have hbwξ := zf_wk16 (zr_rw (zp_set (zp_set (zp_set V 0 0 0) 0 13 0) 0 11 0) npξ ln k9ξ).2 npξ n9ξ ((zr_rw (zp_set (zp_set (zp_set V 0 0 0) 0 13 0) 0 11 0) npξ ln k9ξ).2 12 (2000 + 4 * k9ξ)) ((zr_rw (zp_set (zp_set (zp_set V 0 0 0) 0 13 0) 0 11 0) npξ ln k9ξ).2 12 (2000 + (4 * k9ξ + 1))) ((zr_rw (zp_set (zp_set (zp_set V 0 0 0) 0 13 0) 0 11 0) npξ ln k9ξ).2 12 (2000 + (4 * k9ξ + 2))) ((zr_rw (zp_set (zp_set (zp_set V 0 0 0) 0 13 0) 0 11 0) npξ ln k9ξ).2 12 (2000 + (4 * k9ξ + 3))) (-1) hn9bξ
            have htwξ : rnw = (zf_wk1 (zr_rw (zp_set (zp_set (zp_set V 0 0 0) 0 13 0) 0 11 0) npξ ln k9ξ).2 npξ n9ξ ((zr_rw (zp_set (zp_set (zp_set V 0 0 0) 0 13 0) 0 11 0) npξ ln k9ξ).2 12 (2000 + 4 * k9ξ)) ((zr_rw (zp_set (zp_set (zp_set V 0 0 0) 0 13 0) 0 11 0) npξ ln k9ξ).2 12 (2000 + (4 * k9ξ + 1))) ((zr_rw (zp_set (zp_set (zp_set V 0 0 0) 0 13 0) 0 11 0) npξ ln k9ξ).2 12 (2000 + (4 * k9ξ + 2))) ((zr_rw (zp_set (zp_set (zp_set V 0 0 0) 0 13 0) 0 11 0) npξ ln k9ξ).2 12 (2000 + (4 * k9ξ + 3))) (-1)).1 := htwξ
            have htwξ := (Eq.symm htwξ)
            subst htwξ
            have e4 : zr_w4q (zr_rw (zp_set (zp_set (zp_set V 0 0 0) 0 13 0) 0 11 0) npξ ln k9ξ).2 npξ k9ξ = zf_wk1 (zr_rw (zp_set (zp_set (zp_set V 0 0 0) 0 13 0) 0 11 0) npξ ln k9ξ).2 npξ n9ξ ((zr_rw (zp_set (zp_set (zp_set V 0 0 0) 0 13 0) 0 11 0) npξ ln k9ξ).2 12 (2000 + 4 * k9ξ)) ((zr_rw (zp_set (zp_set (zp_set V 0 0 0) 0 13 0) 0 11 0) npξ ln k9ξ).2 12 (2000 + (4 * k9ξ + 1))) ((zr_rw (zp_set (zp_set (zp_set V 0 0 0) 0 13 0) 0 11 0) npξ ln k9ξ).2 12 (2000 + (4 * k9ξ + 2))) ((zr_rw (zp_set (zp_set (zp_set V 0 0 0) 0 13 0) 0 11 0) npξ ln k9ξ).2 12 (2000 + (4 * k9ξ + 3))) (-1) := by
              unfold zr_w4q
              rw [hn9ξ, Int.toNat_natCast]
            by_cases hz9ξ : 0 ≤ ((zf_wk1 (zr_rw (zp_set (zp_set (zp_set V 0 0 0) 0 13 0) 0 11 0) npξ ln k9ξ).2 npξ n9ξ ((zr_rw (zp_set (zp_set (zp_set V 0 0 0) 0 13 0) 0 11 0) npξ ln k9ξ).2 12 (2000 + 4 * k9ξ)) ((zr_rw (zp_set (zp_set (zp_set V 0 0 0) 0 13 0) 0 11 0) npξ ln k9ξ).2 12 (2000 + (4 * k9ξ + 1))) ((zr_rw (zp_set (zp_set (zp_set V 0 0 0) 0 13 0) 0 11 0) npξ ln k9ξ).2 12 (2000 + (4 * k9ξ + 2))) ((zr_rw (zp_set (zp_set (zp_set V 0 0 0) 0 13 0) 0 11 0) npξ ln k9ξ).2 12 (2000 + (4 * k9ξ + 3))) (-1)).1)
            · refine zp_if (pc := 82) (tgt := 91) hx hb (zd_X12_row (82, .ifCond .lt 9, 3, 0, []) (List.mem_of_getElem? (i := 55) rfl)) rfl (fun (hc234ξ : ((zf_wk1 (zr_rw (zp_set (zp_set (zp_set V 0 0 0) 0 13 0) 0 11 0) npξ ln k9ξ).2 npξ n9ξ ((zr_rw (zp_set (zp_set (zp_set V 0 0 0) 0 13 0) 0 11 0) npξ ln k9ξ).2 12 (2000 + 4 * k9ξ)) ((zr_rw (zp_set (zp_set (zp_set V 0 0 0) 0 13 0) 0 11 0) npξ ln k9ξ).2 12 (2000 + (4 * k9ξ + 1))) ((zr_rw (zp_set (zp_set (zp_set V 0 0 0) 0 13 0) 0 11 0) npξ ln k9ξ).2 12 (2000 + (4 * k9ξ + 2))) ((zr_rw (zp_set (zp_set (zp_set V 0 0 0) 0 13 0) 0 11 0) npξ ln k9ξ).2 12 (2000 + (4 * k9ξ + 3))) (-1)).1) < 0) => ?_) (fun (hc234ξ : ¬ (((zf_wk1 (zr_rw (zp_set (zp_set (zp_set V 0 0 0) 0 13 0) 0 11 0) npξ ln k9ξ).2 npξ n9ξ ((zr_rw (zp_set (zp_set (zp_set V 0 0 0) 0 13 0) 0 11 0) npξ ln k9ξ).2 12 (2000 + 4 * k9ξ)) ((zr_rw (zp_set (zp_set (zp_set V 0 0 0) 0 13 0) 0 11 0) npξ ln k9ξ).2 12 (2000 + (4 * k9ξ + 1))) ((zr_rw (zp_set (zp_set (zp_set V 0 0 0) 0 13 0) 0 11 0) npξ ln k9ξ).2 12 (2000 + (4 * k9ξ + 2))) ((zr_rw (zp_set (zp_set (zp_set V 0 0 0) 0 13 0) 0 11 0) npξ ln k9ξ).2 12 (2000 + (4 * k9ξ + 3))) (-1)).1) < 0)) => ?_)
              · exfalso
                omega
              · refine zp_iinc (L' := [(2, 0, ((zr_rw (zp_set (zp_set (zp_set V 0 0 0) 0 13 0) 0 11 0) npξ ln k9ξ).1 + 1)), (3, 0, (4 * (k9ξ : Int))), (0, 2, (A 0 : Int)), (1, 0, (ln : Int))]) (n := ((zr_rw (zp_set (zp_set (zp_set V 0 0 0) 0 13 0) 0 11 0) npξ ln k9ξ).1 + 1)) (pc := 85) hx hb hnLξ (zd_X12_row (85, .iinc 2 1, 3, 0, []) (List.mem_of_getElem? (i := 56) rfl)) (j := 1) rfl (by omega) (zp_r0 (by omega) (by omega)) rfl rfl ?_
                refine zp_goto (tgt := 101) (pc := 88) hx hb (zd_X12_row (88, .goto 13, 3, 0, []) (List.mem_of_getElem? (i := 57) rfl)) rfl ?_
                refine zp_iinc (L' := [(3, 0, (4 * (k9ξ : Int) + 4)), (2, 0, ((zr_rw (zp_set (zp_set (zp_set V 0 0 0) 0 13 0) 0 11 0) npξ ln k9ξ).1 + 1)), (0, 2, (A 0 : Int)), (1, 0, (ln : Int))]) (n := (4 * (k9ξ : Int) + 4)) (pc := 101) hx hb hnLξ (zd_X12_row (101, .iinc 3 4, 3, 0, []) (List.mem_of_getElem? (i := 64) rfl)) (j := 1) rfl (by omega) (zp_r0 (by omega) (by omega)) rfl rfl ?_
                refine zp_goto (tgt := 35) (pc := 104) hx hb (zd_X12_row (104, .goto (-69), 3, 0, []) (List.mem_of_getElem? (i := 65) rfl)) rfl ?_
                have hcwξ : zr_rw (zp_set (zp_set (zp_set V 0 0 0) 0 13 0) 0 11 0) npξ ln (k9ξ + 1) = (((zr_rw (zp_set (zp_set (zp_set V 0 0 0) 0 13 0) 0 11 0) npξ ln k9ξ).1 + 1), (zf_wk1 (zr_rw (zp_set (zp_set (zp_set V 0 0 0) 0 13 0) 0 11 0) npξ ln k9ξ).2 npξ n9ξ ((zr_rw (zp_set (zp_set (zp_set V 0 0 0) 0 13 0) 0 11 0) npξ ln k9ξ).2 12 (2000 + 4 * k9ξ)) ((zr_rw (zp_set (zp_set (zp_set V 0 0 0) 0 13 0) 0 11 0) npξ ln k9ξ).2 12 (2000 + (4 * k9ξ + 1))) ((zr_rw (zp_set (zp_set (zp_set V 0 0 0) 0 13 0) 0 11 0) npξ ln k9ξ).2 12 (2000 + (4 * k9ξ + 2))) ((zr_rw (zp_set (zp_set (zp_set V 0 0 0) 0 13 0) 0 11 0) npξ ln k9ξ).2 12 (2000 + (4 * k9ξ + 3))) (-1)).2) := by
                  rw [zr_rw]
                  rw [e4, if_pos ⟨by omega, hz9ξ⟩]
                have hfr9ξ : (4 * (k9ξ : Int) + 4) = 4 * ((k9ξ + 1 : Nat) : Int) := by omega
                rw [hfr9ξ]
                have hccξ : ((zr_rw (zp_set (zp_set (zp_set V 0 0 0) 0 13 0) 0 11 0) npξ ln k9ξ).1 + 1) = (zr_rw (zp_set (zp_set (zp_set V 0 0 0) 0 13 0) 0 11 0) npξ ln (k9ξ + 1)).1 := by rw [hcwξ]
                refine zp_drop (L' := [(3, 0, (4 * ((k9ξ + 1 : Nat) : Int))), (2, 0, ((zr_rw (zp_set (zp_set (zp_set V 0 0 0) 0 13 0) 0 11 0) npξ ln k9ξ).1 + 1)), (0, 2, (A 0 : Int)), (1, 0, (ln : Int))]) (by simp) ?_
                rw [hccξ]
                exact ih (k9ξ + 1) Mw Gw (by omega) hMwξ (fun o k hkξ => by rw [hcwξ]; exact hVwξ o k hkξ) hSbwξ
            · have hz8ξ : (zf_wk1 (zr_rw (zp_set (zp_set (zp_set V 0 0 0) 0 13 0) 0 11 0) npξ ln k9ξ).2 npξ n9ξ ((zr_rw (zp_set (zp_set (zp_set V 0 0 0) 0 13 0) 0 11 0) npξ ln k9ξ).2 12 (2000 + 4 * k9ξ)) ((zr_rw (zp_set (zp_set (zp_set V 0 0 0) 0 13 0) 0 11 0) npξ ln k9ξ).2 12 (2000 + (4 * k9ξ + 1))) ((zr_rw (zp_set (zp_set (zp_set V 0 0 0) 0 13 0) 0 11 0) npξ ln k9ξ).2 12 (2000 + (4 * k9ξ + 2))) ((zr_rw (zp_set (zp_set (zp_set V 0 0 0) 0 13 0) 0 11 0) npξ ln k9ξ).2 12 (2000 + (4 * k9ξ + 3))) (-1)).1 < 0 := by omega
              have hX8ξ := zf_wk1_z hz8ξ
              have hVw9ξ : ∀ o k, zNs o k → Mw o k = (zr_rw (zp_set (zp_set (zp_set V 0 0 0) 0 13 0) 0 11 0) npξ ln k9ξ).2 o k := by rw [← hX8ξ]; exact hVwξ
              refine zp_if (pc := 82) (tgt := 91) hx hb (zd_X12_row (82, .ifCond .lt 9, 3, 0, []) (List.mem_of_getElem? (i := 55) rfl)) rfl (fun (hc235ξ : ((zf_wk1 (zr_rw (zp_set (zp_set (zp_set V 0 0 0) 0 13 0) 0 11 0) npξ ln k9ξ).2 npξ n9ξ ((zr_rw (zp_set (zp_set (zp_set V 0 0 0) 0 13 0) 0 11 0) npξ ln k9ξ).2 12 (2000 + 4 * k9ξ)) ((zr_rw (zp_set (zp_set (zp_set V 0 0 0) 0 13 0) 0 11 0) npξ ln k9ξ).2 12 (2000 + (4 * k9ξ + 1))) ((zr_rw (zp_set (zp_set (zp_set V 0 0 0) 0 13 0) 0 11 0) npξ ln k9ξ).2 12 (2000 + (4 * k9ξ + 2))) ((zr_rw (zp_set (zp_set (zp_set V 0 0 0) 0 13 0) 0 11 0) npξ ln k9ξ).2 12 (2000 + (4 * k9ξ + 3))) (-1)).1) < 0) => ?_) (fun (hc235ξ : ¬ (((zf_wk1 (zr_rw (zp_set (zp_set (zp_set V 0 0 0) 0 13 0) 0 11 0) npξ ln k9ξ).2 npξ n9ξ ((zr_rw (zp_set (zp_set (zp_set V 0 0 0) 0 13 0) 0 11 0) npξ ln k9ξ).2 12 (2000 + 4 * k9ξ)) ((zr_rw (zp_set (zp_set (zp_set V 0 0 0) 0 13 0) 0 11 0) npξ ln k9ξ).2 12 (2000 + (4 * k9ξ + 1))) ((zr_rw (zp_set (zp_set (zp_set V 0 0 0) 0 13 0) 0 11 0) npξ ln k9ξ).2 12 (2000 + (4 * k9ξ + 2))) ((zr_rw (zp_set (zp_set (zp_set V 0 0 0) 0 13 0) 0 11 0) npξ ln k9ξ).2 12 (2000 + (4 * k9ξ + 3))) (-1)).1) < 0)) => ?_)
              · refine zp_load (pc := 91) hx hb (zd_X12_row (91, .aload_n 0, 1, 0, []) (List.mem_of_getElem? (i := 58) rfl)) rfl (j := 2) rfl ?_
                refine zp_dup (pc := 92) hx hb (zd_X12_row (92, .dup, 1, 0, []) (List.mem_of_getElem? (i := 59) rfl)) (show (2 : Nat) ≠ 1 by decide) ?_
                refine zp_getf (n := ((zr_rw (zp_set (zp_set (zp_set V 0 0 0) 0 13 0) 0 11 0) npξ ln k9ξ).2 0 11)) (pc := 93) hx hb hEξ hwξ (zd_X12_row (93, .getfield 231, 3, 0, []) (List.mem_of_getElem? (i := 60) rfl)) (j := 29) rfl rfl rfl (zM_P hMwξ (List.mem_of_getElem? (i := 0) rfl)) ((zM_G hMwξ (List.mem_of_getElem? (i := 0) rfl) 11).trans (hVw9ξ 0 11 (Or.inr (by decide)))) ?_
                refine zp_kn (k := 11) (a := (A 0)) hwξ (show zp_fd 13 11 = some (12, 0, 0, (-2147483648), 2147483647) from rfl) rfl (zM_P hMwξ (List.mem_of_getElem? (i := 0) rfl)) (fun hf236ξ => ?_)
                have hf236bξ := zp_int hf236ξ
                rw [((zM_G hMwξ (List.mem_of_getElem? (i := 0) rfl) 11).trans (hVw9ξ 0 11 (Or.inr (by decide))))] at hf236bξ
                clear hf236ξ
                refine zp_const (pc := 96) hx hb (zd_X12_row (96, .iconst 1, 1, 0, []) (List.mem_of_getElem? (i := 61) rfl)) rfl rfl ?_
                refine zp_add (n := (((zr_rw (zp_set (zp_set (zp_set V 0 0 0) 0 13 0) 0 11 0) npξ ln k9ξ).2 0 11) + 1)) (pc := 97) hx hb (zd_X12_row (97, .iadd, 1, 0, []) (List.mem_of_getElem? (i := 62) rfl)) (by omega) (zp_r0 (by omega) (by omega)) ?_
                refine zp_putf (pc := 98) hx hb hEξ hwξ heffξ (zd_X12_row (98, .putfield 231, 3, 0, []) (List.mem_of_getElem? (i := 63) rfl)) (j := 29) rfl rfl rfl (zM_P hMwξ (List.mem_of_getElem? (i := 0) rfl)) (zp_o0 (by omega) (by omega) (by omega) (by omega)) ?_
                refine zp_iinc (L' := [(3, 0, (4 * (k9ξ : Int) + 4)), (2, 0, (zr_rw (zp_set (zp_set (zp_set V 0 0 0) 0 13 0) 0 11 0) npξ ln k9ξ).1), (0, 2, (A 0 : Int)), (1, 0, (ln : Int))]) (n := (4 * (k9ξ : Int) + 4)) (pc := 101) hx hb hnLξ (zd_X12_row (101, .iinc 3 4, 3, 0, []) (List.mem_of_getElem? (i := 64) rfl)) (j := 0) rfl (by omega) (zp_r0 (by omega) (by omega)) rfl rfl ?_
                refine zp_goto (tgt := 35) (pc := 104) hx hb (zd_X12_row (104, .goto (-69), 3, 0, []) (List.mem_of_getElem? (i := 65) rfl)) rfl ?_
                have hcwξ : zr_rw (zp_set (zp_set (zp_set V 0 0 0) 0 13 0) 0 11 0) npξ ln (k9ξ + 1) = ((zr_rw (zp_set (zp_set (zp_set V 0 0 0) 0 13 0) 0 11 0) npξ ln k9ξ).1, (zp_set (zr_rw (zp_set (zp_set (zp_set V 0 0 0) 0 13 0) 0 11 0) npξ ln k9ξ).2 0 11 (((zr_rw (zp_set (zp_set (zp_set V 0 0 0) 0 13 0) 0 11 0) npξ ln k9ξ).2 0 11) + 1))) := by
                  rw [zr_rw]
                  rw [e4, if_neg (fun z9ξ => hz9ξ z9ξ.2)]
                have hfr9ξ : (4 * (k9ξ : Int) + 4) = 4 * ((k9ξ + 1 : Nat) : Int) := by omega
                rw [hfr9ξ]
                have hccξ : (zr_rw (zp_set (zp_set (zp_set V 0 0 0) 0 13 0) 0 11 0) npξ ln k9ξ).1 = (zr_rw (zp_set (zp_set (zp_set V 0 0 0) 0 13 0) 0 11 0) npξ ln (k9ξ + 1)).1 := by rw [hcwξ]
                refine zp_drop (L' := [(3, 0, (4 * ((k9ξ + 1 : Nat) : Int))), (2, 0, (zr_rw (zp_set (zp_set (zp_set V 0 0 0) 0 13 0) 0 11 0) npξ ln k9ξ).1), (0, 2, (A 0 : Int)), (1, 0, (ln : Int))]) (by simp) ?_
                rw [hccξ]
                exact ih (k9ξ + 1) (zp_set Mw 0 11 (((zr_rw (zp_set (zp_set (zp_set V 0 0 0) 0 13 0) 0 11 0) npξ ln k9ξ).2 0 11) + 1)) (zp_set Gw (A 0) 11 (((zr_rw (zp_set (zp_set (zp_set V 0 0 0) 0 13 0) 0 11 0) npξ ln k9ξ).2 0 11) + 1)) (by omega) (zM_set hMwξ (List.mem_of_getElem? (i := 0) rfl) (by decide)) (fun o k hkξ => by rw [hcwξ]; exact (zV_set hVw9ξ) o k hkξ) (zSb_set (by decide) hSbwξ)
              · exfalso
                omega
    refine zp_drop (L' := [(3, 0, 0), (2, 0, 0), (0, 2, (A 0 : Int)), (1, 0, (ln : Int))]) (by simp) ?_
    exact loop ((ln + 3) / 4) 0 (zp_set (zp_set (zp_set M 0 0 0) 0 13 0) 0 11 0) (zp_set (zp_set (zp_set (zp_n u.2.1) (A 0) 0 0) (A 0) 13 0) (A 0) 11 0) (by omega) (zM_set (zM_set (zM_set hMξ (List.mem_of_getElem? (i := 0) rfl) (by decide)) (List.mem_of_getElem? (i := 0) rfl) (by decide)) (List.mem_of_getElem? (i := 0) rfl) (by decide)) (fun o k hkξ => (zV_set (zV_set (zV_set hVξ))) o k hkξ) (zSb_set (by decide) (zSb_set (by decide) (zSb_set (by decide) hSbξ)))
  · refine zp_load (pc := 19) hx hb (zd_X12_row (19, .aload_n 0, 1, 0, []) (List.mem_of_getElem? (i := 11) rfl)) rfl (j := 1) rfl ?_
    refine zp_const (pc := 20) hx hb (zd_X12_row (20, .bipush (-6), 2, 0, []) (List.mem_of_getElem? (i := 12) rfl)) rfl rfl ?_
    refine zp_call (pc := 22) (how := 0) (idx := 170) (mi := 183) (S := []) hx hb hEξ hwξ heffξ hrmξ (zX_tll hWξ A (zp_set (zp_set V 0 0 0) 0 13 0)) rfl (j := 0) rfl rfl (by decide +kernel) (zd_X12_row (22, .invokevirtual 170, 3, 0, []) (List.mem_of_getElem? (i := 13) rfl)) [(A 0 : Int), (-6)] rfl ⟨zp_o2 (zM_P hMξ (List.mem_of_getElem? (i := 0) rfl)), zp_o0 (by omega) (by omega) (by omega) (by omega), trivial⟩ (Nat.le_of_ble_eq_true rfl) ⟨⟨(zp_set (zp_set M 0 0 0) 0 13 0), (zM_set (zM_set hMξ (List.mem_of_getElem? (i := 0) rfl) (by decide)) (List.mem_of_getElem? (i := 0) rfl) (by decide)), (zV_set (zV_set hVξ)), (zSb_set (by decide) (zSb_set (by decide) hSbξ))⟩, rfl, (show -6 ≤ (-6) by omega)⟩ (fun al halξ rnt237ξ Pt237 Gt237 hextt237ξ hfrt237ξ hokt237ξ hcst237ξ hpsit237ξ => ?_)
    obtain rfl := List.mem_singleton.mp halξ
    have hrt237ξ := zp_int (hokt237ξ _ rfl).1
    obtain ⟨hPet237ξ, ⟨Mt237, hMt237ξ, hVt237ξ, hSbt237ξ⟩, htt237ξ⟩ := hpsit237ξ
    subst hPet237ξ
    clear hextt237ξ hfrt237ξ hcst237ξ hokt237ξ
    have hVt237ξ : ∀ o k, zNs o k → Mt237 o k = (zT_tell (zp_set (zp_set V 0 0 0) 0 13 0) (-6)) o k := hVt237ξ
    have htt237ξ : rnt237ξ = (-6) := htt237ξ
    have htt237ξ := (Eq.symm htt237ξ)
    subst htt237ξ
    refine zp_iret (pc := 25) (n := (-6)) hx hb hEξ hQξ hU5ξ rfl (by decide) (zd_X12_row (25, .ireturn, 1, 0, []) (List.mem_of_getElem? (i := 14) rfl)) (j := 0) rfl (zp_o0 (by omega) (by omega) (by omega) (by omega)) ?_
    rw [hpsξ]
    refine ⟨rfl, ?_⟩
    have hffξ : zf_rowr V npξ ln = ((-6), (zT_tell (zp_set (zp_set V 0 0 0) 0 13 0) (-6))) := by unfold zf_rowr; rw [if_pos (by omega)]
    show zMVr A (zf_rowr V npξ ln).2 u.1 Gt237 ∧ (-6) = (zf_rowr V npξ ln).1
    rw [hffξ]
    exact ⟨⟨Mt237, hMt237ξ, hVt237ξ, hSbt237ξ⟩, rfl⟩
