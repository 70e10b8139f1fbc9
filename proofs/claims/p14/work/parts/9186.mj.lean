/-! part mj: law as a call -/
theorem zRow_e3 {R R' : Nat → Int} {n1 np : Nat} (hn : n1 ≤ 10) (hR : ∀ j, j ≠ 3 → j ≠ 4 → zVr j → j < 180 → R' j = R j) (h : zRow R n1 np) : zRow R' n1 np := by
  have h9 : ∀ j, (j = 2 ∨ j = 6 ∨ (39 ≤ j ∧ j < 89) ∨ 153 ≤ j) → j < 180 → R' j = R j := fun j h1 h2 => hR j (by omega) (by omega) (by unfold zVr; omega) h2
  obtain ⟨⟨ns, s1, s2, s3⟩, o1, w1, r6, z1, z2, z3⟩ := h
  refine ⟨⟨ns, s1, (h9 2 (by omega) (by omega)).trans s2, fun s hs => ?_⟩, fun w hw => ?_, fun w hw => ?_, ?_, (h9 177 (by omega) (by omega)).trans z1, (h9 178 (by omega) (by omega)).trans z2, (h9 179 (by omega) (by omega)).trans z3⟩
  · rw [h9 (3 * s + 153) (by omega) (by omega), h9 (3 * s + 154) (by omega) (by omega)]
    exact s3 s hs
  · rw [h9 (5 * w + 39) (by omega) (by omega)]
    exact o1 w hw
  · rw [h9 (5 * w + 42) (by omega) (by omega)]
    exact w1 w hw
  · rw [h9 6 (by omega) (by omega)]
    exact r6
theorem zPl_n3 : ∀ j, j < 180 → j ≠ 3 → ((zPl j).1 = 1 ∧ (zPl j).2 ≠ 14) ∨ (zPl j).1 = 2 ∨ (30 ≤ (zPl j).1 ∧ (zPl j).1 < 40) ∨ (50 ≤ (zPl j).1 ∧ (zPl j).1 < 53) := by decide +kernel
/-- behind law: all of it, from what it tells -/
theorem zF_lw {A A' : Nat → Nat} {Y Y' : List (Nat × Nat)} {F F' : List (Nat × Nat × Nat)} {V V' W W' : Nat → Nat → Int} {n1 np : Nat} {Lw : List yK} (h : zCo V W n1 np Lw) (he : zEx A Y F V W n1 np) (hlaw : zLaw A' Y' F' W' 40 (zRw V')) (hrb : ∀ j, j < 5580 → -2147483648 ≤ V' 3 (2000 + j) ∧ V' 3 (2000 + j) ≤ 2147483647) (h20 : V' 0 20 = 0) (h3 : ∀ j, j < 180 → j ≠ 3 → V' 3 (2000 + j) = V 3 (2000 + j)) (h14 : W' 1 14 = V' 3 (2000 + 3)) (hV : ∀ o k, ((o ∈ zCl ∧ o ∉ ([2, 3] : List Nat)) ∨ (o = 0 ∧ k ∈ zCk ∧ k ∉ ([1, 13, 18, 20, 30] : List Nat))) → V' o k = V o k) (hW : ∀ o k, ((o = 1 ∧ k ≠ 14) ∨ o = 2 ∨ o = 3 ∨ (30 ≤ o ∧ o < 40) ∨ (50 ≤ o ∧ o < 53) ∨ o = 55 ∨ o = 62 ∨ o = 63 ∨ o = 6 ∨ o = 7 ∨ o = 71 ∨ (o = 0 ∧ (k = 15 ∨ k = 17))) → W' o k = W o k) (hst : zSt V' W') (h13 : V' 0 13 = 0) (h11 : W' 11 1 = 0) (hf : W' 12 2 = V' 0 18) (h30 : 0 ≤ V' 0 30) (him : zIms A' Y' F' V' W') : zFull A' Y' F' V' W' := by
  obtain ⟨g1, g2, g3, g4, g5, g6⟩ := h
  obtain ⟨c1, c2, c3, c4, c5, c6, c7⟩ := he
  have vo : ∀ o k, (o = 4 ∨ o = 5 ∨ o = 6 ∨ o = 7 ∨ o = 12 ∨ o = 31 ∨ o = 32 ∨ o = 33 ∨ o = 62 ∨ (o = 0 ∧ (k = 8 ∨ k = 11 ∨ k = 47 ∨ k = 59 ∨ k = 63))) → V' o k = V o k := fun o k ho => hV o k (by
    unfold zCl zCk
    simp only [List.mem_cons, List.not_mem_nil, or_false]
    omega)
  have hn1 := g2.1.1
  have hr : zRr V' W' := fun j hj => by
    by_cases cj : j = 3
    · subst cj
      exact h14
    · rw [zRc_pl, h3 j hj cj]
      have h9 := g1 j hj
      rw [zRc_pl] at h9
      have h8 := zPl_n3 j hj cj
      exact (hW _ _ (by omega)).trans h9
  obtain ⟨a1, a2⟩ := zRr_34 hr
  obtain ⟨Lw', k1, k2, k3, k4⟩ := zLaw_f (R := zRw V') a1 a2 hlaw
  have hrow : zRow (zRw V') n1 np := zRow_e3 hn1 (fun j j3 _ _ hj => h3 j hj j3) c2
  have hU : zUU V' W' n1 np := by
    have u1 := zUU_p (j := 3) (v := V' 3 (2000 + 3)) (by decide) (hrb 3 (by decide)) g6
    refine zUU_e ⟨?_, fun j hj => ?_, fun j hj => ?_⟩ (fun j hj _ => ?_) (zUd_f (fun o k ho => hW o k (by omega))) u1
    · exact (vo 0 8 (by omega)).trans (zp_set_ne (Or.inl (by decide))).symm
    · exact (vo 6 _ (by omega)).trans (zp_set_ne (Or.inl (by decide))).symm
    · exact (vo 7 _ (by omega)).trans (zp_set_ne (Or.inl (by decide))).symm
    · by_cases cj : j = 3
      · subst cj
        exact zp_set_self.symm
      · exact (h3 j (by omega) cj).trans (zp_set_ne (Or.inr (by omega))).symm
  have hc : zCo V' W' n1 np Lw' := ⟨hr, zRok_q2 (fun j hj h2 => h3 j (by omega) (by omega)) (fun j hj => hrb j (by omega)) g2, ⟨hrb, k1, k2, k3, h20⟩, (vo 0 47 (by omega)).trans g4, hst, hU⟩
  refine ⟨n1, np, Lw', hc, k4, hlaw, hrow, ⟨h11.trans h13.symm, by omega, fun j hj => ?_, fun j => ?_⟩, ⟨?_, hf, ?_⟩, zDwn_e (vo _ _ (by omega)) (fun k => vo _ _ (by omega)) (fun o k ho => hW _ _ (by omega)) c5, him, zCst_e h30 (fun o k ho => vo _ _ (by omega)) c7⟩
  · rw [hW 71 _ (by omega), vo 12 _ (by omega)]
    exact c3.2.2.1 j hj
  · rw [vo 12 _ (by omega)]
    exact c3.2.2.2 j
  · rw [hW 0 17 (by omega), vo 0 11 (by omega)]
    exact c4.1
  · rw [hW 0 15 (by omega), vo 0 59 (by omega)]
    exact c4.2.2
/-- what law tells in the reference -/
noncomputable def zlwR (V V' : Nat → Nat → Int) (ln : Nat) (rn : Int) : Prop := (V' 0 13 = 0 ∧ 0 ≤ V' 0 30 ∧ V' 0 20 = 0) ∧ (V' 0 1 = zT_tell V rn 0 1 ∧ ∀ k, V' 2 k = zT_tell V rn 2 k) ∧ (V 3 (2000 + 3) = 6 → rn = -5 ∧ (∀ j, j < 5580 → V' 3 (2000 + j) = V 3 (2000 + j)) ∧ V' 0 18 = V 0 18) ∧ (¬ V 3 (2000 + 3) = 6 → ∃ s, yT (zy_so (fun j => V 12 (2000 + j)) ln) (zy_wo (fun j => V 12 (2000 + j)) ln) (zy_to (fun j => V 12 (2000 + j)) ln) (yt_cl (zy_so (fun j => V 12 (2000 + j)) ln) (zy_wo (fun j => V 12 (2000 + j)) ln) (zy_to (fun j => V 12 (2000 + j)) ln) (ylf false (fun j => V 12 (2000 + j)) ln)) 12 0 0 s ∧ ((∃ q, s = Sum.inl q ∧ rn = -6 ∧ (∀ j, j < 5580 → V' 3 (2000 + j) = V 3 (2000 + j)) ∧ V' 0 18 = (zy_fr (fun j => V 12 (2000 + j)) ln q : Int)) ∨ ∃ (L : List yK) (n : Nat), s = Sum.inr L ∧ n < 6 ∧ V 3 (2000 + 3) = (n : Int) ∧ rn = (n : Int) ∧ V' 0 18 = -1 ∧ V' 3 (2000 + 3) = (n : Int) + 1 ∧ (∀ j, j < 5580 → j ≠ 3 → (j < 180 + 900 * n ∨ 1080 + 900 * n ≤ j) → V' 3 (2000 + j) = V 3 (2000 + j)) ∧ zRl (zRw V') (180 + 900 * n) L))
theorem zR_lw {A : Nat → Nat} {V V' : Nat → Nat → Int} {P P' : Nat → Option Nat} {G G' : Nat → Nat → Int} {ps : List Int} {rn : Int} {ln : Nat} (h : zMVr A V P G) (h' : zMVr A V' P' G') (h0 : zp_0 ps = A 0) (hψ : zψ_lx13 (fun j => V 12 (2000 + j)) ln P G ps P' G' rn) : zlwR V V' ln rn := by
  have i0 : (0, 13) ∈ zYr := List.mem_of_getElem? (i := 0) rfl
  have f13 : G' (A 0) 13 = V' 0 13 := zMVr_G h' i0 (Or.inr (by decide))
  have f30 : G' (A 0) 30 = V' 0 30 := zMVr_G h' i0 (Or.inr (by decide))
  have f20 : G' (A 0) 20 = V' 0 20 := zMVr_G h' i0 (Or.inr (by decide))
  have f18 : G' (A 0) 18 = V' 0 18 := zMVr_G h' i0 (Or.inr (by decide))
  have f1 : G' (A 0) 1 = V' 0 1 := zMVr_G h' i0 (Or.inr (by decide))
  have e18 : G (A 0) 18 = V 0 18 := zMVr_G h i0 (Or.inr (by decide))
  have v3 : ∀ j, zv G (A 0) 3 j = V 3 (2000 + j) := zMVr_v h
  have v3' : ∀ j, zv G' (A 0) 3 j = V' 3 (2000 + j) := zMVr_v h'
  have eR : zv G' (A 0) 3 = zRw V' := funext v3'
  have e2 : G (A 0) 2 = (A 2 : Int) := zMVr_F h i0 (k := 2) (o' := 2) (by decide)
  have p2 : P (A 2) = some 58 := zMVr_P h (by decide)
  have d2 : ∀ k, G (A 2) k = V 2 k := fun k => zMVr_G h (t := 58) (by decide) (Or.inl (by decide))
  have d2' : ∀ k, G' (A 2) k = V' 2 k := fun k => zMVr_G h' (t := 58) (by decide) (Or.inl (by decide))
  obtain ⟨q1, q2⟩ := hψ
  rw [h0] at q1 q2
  have q2 := q2 (A 2) e2 p2
  unfold zDl at q1
  unfold zDts at q2
  rw [f13, f30, f20, f18, e18, eR] at q1
  simp only [v3] at q1
  rw [f1] at q2
  simp only [d2, d2'] at q2
  obtain ⟨a1, a2, a3, a4, a5⟩ := q1
  refine ⟨⟨a1, a2, a3⟩, ⟨?_, fun k => ?_⟩, a4, a5⟩
  · rw [q2.1]
    unfold zT_tell
    by_cases c : rn < 0
    · rw [if_pos c, if_pos c, zp_set_ne (Or.inl (by decide)), zp_set_self]
    · rw [if_neg c, if_neg c, zp_set_self]
  · rw [q2.2 k]
    unfold zT_tell
    by_cases c : rn < 0
    · rw [if_pos c]
      by_cases d : k = 2000 + (-rn).toNat
      · rw [if_pos ⟨c, d⟩, d, zp_set_self]
      · rw [if_neg (fun z => d z.2), zp_set_ne (Or.inr d), zp_set_ne (Or.inl (by decide))]
    · rw [if_neg (fun z => c z.1), if_neg c, zp_set_ne (Or.inl (by decide))]
/-- what law tells in the class -/
noncomputable def zlwW (W1 : Nat → Nat → Int) (n cp : Int) : Nat → Nat → Int := (zf_ans (zp_set (zp_set (zp_set W1 11 1 0) 40 (2000 + n.toNat) cp) 1 14 (n + 1)) n).2
noncomputable def zlwC (A : Nat → Nat) (Y : List (Nat × Nat)) (F : List (Nat × Nat × Nat)) (W : Nat → Nat → Int) (ln : Nat) (A' : Nat → Nat) (Y' : List (Nat × Nat)) (F' : List (Nat × Nat × Nat)) (W' : Nat → Nat → Int) (rn : Int) : Prop := (6 ≤ W 1 14 ∧ rn = -5 ∧ A' = A ∧ Y' = Y ∧ F' = F ∧ W' = (zf_rfs (zp_set W 11 1 0) (-5)).2) ∨ (W 1 14 < 6 ∧ ∃ s W1, zVk W W1 ∧ yT (zy_so (fun j => W 71 (2000 + j)) ln) (zy_wo (fun j => W 71 (2000 + j)) ln) (zy_to (fun j => W 71 (2000 + j)) ln) (yt_cl (zy_so (fun j => W 71 (2000 + j)) ln) (zy_wo (fun j => W 71 (2000 + j)) ln) (zy_to (fun j => W 71 (2000 + j)) ln) (ylf false (fun j => W 71 (2000 + j)) ln)) 12 0 0 s ∧ ((∃ q, s = Sum.inl q ∧ W1 12 2 = (zy_fr (fun j => W 71 (2000 + j)) ln q : Int) ∧ rn = -6 ∧ A' = A ∧ Y' = Y ∧ F' = F ∧ W' = (zf_rfs (zp_set W1 11 1 0) (-6)).2) ∨ ∃ (L : List yK) (c : Nat), s = Sum.inr L ∧ W1 12 2 = -1 ∧ rn = W 1 14 ∧ zExt A Y F A' Y' F' ∧ (∀ o k, o < 100 → A' o = A o ∧ W' o k = zlwW W1 (W 1 14) (A' c : Int) o k) ∧ (∀ q ∈ Y, ∀ k, W' q.1 k = zlwW W1 (W 1 14) (A' c : Int) q.1 k) ∧ zLT Y' F' W' c L))
theorem zC_lw {A : Nat → Nat} {Y : List (Nat × Nat)} {F : List (Nat × Nat × Nat)} {W : Nat → Nat → Int} {P P' : Nat → Option Nat} {G G' : Nat → Nat → Int} {ps : List Int} {rn : Int} {ln : Nat} (hY : zMc Y F) (h : zMVc A Y F W P G) (hψ : zψ_lwc A Y F W ln P G ps P' G' rn) : ∃ A' Y' F' W', zMVc A' Y' F' W' P' G' ∧ zMc Y' F' ∧ A' 0 = A 0 ∧ zlwC A Y F W ln A' Y' F' W' rn := by
  rcases hψ with ⟨h1, h2, h3, h4⟩ | ⟨h1, s, W1, h2, h3, h4⟩
  · exact ⟨A, Y, F, _, h4, hY, rfl, Or.inl ⟨h1, h3, rfl, rfl, rfl, rfl⟩⟩
  · rcases h4 with ⟨q, q1, q2, q3, q4, q5⟩ | ⟨L, cp, b, q1, q2, q3, q4, q5, q6⟩
    · exact ⟨A, Y, F, _, q5, hY, rfl, Or.inr ⟨h1, s, W1, h2, h3, Or.inl ⟨q, q1, q2, q4, rfl, rfl, rfl, rfl⟩⟩⟩
    · obtain ⟨A', Y', F', W', c, e1, e2, e3, e4, e5, e6, e7⟩ := zN_text hY (zMVc_P h) q6 q5
      refine ⟨A', Y', F', W', e3, e2, (e4 0 0 (by decide)).1, Or.inr ⟨h1, s, W1, h2, h3, Or.inr ⟨L, c, q1, q2, q3, e1, fun o k ho => ?_, fun q hq k => ?_, e7⟩⟩⟩
      · rw [e6]
        exact e4 o k ho
      · rw [e6]
        exact e5 q hq k
theorem zIM_y {A A' : Nat → Nat} {Y Y' : List (Nat × Nat)} {F F' : List (Nat × Nat × Nat)} {c : Nat} (hE : zExt A Y F A' Y' F') (h : zIM Y F c) : zIM Y' F' c := ⟨h.1, fun q hq => hE.1 _ (h.2.1 q hq), fun r hr => hE.2.1 _ (h.2.2 r hr)⟩
theorem zPi_y {Y : List (Nat × Nat)} {F : List (Nat × Nat × Nat)} {c j : Nat} (h : zIM Y F c) (hj : j < 177) : ∃ t, ((zPi c j).1, t) ∈ Y := by
  have h9 : ∀ d ∈ ([1, 2, 30, 31, 32, 33, 34, 35, 36, 37, 38, 39, 40, 50, 51, 52] : List Nat), ∃ q ∈ zIMy, zτb c (d + 100) = c + q.1 := by
    intro d hd
    simp only [List.mem_cons, List.not_mem_nil, or_false] at hd
    unfold zτb
    rcases hd with rfl | rfl | rfl | rfl | rfl | rfl | rfl | rfl | rfl | rfl | rfl | rfl | rfl | rfl | rfl | rfl
    all_goals simp [zIMy]
  obtain ⟨q, q1, q2⟩ := h9 _ (zPk_d (zPk_l hj))
  refine ⟨q.2, ?_⟩
  show (zτb c ((zPl j).1 + 100), q.2) ∈ Y
  rw [q2]
  exact h.2.1 q q1
theorem zIm1_y {A A' : Nat → Nat} {Y Y' : List (Nat × Nat)} {F F' : List (Nat × Nat × Nat)} {V W W' : Nat → Nat → Int} {k : Nat} (hE : zExt A Y F A' Y' F') (h22 : W' 22 (2000 + k) = W 22 (2000 + k)) (hW : ∀ q ∈ Y, 100 ≤ q.1 → ∀ j, W' q.1 j = W q.1 j) (h : zIm1 A Y F V W k) : zIm1 A' Y' F' V W' k := by
  unfold zIm1 at h ⊢
  rw [h22]
  rcases h with h | ⟨g0, c, n1, np, g1, g2, g3, g4, g5, g6, g7⟩
  · exact Or.inl h
  · refine Or.inr ⟨g0, c, n1, np, ?_, zIM_y hE g2, fun j hj => ?_, ?_, g5, g6, g7⟩
    · rw [hE.2.2 (c, 93) (by
        have h9 := g2.2.1 (0, 93) (by decide)
        exact h9)]
      exact g1
    · obtain ⟨t, ht⟩ := zPi_y g2 hj
      have h1 := (zPi_c (c := c) hj).1
      exact (hW _ ht (Nat.le_trans g2.1 h1) _).trans (g3 j hj)
    · obtain ⟨nl, l1, l2, l3, l4⟩ := g4
      refine ⟨nl, l1, l2, l3, fun i hi => ?_⟩
      obtain ⟨L, c2, r1, r2, r3⟩ := l4 i hi
      have hy := g2.2.1 (11, 52) (by decide)
      refine ⟨L, c2, r1, ?_, ?_⟩
      · rw [hE.2.2 (c2, 9) r3.2.1.1]
        exact (hW (c + 11, 52) hy (Nat.le_trans g2.1 (Nat.le_add_right _ _)) _).trans r2
      · obtain ⟨e1, ⟨y0, y1, y2, y3, y4⟩, ⟨f0, f1, f2, f3⟩, N, n0, n1, n4, nc, A1, C1, a1, ⟨a2, a3, a4, a5⟩, ⟨b1, b2, b3, b4⟩, d1, d2⟩ := r3
        have w0 := hW _ y0 e1
        have w1 := hW _ y1 (Nat.le_trans e1 (Nat.le_add_right _ _))
        have w2 := hW _ y2 (Nat.le_trans e1 (Nat.le_add_right _ _))
        have w3 := hW _ y3 (Nat.le_trans e1 (Nat.le_add_right _ _))
        have w4 := hW _ y4 (Nat.le_trans e1 (Nat.le_add_right _ _))
        exact ⟨e1, ⟨hE.1 _ y0, hE.1 _ y1, hE.1 _ y2, hE.1 _ y3, hE.1 _ y4⟩, ⟨hE.2.1 _ f0, hE.2.1 _ f1, hE.2.1 _ f2, hE.2.1 _ f3⟩, N, n0, n1, n4, nc, A1, C1, (w0 _).trans a1, ⟨(w1 _).trans a2, (w2 _).trans a3, (w3 _).trans a4, (w4 _).trans a5⟩, ⟨fun j => (w1 _).trans (b1 j), fun j => (w2 _).trans (b2 j), fun j => (w3 _).trans (b3 j), fun j => (w4 _).trans (b4 j)⟩, d1, d2⟩
theorem zP_lw {A A' : Nat → Nat} {Y Y' : List (Nat × Nat)} {F F' : List (Nat × Nat × Nat)} {V V' W W' : Nat → Nat → Int} {ln : Nat} {rn rn' : Int} (h : zFull A Y F V W) (hln : V 0 13 = (ln : Int)) (hC : zlwC A Y F W ln A' Y' F' W' rn) (hR : zlwR V V' ln rn') (hV : ∀ o k, ((o ∈ zCl ∧ o ∉ ([2, 3] : List Nat)) ∨ (o = 0 ∧ k ∈ zCk ∧ k ∉ ([1, 13, 18, 20, 30] : List Nat))) → V' o k = V o k) (hrb : ∀ j, j < 5580 → -2147483648 ≤ V' 3 (2000 + j) ∧ V' 3 (2000 + j) ≤ 2147483647) : rn = rn' ∧ zFull A' Y' F' V' W' := by
  obtain ⟨n1, np, Lw, h, hl, he⟩ := h
  obtain ⟨t1, t2, t3, t4⟩ := he.2.2.1
  obtain ⟨a14, a15⟩ := zRr_34 h.1
  obtain ⟨⟨r13, r30, r20⟩, ⟨r1, r2⟩, rA, rB⟩ := hR
  have hnl : V 3 (2000 + 3) ≤ 6 ∧ 0 ≤ V 3 (2000 + 3) := by
    obtain ⟨nl, l1, l2, -⟩ := he.1
    have l1 : V 3 (2000 + 3) = (nl : Int) := l1
    omega
  have v4 : ∀ k, V' 4 k = V 4 k := fun k => hV 4 k (Or.inl ⟨by decide, by decide⟩)
  have v5 : ∀ k, V' 5 k = V 5 k := fun k => hV 5 k (Or.inl ⟨by decide, by decide⟩)
  have st : ∀ X : Nat → Nat → Int, X 0 18 = W 0 18 → (∀ k, X 20 k = W 20 k) → -6 ≤ rn' → zSt V' (zf_stc X rn').2 := fun X x1 x2 h6 => zSt_e (zSt_stc (zSt_e h.2.2.2.2.1 rfl (fun _ => rfl) x1 x2) h6) r1 r2 rfl (fun _ => rfl)
  have hB : ∀ j, j < ln → (fun j => W 71 (2000 + j)) j = (fun j => V 12 (2000 + j)) j := fun j hj => t3 j (by omega)
  -- refused: W2 is what stands ahead of the refusal
  have refuse : ∀ (W2 : Nat → Nat → Int) (v : Int), rn' = v → -6 ≤ v → v < 0 → (∀ j, j < 5580 → V' 3 (2000 + j) = V 3 (2000 + j)) → (∀ o k, zNc o → o ≠ 12 → (o ≠ 11 ∨ k = 0) → W2 o k = W o k) → W2 11 1 = 0 → W2 12 2 = V' 0 18 → zFull A Y F V' (zf_rfs W2 v).2 := fun W2 v hv h6 h0 hrow hw h11 hf => by
    have kk : ∀ o k, o ≠ 20 → (o ≠ 0 ∨ k ≠ 18) → (zf_rfs W2 v).2 o k = W2 o k := fun o k c1 c2 => zf_rfs_k c1 c2
    have nc : ∀ o, (o = 0 ∨ o = 1 ∨ o = 2 ∨ o = 3 ∨ o = 6 ∨ o = 7 ∨ o = 20 ∨ o = 22 ∨ (30 ≤ o ∧ o ≤ 40) ∨ (50 ≤ o ∧ o ≤ 63) ∨ o = 71 ∨ 100 ≤ o) → zNc o := fun o ho hm => by
      simp only [List.mem_cons, List.not_mem_nil, or_false] at hm
      omega
    have wk : ∀ o k, (o = 1 ∨ o = 2 ∨ o = 3 ∨ o = 6 ∨ o = 7 ∨ o = 22 ∨ (30 ≤ o ∧ o ≤ 40) ∨ (50 ≤ o ∧ o ≤ 63) ∨ o = 71 ∨ 100 ≤ o ∨ (o = 0 ∧ (k = 15 ∨ k = 17))) → (zf_rfs W2 v).2 o k = W o k := fun o k ho => (kk o k (by omega) (by omega)).trans (hw o k (nc o (by omega)) (by omega) (by omega))
    have hs := st W2 (hw 0 18 (nc 0 (by omega)) (by decide) (Or.inl (by decide))) (fun k => hw 20 k (nc 20 (by omega)) (by decide) (Or.inl (by decide))) (by omega)
    rw [hv] at hs
    unfold zf_stc at hs
    rw [if_neg (by omega)] at hs
    refine zF_lw h he (zLaw_e (fun i _ => wk _ _ (by omega)) (fun o k t _ _ ho => wk o k (by omega)) (fun j _ hj => hrow j hj) he.1) hrb r20 (fun j hj _ => hrow j (by omega)) ?_ hV (fun o k ho => wk o k (by omega)) hs r13 ?_ ?_ r30 (zIms_e v4 v5 (fun k => wk _ _ (by omega)) (fun o k ho => wk _ _ (by omega)) he.2.2.2.2.2.1)
    · rw [wk 1 14 (by omega), hrow 3 (by decide)]
      exact a14
    · rw [kk 11 1 (by decide) (by decide)]
      exact h11
    · rw [kk 12 2 (by decide) (by decide)]
      exact hf
  rcases hC with ⟨c1, c2, rfl, rfl, rfl, rfl⟩ | ⟨c1, s, W1, c2, c3, c4⟩
  · obtain ⟨d1, d2, d3⟩ := rA (by omega)
    refine ⟨by omega, refuse _ (-5) d1 (by decide) (by decide) d2 (fun o k _ h12 h11 => zp_set_ne (by omega)) zp_set_self ?_⟩
    rw [zp_set_ne (Or.inl (by decide)), d3]
    exact he.2.2.2.1.2.1
  · obtain ⟨s', d1, d2⟩ := rB (by omega)
    have e1 : zy_so (fun j => W 71 (2000 + j)) ln = zy_so (fun j => V 12 (2000 + j)) ln := funext fun p => zy_so_c hB p
    have e2 : zy_wo (fun j => W 71 (2000 + j)) ln = zy_wo (fun j => V 12 (2000 + j)) ln := funext fun p => zy_wo_c hB p
    have e3 : zy_to (fun j => W 71 (2000 + j)) ln = zy_to (fun j => V 12 (2000 + j)) ln := funext fun p => zy_to_c hB p
    have e4 : ylf false (fun j => W 71 (2000 + j)) ln = ylf false (fun j => V 12 (2000 + j)) ln := funext fun p => ylf_c hB false p
    rw [e1, e2, e3, e4] at c3
    have hs : s = s' := by
      refine yT_det (fun p n t t' a b => ?_) _ _ _ _ _ c3 d1
      exact yt_cl_det a b
    subst hs
    have w1 : ∀ o k, zNc o → o ≠ 12 → (o ≠ 11 ∨ k = 0 ∨ k = 1) → W1 o k = W o k := c2
    rcases c4 with ⟨q, q1, q2, q3, rfl, rfl, rfl, rfl⟩ | ⟨L, c, q1, q2, q3, q4, q5, q6, q7⟩
    · rcases d2 with ⟨q', p1, p2, p3, p4⟩ | ⟨L', n, p1, -⟩
      · rw [q1] at p1
        cases p1
        refine ⟨by omega, refuse _ (-6) p2 (by decide) (by decide) p3 (fun o k hn h12 h11 => (zp_set_ne (by omega)).trans (w1 o k hn h12 (by omega))) zp_set_self ?_⟩
        rw [zp_set_ne (Or.inl (by decide)), q2, p4, zy_fr_c hB]
      · rw [q1] at p1
        cases p1
    · rcases d2 with ⟨q', p1, -⟩ | ⟨L', n, p1, p2, p3, p4, p5, p6, p7, p8⟩
      · rw [q1] at p1
        cases p1
      · rw [q1] at p1
        cases p1
        have hn14 : W 1 14 = (n : Int) := a14.trans p3
        rw [hn14] at q5 q6
        have nc : ∀ o, (o = 0 ∨ o = 1 ∨ o = 2 ∨ o = 3 ∨ o = 6 ∨ o = 7 ∨ o = 20 ∨ o = 22 ∨ (30 ≤ o ∧ o ≤ 40) ∨ (50 ≤ o ∧ o ≤ 63) ∨ o = 71 ∨ 100 ≤ o) → zNc o := fun o ho hm => by
          simp only [List.mem_cons, List.not_mem_nil, or_false] at hm
          omega
        have u0 : ∀ o k, (o ≠ 0 ∨ k ≠ 18) → (o ≠ 1 ∨ k ≠ 14) → (o ≠ 40 ∨ k ≠ 2000 + n) → (o ≠ 11 ∨ k ≠ 1) → zlwW W1 (n : Int) (A' c : Int) o k = W1 o k := fun o k b1 b2 b3 b4 => by
          unfold zlwW
          exact (zp_set_ne b1).trans ((zp_set_ne b2).trans ((zp_set_ne (by rw [Int.toNat_natCast]; exact b3)).trans (zp_set_ne b4)))
        have wk : ∀ o k, ((o = 1 ∧ k ≠ 14) ∨ o = 2 ∨ o = 3 ∨ o = 6 ∨ o = 7 ∨ o = 22 ∨ (30 ≤ o ∧ o < 40) ∨ (o = 40 ∧ k ≠ 2000 + n) ∨ (50 ≤ o ∧ o ≤ 63) ∨ o = 71 ∨ (o = 0 ∧ (k = 15 ∨ k = 17))) → W' o k = W o k := fun o k ho => (q5 o k (by omega)).2.trans ((u0 o k (by omega) (by omega) (by omega) (by omega)).trans (w1 o k (nc o (by omega)) (by omega) (by omega)))
        have wy : ∀ q ∈ Y, 100 ≤ q.1 → ∀ k, W' q.1 k = W q.1 k := fun q hq h1 k => (q6 q hq k).trans ((u0 _ k (by omega) (by omega) (by omega) (by omega)).trans (w1 _ k (nc _ (by omega)) (by omega) (by omega)))
        have w14 : W' 1 14 = (n : Int) + 1 := (q5 1 14 (by decide)).2.trans (by
          show zp_set (zp_set (zp_set (zp_set W1 11 1 0) 40 (2000 + (n : Int).toNat) (A' c : Int)) 1 14 ((n : Int) + 1)) 0 18 0 1 14 = (n : Int) + 1
          rw [zp_set_ne (Or.inl (by decide)), zp_set_self])
        have w40 : W' 40 (2000 + n) = (A' c : Int) := (q5 40 _ (by decide)).2.trans (by
          show zp_set (zp_set (zp_set (zp_set W1 11 1 0) 40 (2000 + (n : Int).toNat) (A' c : Int)) 1 14 ((n : Int) + 1)) 0 18 0 40 (2000 + n) = (A' c : Int)
          rw [zp_set_ne (Or.inl (by decide)), zp_set_ne (Or.inl (by decide)), Int.toNat_natCast, zp_set_self])
        have w11 : W' 11 1 = 0 := (q5 11 1 (by decide)).2.trans (by
          show zp_set (zp_set (zp_set (zp_set W1 11 1 0) 40 (2000 + (n : Int).toNat) (A' c : Int)) 1 14 ((n : Int) + 1)) 0 18 0 11 1 = 0
          rw [zp_set_ne (Or.inl (by decide)), zp_set_ne (Or.inl (by decide)), zp_set_ne (Or.inl (by decide)), zp_set_self])
        have w12 : W' 12 2 = -1 := (q5 12 2 (by decide)).2.trans ((u0 12 2 (by decide) (by decide) (by omega) (by decide)).trans q2)
        have hlaw : zLaw A' Y' F' W' 40 (zRw V') := by
          obtain ⟨nl, l1, l2, l3, l4⟩ := he.1
          have l1 : V 3 (2000 + 3) = (nl : Int) := l1
          have hnn : nl = n := by omega
          subst hnn
          have p6' : zRw V' 3 = ((nl + 1 : Nat) : Int) := by
            have h9 : V' 3 (2000 + 3) = (nl : Int) + 1 := p6
            show V' 3 (2000 + 3) = _
            omega
          have e4 : zRw V' 4 = zRw V 4 := p7 4 (by decide) (by decide) (by omega)
          refine ⟨nl + 1, p6', by omega, ?_, fun i hi => ?_⟩
          · rw [e4]
            omega
          · by_cases ci : i = nl
            · rw [ci]
              exact ⟨L, c, zTx_l p8, w40, q7⟩
            · obtain ⟨L2, c2, z1, z2, z3⟩ := l4 i (by omega)
              refine ⟨L2, c2, ?_, ?_, ?_⟩
              · obtain ⟨x1, x2, x3⟩ := z1
                have hR : ∀ j, 900 * i + 180 ≤ j → j < 900 * i + 1080 → zRw V' j = zRw V j := fun j j1 j2 => p7 j (by omega) (by omega) (by omega)
                refine ⟨(hR _ (by omega) (by omega)).trans x1, x2, zLs_c (Nat.le_refl _) (fun j hj => ⟨?_, ?_⟩) x3 (fun j _ hj => ?_)⟩
                · exact hR _ (by omega) (by omega)
                · exact hR _ (by omega) (by omega)
                · exact hR _ (by omega) (by omega)
              · rw [wk 40 _ (by omega), q4.2.2 (c2, 9) z3.2.1.1]
                exact z2
              · obtain ⟨e1, ⟨y0, y1, y2, y3, y4⟩, ⟨f0, f1, f2, f3⟩, N, n0, n1', n4, nc', A1, C1, a1, ⟨a2, a3, a4, a5⟩, ⟨b1, b2, b3, b4⟩, d1, d2⟩ := z3
                have x0 := wy _ y0 e1
                have x1 := wy _ y1 (Nat.le_trans e1 (Nat.le_add_right _ _))
                have x2 := wy _ y2 (Nat.le_trans e1 (Nat.le_add_right _ _))
                have x3 := wy _ y3 (Nat.le_trans e1 (Nat.le_add_right _ _))
                have x4 := wy _ y4 (Nat.le_trans e1 (Nat.le_add_right _ _))
                exact ⟨e1, ⟨q4.1 _ y0, q4.1 _ y1, q4.1 _ y2, q4.1 _ y3, q4.1 _ y4⟩, ⟨q4.2.1 _ f0, q4.2.1 _ f1, q4.2.1 _ f2, q4.2.1 _ f3⟩, N, n0, n1', n4, nc', A1, C1, (x0 _).trans a1, ⟨(x1 _).trans a2, (x2 _).trans a3, (x3 _).trans a4, (x4 _).trans a5⟩, ⟨fun j => (x1 _).trans (b1 j), fun j => (x2 _).trans (b2 j), fun j => (x3 _).trans (b3 j), fun j => (x4 _).trans (b4 j)⟩, d1, d2⟩
        have hst : zSt V' W' := by
          have h9 := st W1 (w1 0 18 (nc 0 (by omega)) (by decide) (Or.inl (by decide))) (fun k => w1 20 k (nc 20 (by omega)) (by decide) (Or.inl (by decide))) (by omega)
          unfold zf_stc at h9
          rw [if_pos (by omega)] at h9
          refine zSt_e h9 rfl (fun _ => rfl) ?_ (fun k => ?_)
          · refine (q5 0 18 (by decide)).2.trans ?_
            show zp_set (zp_set (zp_set (zp_set W1 11 1 0) 40 (2000 + (n : Int).toNat) (A' c : Int)) 1 14 ((n : Int) + 1)) 0 18 0 0 18 = zp_set W1 0 18 0 0 18
            rw [zp_set_self, zp_set_self]
          · refine (q5 20 k (by decide)).2.trans ?_
            rw [u0 20 k (Or.inl (by decide)) (Or.inl (by decide)) (Or.inl (by decide)) (Or.inl (by decide))]
            show W1 20 k = zp_set W1 0 18 0 20 k
            rw [zp_set_ne (Or.inl (by decide))]
        have him : zIms A' Y' F' V' W' := by
          obtain ⟨i1, i2, i3⟩ := he.2.2.2.2.2.1
          have k1 := zIm1_y q4 (wk 22 _ (by omega)) wy i1
          have k2 := zIm1_y q4 (wk 22 _ (by omega)) wy i2
          refine ⟨zIm1_e v4 v5 (fun _ => rfl) (fun _ _ _ => rfl) k1, zIm1_e v4 v5 (fun _ => rfl) (fun _ _ _ => rfl) k2, ?_⟩
          rw [wk 22 _ (by omega), wk 22 _ (by omega)]
          exact i3
        refine ⟨by omega, zF_lw h he hlaw hrb r20 (fun j hj j3 => p7 j (by omega) j3 (by omega)) ?_ hV (fun o k ho => wk o k (by omega)) hst r13 w11 ?_ r30 him⟩
        · rw [w14, p6]
        · rw [w12, p5]
