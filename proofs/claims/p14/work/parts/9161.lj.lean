/-! part lj: both sides agree: the tape; rows -/
/-- the tape is the same -/
noncomputable def zTp (V W : Nat → Nat → Int) : Prop := W 11 1 = V 0 13 ∧ (0 ≤ V 0 13 ∧ V 0 13 ≤ 400) ∧ (∀ j, j < 400 → W 71 (2000 + j) = V 12 (2000 + j)) ∧ ∀ j, 0 ≤ V 12 (2000 + j) ∧ V 12 (2000 + j) ≤ 255
/-- a byte of the class's tape, -1 behind its end -/
noncomputable def zby (W : Nat → Nat → Int) (p : Int) : Int := if p < 0 then -1 else if W 11 1 ≤ p then -1 else W 71 (2000 + p.toNat)
theorem zf_bya_e {W : Nat → Nat → Int} {p : Int} : zf_bya W p = (zby W p, W) := by
  unfold zf_bya zby
  split
  · rfl
  · split
    · rfl
    · rfl
noncomputable def zAc (W : Nat → Nat → Int) (p : Int) : Prop := (0 ≤ zby W p ∧ zby W p < W 1 1 ∧ zby W p < 6) ∧ 1 ≤ zby W (p + 1) ∧ (0 ≤ zby W (p + 2) ∧ zby W (p + 2) ≤ 23) ∧ (1 ≤ zby W (p + 3) ∧ zby W (p + 3) ≤ 99) ∧ W 1 3 < 10
theorem zf_awr_s {W : Nat → Nat → Int} {p : Int} (h : zAc W p) : zf_awr W p = (1, (zf_adw1 W (zby W p) (zby W (p + 1)) (zby W (p + 2)) (zby W (p + 3)) (-1)).2) := by
  obtain ⟨h1, h2, h3, h4, h5⟩ := h
  unfold zf_awr
  simp only [zf_bya_e]
  rw [if_pos h1, if_neg (show ¬ zby W (p + 1) < 1 by omega), if_pos h3, if_pos h4, if_pos h5]
theorem zf_awr_n {W : Nat → Nat → Int} {p : Int} (h : ¬ zAc W p) : zf_awr W p = (0, W) := by
  unfold zf_awr
  simp only [zf_bya_e]
  by_cases h1 : 0 ≤ zby W p ∧ zby W p < W 1 1 ∧ zby W p < 6
  · rw [if_pos h1]
    by_cases h2 : zby W (p + 1) < 1
    · rw [if_pos h2]
    · rw [if_neg h2]
      by_cases h3 : 0 ≤ zby W (p + 2) ∧ zby W (p + 2) ≤ 23
      · rw [if_pos h3]
        by_cases h4 : 1 ≤ zby W (p + 3) ∧ zby W (p + 3) ≤ 99
        · rw [if_pos h4]
          by_cases h5 : W 1 3 < 10
          · exact absurd ⟨h1, by omega, h3, h4, h5⟩ h
          · rw [if_neg h5]
        · rw [if_neg h4]
      · rw [if_neg h3]
  · rw [if_neg h1]
/-- rows, four by four: both sides -/
noncomputable def zRw4 (V0 W0 X Y : Nat → Nat → Int) (np n : Nat) (Lw : List yK) : Prop := zRr X Y ∧ zRok (zRw X) n np ∧ zLV X Lw ∧ Y 0 17 = X 0 11 ∧ (∀ o k, o ≠ 3 → (o ≠ 0 ∨ k ≠ 11) → X o k = V0 o k) ∧ ∀ o k, o ≠ 1 → ¬ (32 ≤ o ∧ o < 37) → o ≠ 52 → (o ≠ 0 ∨ k ≠ 17) → Y o k = W0 o k
theorem zRw4_d {V0 W0 X Y : Nat → Nat → Int} {np n : Nat} {Lw : List yK} (h : zRw4 V0 W0 X Y np n Lw) : zRw4 V0 W0 (zp_set X 0 11 (X 0 11 + 1)) (zp_set Y 0 17 (Y 0 17 + 1)) np n Lw := by
  obtain ⟨h1, h2, h3, h4, h5, h6⟩ := h
  refine ⟨zRr_c (by omega) (zRr_0 (by decide) h1), zRok_o (by decide) h2, zLV_o (by decide) (Or.inr (by decide)) h3, ?_, fun o k c1 c2 => (zp_set_ne c2).trans (h5 o k c1 c2), fun o k c1 c2 c3 c4 => (zp_set_ne c4).trans (h6 o k c1 c2 c3 c4)⟩
  rw [zp_set_self, zp_set_self, h4]
theorem zc_rw_y {V M : Nat → Nat → Int} {k : Nat} (h : zf_awr (zc_rw V k).2 (4 * (k : Int)) = (1, M)) : zc_rw V (k + 1) = ((zc_rw V k).1 + 1, M) := by
  rw [zc_rw, h]
  exact if_neg (show ¬ (1 : Int) = 0 by decide)
theorem zc_rw_n {V M : Nat → Nat → Int} {k : Nat} (h : zf_awr (zc_rw V k).2 (4 * (k : Int)) = (0, M)) : zc_rw V (k + 1) = ((zc_rw V k).1, zp_set M 0 17 ((zc_rw V k).2 0 17 + 1)) := by
  rw [zc_rw, h]
  exact if_pos rfl
theorem zr_rw_y {V M : Nat → Nat → Int} {np ln k : Nat} {v : Int} (h3 : 4 * k + 3 < ln) (h : zr_w4q (zr_rw V np ln k).2 np k = (v, M)) (hv : 0 ≤ v) : zr_rw V np ln (k + 1) = ((zr_rw V np ln k).1 + 1, M) := by
  rw [zr_rw, h]
  exact if_pos ⟨h3, hv⟩
theorem zr_rw_n {V : Nat → Nat → Int} {np ln k : Nat} (h : ¬ (4 * k + 3 < ln ∧ 0 ≤ (zr_w4q (zr_rw V np ln k).2 np k).1)) : zr_rw V np ln (k + 1) = ((zr_rw V np ln k).1, zp_set (zr_rw V np ln k).2 0 11 ((zr_rw V np ln k).2 0 11 + 1)) := by
  rw [zr_rw]
  exact if_neg h
theorem zS_rws {V0 W0 : Nat → Nat → Int} {np ln n : Nat} {Lw : List yK} (hb : zRw4 V0 W0 V0 W0 np n Lw) (hl : W0 11 1 = (ln : Int)) (hl4 : ln ≤ 400) (ht : ∀ j, j < 400 → W0 71 (2000 + j) = V0 12 (2000 + j)) (hT : ∀ j, 0 ≤ V0 12 (2000 + j) ∧ V0 12 (2000 + j) ≤ 255) : ∀ k : Nat, (zc_rw W0 k).1 = (zr_rw V0 np ln k).1 ∧ ∃ n' : Nat, zRw4 V0 W0 (zr_rw V0 np ln k).2 (zc_rw W0 k).2 np n' Lw
  | 0 => ⟨rfl, n, hb⟩
  | k + 1 => by
    obtain ⟨e1, n', h⟩ := zS_rws hb hl hl4 ht hT k
    obtain ⟨X, hX⟩ : ∃ X, X = zr_rw V0 np ln k := ⟨_, rfl⟩
    obtain ⟨Z, hZ⟩ : ∃ Z, Z = zc_rw W0 k := ⟨_, rfl⟩
    rw [← hX, ← hZ] at e1 h
    have h' := h
    obtain ⟨h1, h2, h3, h4, h5, h6⟩ := h
    have hn10 := h2.1.1
    have hnp6 := h2.1.2.1
    have x1 : X.2 3 (2000 + 1) = (n' : Int) := h2.1.2.2.1
    have x0 : X.2 3 (2000 + 0) = (np : Int) := h2.1.2.2.2.1
    have z13 : Z.2 1 3 = (n' : Int) := (h1 1 (by decide)).trans x1
    have z11 : Z.2 1 1 = (np : Int) := (h1 0 (by decide)).trans x0
    have zl : Z.2 11 1 = (ln : Int) := (h6 11 1 (by decide) (by decide) (by decide) (Or.inl (by decide))).trans hl
    have xt : ∀ j, X.2 12 (2000 + j) = V0 12 (2000 + j) := fun j => h5 _ _ (by decide) (Or.inl (by decide))
    have zt : ∀ j, j < 400 → Z.2 71 (2000 + j) = V0 12 (2000 + j) := fun j hj => (h6 _ _ (by decide) (by decide) (by decide) (Or.inl (by decide))).trans (ht j hj)
    have by9 : ∀ i : Nat, i < 4 → zby Z.2 (4 * (k : Int) + (i : Int)) = if 4 * k + i < ln then V0 12 (2000 + (4 * k + i)) else -1 := fun i hi => by
      unfold zby
      rw [if_neg (by omega), zl]
      by_cases c : 4 * k + i < ln
      · rw [if_neg (by omega), if_pos c, show (4 * (k : Int) + (i : Int)).toNat = 4 * k + i by omega]
        exact zt _ (by omega)
      · rw [if_pos (by omega), if_neg c]
    have b0 := by9 0 (by decide)
    have b1 := by9 1 (by decide)
    have b2 := by9 2 (by decide)
    have b3 := by9 3 (by decide)
    rw [show 4 * (k : Int) + ((0 : Nat) : Int) = 4 * (k : Int) by omega, show 4 * k + 0 = 4 * k by omega] at b0
    rw [show 4 * (k : Int) + ((1 : Nat) : Int) = 4 * (k : Int) + 1 by omega] at b1
    rw [show 4 * (k : Int) + ((2 : Nat) : Int) = 4 * (k : Int) + 2 by omega] at b2
    rw [show 4 * (k : Int) + ((3 : Nat) : Int) = 4 * (k : Int) + 3 by omega] at b3
    have t0 := hT (4 * k)
    have t1 := hT (4 * k + 1)
    have t2 := hT (4 * k + 2)
    have t3 := hT (4 * k + 3)
    have ew : zr_w4q X.2 np k = zf_wk1 X.2 np n' (V0 12 (2000 + 4 * k)) (V0 12 (2000 + (4 * k + 1))) (V0 12 (2000 + (4 * k + 2))) (V0 12 (2000 + (4 * k + 3))) (-1) := by
      unfold zr_w4q
      rw [x1, Int.toNat_natCast, xt, xt, xt, xt]
    have rn : ¬ (4 * k + 3 < ln ∧ 0 ≤ (zr_w4q X.2 np k).1) → zr_rw V0 np ln (k + 1) = (X.1, zp_set X.2 0 11 (X.2 0 11 + 1)) := fun z => by
      rw [hX] at z ⊢
      exact zr_rw_n z
    have cn : zf_awr Z.2 (4 * (k : Int)) = (0, Z.2) → zc_rw W0 (k + 1) = (Z.1, zp_set Z.2 0 17 (Z.2 0 17 + 1)) := fun z => by
      rw [hZ] at z ⊢
      exact zc_rw_n z
    by_cases c3 : 4 * k + 3 < ln
    · rw [if_pos (by omega)] at b0 b1 b2 b3
      by_cases cc : ((1 ≤ V0 12 (2000 + (4 * k + 1)) ∧ V0 12 (2000 + (4 * k + 1)) ≤ 600) ∧ (0 ≤ V0 12 (2000 + (4 * k + 2)) ∧ V0 12 (2000 + (4 * k + 2)) ≤ 23) ∧ (1 ≤ V0 12 (2000 + (4 * k + 3)) ∧ V0 12 (2000 + (4 * k + 3)) ≤ 99) ∧ (0 ≤ V0 12 (2000 + 4 * k) ∧ V0 12 (2000 + 4 * k) < (np : Int)) ∧ -1 ≤ (-1 : Int) ∧ (-1 : Int) < (n' : Int)) ∧ n' < 10
      · obtain ⟨hc, hn⟩ := cc
        have ha : zAc Z.2 (4 * (k : Int)) := by
          unfold zAc
          rw [b0, b1, b2, b3, z11, z13]
          omega
        have ea : zf_awr Z.2 (4 * (k : Int)) = (1, zWaC Z.2 n' (V0 12 (2000 + 4 * k)) (V0 12 (2000 + (4 * k + 1))) (V0 12 (2000 + (4 * k + 2))) (V0 12 (2000 + (4 * k + 3))) (-1)) := by
          rw [zf_awr_s ha, b0, b1, b2, b3, zf_adw1_s z13 hn]
        have eb : zr_w4q X.2 np k = ((n' : Int), zWa X.2 n' (V0 12 (2000 + 4 * k)) (V0 12 (2000 + (4 * k + 1))) (V0 12 (2000 + (4 * k + 2))) (V0 12 (2000 + (4 * k + 3))) (-1)) := ew.trans (zf_wk1_s hc hn)
        have ec : zc_rw W0 (k + 1) = (Z.1 + 1, zWaC Z.2 n' (V0 12 (2000 + 4 * k)) (V0 12 (2000 + (4 * k + 1))) (V0 12 (2000 + (4 * k + 2))) (V0 12 (2000 + (4 * k + 3))) (-1)) := by
          rw [hZ] at ea ⊢
          exact zc_rw_y ea
        have ed : zr_rw V0 np ln (k + 1) = (X.1 + 1, zWa X.2 n' (V0 12 (2000 + 4 * k)) (V0 12 (2000 + (4 * k + 1))) (V0 12 (2000 + (4 * k + 2))) (V0 12 (2000 + (4 * k + 3))) (-1)) := by
          rw [hX] at eb ⊢
          exact zr_rw_y c3 eb (by omega)
        rw [ec, ed]
        refine ⟨by show Z.1 + 1 = X.1 + 1; rw [e1], n' + 1, ?_⟩
        obtain ⟨k1, k2, k3⟩ := zCo_wa hc hn h1 h2 h3
        show zRw4 V0 W0 (zWa X.2 n' (V0 12 (2000 + 4 * k)) (V0 12 (2000 + (4 * k + 1))) (V0 12 (2000 + (4 * k + 2))) (V0 12 (2000 + (4 * k + 3))) (-1)) (zWaC Z.2 n' (V0 12 (2000 + 4 * k)) (V0 12 (2000 + (4 * k + 1))) (V0 12 (2000 + (4 * k + 2))) (V0 12 (2000 + (4 * k + 3))) (-1)) np (n' + 1) Lw
        refine ⟨k1, k2, k3, ?_, fun o i q1 q2 => (zWa_o q1).trans (h5 o i q1 q2), fun o i q1 q2 q3 q4 => (zWaC_o q1 q2 q3).trans (h6 o i q1 q2 q3 q4)⟩
        exact (zWaC_o (by decide) (by decide) (by decide)).trans (h4.trans (zWa_o (by decide)).symm)
      · have hr := zf_wk1_r (V := X.2) (np := np) hn10 cc
        have ha : ¬ zAc Z.2 (4 * (k : Int)) := fun z => by
          unfold zAc at z
          rw [b0, b1, b2, b3, z11, z13] at z
          exact cc ⟨by omega, by omega⟩
        obtain ⟨w1, w2⟩ := zWr_b (np := np) (n1 := n') (p1 := V0 12 (2000 + 4 * k)) (p2 := V0 12 (2000 + (4 * k + 1))) (p3 := V0 12 (2000 + (4 * k + 2))) (p4 := V0 12 (2000 + (4 * k + 3))) (p5 := -1)
        rw [rn (fun z => absurd (show 0 ≤ zWr np n' (V0 12 (2000 + 4 * k)) (V0 12 (2000 + (4 * k + 1))) (V0 12 (2000 + (4 * k + 2))) (V0 12 (2000 + (4 * k + 3))) (-1) by
          have z2 := z.2
          rw [ew, hr] at z2
          exact z2) (Int.not_le.mpr w2)), cn (zf_awr_n ha)]
        exact ⟨e1, n', zRw4_d h'⟩
    · have ha : ¬ zAc Z.2 (4 * (k : Int)) := fun z => by
        unfold zAc at z
        rw [if_neg c3] at b3
        rw [b3] at z
        omega
      rw [rn (fun z => c3 z.1), cn (zf_awr_n ha)]
      exact ⟨e1, n', zRw4_d h'⟩
theorem zS_row {V W : Nat → Nat → Int} {n1 np ln : Nat} {Lw : List yK} (h : zCo V W n1 np Lw) (ht : zTp V W) (hd : W 0 17 = V 0 11) (hl : V 0 13 = (ln : Int)) : (zf_rowc W).1 = (zf_rowr V np ln).1 ∧ (∃ n' : Nat, zCo (zf_rowr V np ln).2 (zf_rowc W).2 n' np Lw) ∧ zTp (zf_rowr V np ln).2 (zf_rowc W).2 ∧ (zf_rowc W).2 0 17 = (zf_rowr V np ln).2 0 11 := by
  obtain ⟨t1, t2, t3, t4⟩ := ht
  have hw : W 11 1 = (ln : Int) := t1.trans hl
  unfold zf_rowc zf_rowr
  rw [hw]
  by_cases c : ln = 0
  · rw [if_pos (show (ln : Int) = 0 by omega), if_pos c]
    have h13 : V 0 13 = 0 := by omega
    have e0 : zp_set (zp_set V 0 0 0) 0 13 0 = zp_set V 0 0 0 := by
      funext o k
      by_cases d : o = 0 ∧ k = 13
      · rw [d.1, d.2, zp_set_self, zp_set_ne (Or.inr (by decide)), h13]
      · exact zp_set_ne (by omega)
    rw [e0]
    dsimp only
    refine ⟨zf_rfs_1, ⟨n1, zCo_rf h (by decide) (by decide)⟩, ⟨?_, ?_, fun j hj => ?_, fun j => ?_⟩, ?_⟩
    · simp (disch := omega) only [zf_rfs_k, zT_tell_k, zp_set_ne]
      exact t1
    · simp (disch := omega) only [zf_rfs_k, zT_tell_k, zp_set_ne]
      exact t2
    · simp (disch := omega) only [zf_rfs_k, zT_tell_k, zp_set_ne]
      exact t3 j hj
    · simp (disch := omega) only [zf_rfs_k, zT_tell_k, zp_set_ne]
      exact t4 j
    · simp (disch := omega) only [zf_rfs_k, zT_tell_k, zp_set_ne]
      exact hd
  · rw [if_neg (show ¬ (ln : Int) = 0 by omega), if_neg c]
    obtain ⟨V0, hV0⟩ : ∃ V0, V0 = zp_set (zp_set (zp_set V 0 0 0) 0 13 0) 0 11 0 := ⟨_, rfl⟩
    obtain ⟨W0, hW0⟩ : ∃ W0, W0 = zp_set W 0 17 0 := ⟨_, rfl⟩
    rw [← hV0, ← hW0, show (((ln : Int)).toNat + 3) / 4 = (ln + 3) / 4 by omega]
    obtain ⟨g1, g2, g3, g47, g5, g6⟩ := h
    obtain ⟨f, f1, f2⟩ := zUU_f g6
    have v0 : ∀ o k, (o ≠ 0 ∨ (k ≠ 0 ∧ k ≠ 13 ∧ k ≠ 11)) → V0 o k = V o k := fun o k hk => by
      rw [hV0, zp_set_ne (by omega), zp_set_ne (by omega), zp_set_ne (by omega)]
    have w0 : ∀ o k, (o ≠ 0 ∨ k ≠ 17) → W0 o k = W o k := fun o k hk => by
      rw [hW0, zp_set_ne hk]
    have hb : zRw4 V0 W0 V0 W0 np n1 Lw := by
      refine ⟨?_, ?_, ?_, ?_, fun _ _ _ _ => rfl, fun _ _ _ _ _ _ => rfl⟩
      · rw [hV0, hW0]
        exact zRr_c (by omega) (zRr_0 (by decide) (zRr_0 (by decide) (zRr_0 (by decide) g1)))
      · rw [hV0]
        exact zRok_o (by decide) (zRok_o (by decide) (zRok_o (by decide) g2))
      · rw [hV0]
        exact zLV_o (by decide) (Or.inr (by decide)) (zLV_o (by decide) (Or.inr (by decide)) (zLV_o (by decide) (Or.inr (by decide)) g3))
      · rw [hV0, hW0, zp_set_self, zp_set_self]
    have hst := zS_rws hb ((w0 11 1 (Or.inl (by decide))).trans hw) (by omega) (fun j hj => by rw [w0 _ _ (Or.inl (by decide)), v0 _ _ (Or.inl (by decide))]; exact t3 j hj) (fun j => by rw [v0 _ _ (Or.inl (by decide))]; exact t4 j) ((ln + 3) / 4)
    obtain ⟨e1, n', k1, k2, k3, k4, k5, k6⟩ := hst
    obtain ⟨X, hX⟩ : ∃ X, X = zr_rw V0 np ln ((ln + 3) / 4) := ⟨_, rfl⟩
    obtain ⟨Z, hZ⟩ : ∃ Z, Z = zc_rw W0 ((ln + 3) / 4) := ⟨_, rfl⟩
    rw [← hX] at e1 k1 k2 k3 k4 k5 ⊢
    rw [← hZ] at e1 k1 k4 k6 ⊢
    have hx0 : 0 ≤ X.1 := by
      rw [hX]
      exact zr_rw0
    rw [zf_stl_0 hx0]
    have q0 : ∀ k, k ≠ 8 → zp_set X.2 0 8 0 0 k = X.2 0 k := fun k hk => zp_set_ne (Or.inr hk)
    have hcore : zCo (zp_set (zp_set X.2 0 8 0) 0 1 0) (zf_ans (zf_clr3 (zp_set Z.2 11 1 0)).2 Z.1).2 n' np Lw := by
      refine zCo_a1 ⟨zRr_c (by omega) (zRr_c (by omega) (zRr_0 (by decide) k1)), zRok_o (by decide) k2, zLV_o (by decide) (Or.inr (by decide)) k3, ?_, ?_, ?_⟩
      · exact (q0 47 (by decide)).trans ((k5 0 47 (by decide) (Or.inr (by decide))).trans ((v0 0 47 (Or.inr (by decide))).trans g47))
      · refine zSt_e g5 ((q0 1 (by decide)).trans ((k5 0 1 (by decide) (Or.inr (by decide))).trans (v0 0 1 (Or.inr (by decide))))) (fun k => (zp_set_ne (Or.inl (by decide))).trans ((k5 2 k (by decide) (Or.inl (by decide))).trans (v0 2 k (Or.inl (by decide))))) ?_ (fun k => ?_)
        · exact (show (zf_clr3 (zp_set Z.2 11 1 0)).2 0 18 = Z.2 0 18 by simp (disch := omega) only [zf_ans, zf_clr3, zp_set_ne, zp_set_self]).trans ((k6 0 18 (by decide) (by decide) (by decide) (Or.inr (by decide))).trans (w0 0 18 (Or.inr (by decide))))
        · exact (show (zf_clr3 (zp_set Z.2 11 1 0)).2 20 k = Z.2 20 k by simp (disch := omega) only [zf_ans, zf_clr3, zp_set_ne, zp_set_self]).trans ((k6 20 k (by decide) (by decide) (by decide) (Or.inl (by decide))).trans (w0 20 k (Or.inl (by decide))))
      · refine zUU_0 (f := f) zp_set_self (by simp (disch := omega) only [zf_ans, zf_clr3, zp_set_ne, zp_set_self]) ?_ f2
        exact (show (zf_clr3 (zp_set Z.2 11 1 0)).2 3 2 = Z.2 3 2 by simp (disch := omega) only [zf_ans, zf_clr3, zp_set_ne, zp_set_self]).trans ((k6 3 2 (by decide) (by decide) (by decide) (Or.inl (by decide))).trans ((w0 3 2 (Or.inl (by decide))).trans f1))
    have w9 : ∀ o k, o ≠ 0 → o ≠ 3 → (zf_ans (zf_clr3 (zp_set Z.2 11 1 0)).2 Z.1).2 o k = zp_set Z.2 11 1 0 o k := fun o k c1 c2 => (zp_set_ne (Or.inl c1)).trans (zp_set_ne (Or.inl c2))
    have x9 : ∀ o k, (o ≠ 0 ∨ (k ≠ 1 ∧ k ≠ 8)) → zp_set (zp_set X.2 0 8 0) 0 1 0 o k = X.2 o k := fun o k hk => (zp_set_ne (by omega)).trans (zp_set_ne (by omega))
    have x13 : V0 0 13 = 0 := by
      rw [hV0, zp_set_ne (Or.inr (by decide)), zp_set_self]
    refine ⟨e1, ⟨n', hcore⟩, ⟨?_, ?_, fun j hj => ?_, fun j => ?_⟩, ?_⟩
    · show (zf_ans (zf_clr3 (zp_set Z.2 11 1 0)).2 Z.1).2 11 1 = zp_set (zp_set X.2 0 8 0) 0 1 0 0 13
      rw [w9 11 1 (by decide) (by decide), zp_set_self, x9 0 13 (Or.inr (by decide)), k5 0 13 (by decide) (Or.inr (by decide)), x13]
    · show 0 ≤ zp_set (zp_set X.2 0 8 0) 0 1 0 0 13 ∧ zp_set (zp_set X.2 0 8 0) 0 1 0 0 13 ≤ 400
      rw [x9 0 13 (Or.inr (by decide)), k5 0 13 (by decide) (Or.inr (by decide)), x13]
      decide
    · show (zf_ans (zf_clr3 (zp_set Z.2 11 1 0)).2 Z.1).2 71 (2000 + j) = zp_set (zp_set X.2 0 8 0) 0 1 0 12 (2000 + j)
      rw [w9 71 _ (by decide) (by decide), zp_set_ne (Or.inl (by decide)), k6 71 _ (by decide) (by decide) (by decide) (Or.inl (by decide)), w0 71 _ (Or.inl (by decide)), x9 12 _ (Or.inl (by decide)), k5 12 _ (by decide) (Or.inl (by decide)), v0 12 _ (Or.inl (by decide))]
      exact t3 j hj
    · show 0 ≤ zp_set (zp_set X.2 0 8 0) 0 1 0 12 (2000 + j) ∧ zp_set (zp_set X.2 0 8 0) 0 1 0 12 (2000 + j) ≤ 255
      rw [x9 12 _ (Or.inl (by decide)), k5 12 _ (by decide) (Or.inl (by decide)), v0 12 _ (Or.inl (by decide))]
      exact t4 j
    · show (zf_ans (zf_clr3 (zp_set Z.2 11 1 0)).2 Z.1).2 0 17 = zp_set (zp_set X.2 0 8 0) 0 1 0 0 11
      have w17 : (zf_ans (zf_clr3 (zp_set Z.2 11 1 0)).2 Z.1).2 0 17 = Z.2 0 17 := by simp (disch := omega) only [zf_ans, zf_clr3, zp_set_ne, zp_set_self]
      rw [w17, x9 0 11 (Or.inr (by decide))]
      exact k4
