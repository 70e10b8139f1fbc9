/-! part mk: image, back as calls -/
theorem zMVc_u {A : Nat → Nat} {Y : List (Nat × Nat)} {F : List (Nat × Nat × Nat)} {W : Nat → Nat → Int} {P : Nat → Option Nat} {G : Nat → Nat → Int} (h : zMVc A Y F W P G) : (∀ o t t', (o, t) ∈ Y → (o, t') ∈ Y → t = t') ∧ ∀ q ∈ Y, ∀ r ∈ Y, A q.1 = A r.1 → q.1 = r.1 := by
  obtain ⟨M, ⟨m1, m2, m3, m4⟩, -⟩ := h
  refine ⟨fun o t t' h1 h2 => ?_, m3⟩
  have e1 := (m1 _ h1).1
  have e2 := (m1 _ h2).1
  rw [e1] at e2
  exact Option.some.inj e2
theorem zLT_e {Y : List (Nat × Nat)} {F : List (Nat × Nat × Nat)} {W W' : Nat → Nat → Int} {c : Nat} {L : List yK} (h2 : ∀ o k t, (o, t) ∈ Y → t ∈ [9, 36, 37, 40, 41] → 100 ≤ o → W' o k = W o k) (h : zLT Y F W c L) : zLT Y F W' c L := by
  obtain ⟨e1, ⟨y0, y1, y2, y3, y4⟩, e3, N, n0, n1, n4, nc, A1, C1, a1, ⟨a2, a3, a4, a5⟩, ⟨b1, b2, b3, b4⟩, c1, c2⟩ := h
  have w0 := fun k => h2 c k 9 y0 (by decide) e1
  have w1 := fun k => h2 (c + 1) k 36 y1 (by decide) (by omega)
  have w2 := fun k => h2 (c + 2) k 37 y2 (by decide) (by omega)
  have w3 := fun k => h2 (c + 3) k 40 y3 (by decide) (by omega)
  have w4 := fun k => h2 (c + 4) k 41 y4 (by decide) (by omega)
  exact ⟨e1, ⟨y0, y1, y2, y3, y4⟩, e3, N, n0, n1, n4, nc, A1, C1, (w0 _).trans a1, ⟨(w1 _).trans a2, (w2 _).trans a3, (w3 _).trans a4, (w4 _).trans a5⟩, ⟨fun j => (w1 _).trans (b1 j), fun j => (w2 _).trans (b2 j), fun j => (w3 _).trans (b3 j), fun j => (w4 _).trans (b4 j)⟩, c1, c2⟩
theorem zLF_e {A : Nat → Nat} {Y : List (Nat × Nat)} {F : List (Nat × Nat × Nat)} {W W' : Nat → Nat → Int} {L : List yK} (h14 : W' 1 14 = W 1 14) (h15 : W' 1 15 = W 1 15) (h40 : ∀ k, W' 40 k = W 40 k) (h2 : ∀ o k t, (o, t) ∈ Y → t ∈ [9, 36, 37, 40, 41] → 100 ≤ o → W' o k = W o k) (h : zLF A Y F W L) : zLF A Y F W' L := by
  unfold zLF at h ⊢
  rw [h14, h15]
  rcases h with h | ⟨i, c, h1, h3, h4, h5, h6⟩
  · exact Or.inl h
  · exact Or.inr ⟨i, c, h1, h3, h4, (h40 _).trans h5, zLT_e h2 h6⟩
theorem zLT_y2 {A A' : Nat → Nat} {Y Y' : List (Nat × Nat)} {F F' : List (Nat × Nat × Nat)} {W W' : Nat → Nat → Int} {c : Nat} {L : List yK} (hE : zExt A Y F A' Y' F') (wy : ∀ q ∈ Y, 100 ≤ q.1 → ∀ k, W' q.1 k = W q.1 k) (h : zLT Y F W c L) : zLT Y' F' W' c L := by
  obtain ⟨e1, ⟨y0, y1, y2, y3, y4⟩, ⟨f0, f1, f2, f3⟩, N, n0, n1, n4, nc, A1, C1, a1, ⟨a2, a3, a4, a5⟩, ⟨b1, b2, b3, b4⟩, d1, d2⟩ := h
  have w0 := wy _ y0 e1
  have w1 := wy _ y1 (Nat.le_trans e1 (Nat.le_add_right _ _))
  have w2 := wy _ y2 (Nat.le_trans e1 (Nat.le_add_right _ _))
  have w3 := wy _ y3 (Nat.le_trans e1 (Nat.le_add_right _ _))
  have w4 := wy _ y4 (Nat.le_trans e1 (Nat.le_add_right _ _))
  exact ⟨e1, ⟨hE.1 _ y0, hE.1 _ y1, hE.1 _ y2, hE.1 _ y3, hE.1 _ y4⟩, ⟨hE.2.1 _ f0, hE.2.1 _ f1, hE.2.1 _ f2, hE.2.1 _ f3⟩, N, n0, n1, n4, nc, A1, C1, (w0 _).trans a1, ⟨(w1 _).trans a2, (w2 _).trans a3, (w3 _).trans a4, (w4 _).trans a5⟩, ⟨fun j => (w1 _).trans (b1 j), fun j => (w2 _).trans (b2 j), fun j => (w3 _).trans (b3 j), fun j => (w4 _).trans (b4 j)⟩, d1, d2⟩
theorem zLF_y2 {A A' : Nat → Nat} {Y Y' : List (Nat × Nat)} {F F' : List (Nat × Nat × Nat)} {W W' : Nat → Nat → Int} {L : List yK} (hE : zExt A Y F A' Y' F') (h14 : W' 1 14 = W 1 14) (h15 : W' 1 15 = W 1 15) (h40 : ∀ k, W' 40 k = W 40 k) (wy : ∀ q ∈ Y, 100 ≤ q.1 → ∀ k, W' q.1 k = W q.1 k) (h : zLF A Y F W L) : zLF A' Y' F' W' L := by
  unfold zLF at h ⊢
  rw [h14, h15]
  rcases h with h | ⟨i, c, h1, h3, h4, h5, h6⟩
  · exact Or.inl h
  · refine Or.inr ⟨i, c, h1, h3, h4, ?_, zLT_y2 hE wy h6⟩
    rw [hE.2.2 (c, 9) h6.2.1.1]
    exact (h40 _).trans h5
theorem zLaw_y2 {A A' : Nat → Nat} {Y Y' : List (Nat × Nat)} {F F' : List (Nat × Nat × Nat)} {W W' : Nat → Nat → Int} {lc lc' : Nat} {R R' : Nat → Int} (hE : zExt A Y F A' Y' F') (h1 : ∀ i, i < 6 → W' lc' (2000 + i) = W lc (2000 + i)) (wy : ∀ q ∈ Y, 100 ≤ q.1 → ∀ k, W' q.1 k = W q.1 k) (hR : ∀ j, (j = 3 ∨ j = 4 ∨ 180 ≤ j) → j < 5580 → R' j = R j) (h : zLaw A Y F W lc R) : zLaw A' Y' F' W' lc' R' := by
  obtain ⟨nl, g1, g2, g3, g4⟩ := h
  refine ⟨nl, (hR 3 (by omega) (by omega)).trans g1, g2, ?_, fun i hi => ?_⟩
  · rw [hR 4 (by omega) (by omega)]
    exact g3
  · obtain ⟨L, c, q1, q2, q3⟩ := g4 i hi
    refine ⟨L, c, zTx_e (fun j a b => hR j (by omega) b) (by omega) q1, ?_, zLT_y2 hE wy q3⟩
    rw [h1 i (by omega), hE.2.2 (c, 9) q3.2.1.1]
    exact q2
/-- the image's row in the reference changed elsewhere -/
theorem zIm1_v {A : Nat → Nat} {Y : List (Nat × Nat)} {F : List (Nat × Nat × Nat)} {V V' W : Nat → Nat → Int} {k : Nat} (h4 : ∀ j, j < 5580 → V' 4 (2000 + (5580 * k + j)) = V 4 (2000 + (5580 * k + j))) (h5 : V' 5 (2000 + k) = V 5 (2000 + k)) (h : zIm1 A Y F V W k) : zIm1 A Y F V' W k := by
  unfold zIm1 at h ⊢
  rw [h5]
  rcases h with h | ⟨g0, c, n1, np, g1, g2, g3, g4, g5, g6, g7⟩
  · exact Or.inl h
  · refine Or.inr ⟨g0, c, n1, np, g1, g2, fun j hj => ?_, zLaw_e (fun _ _ => rfl) (fun _ _ _ _ _ _ => rfl) (fun j _ hj => h4 j hj) g4, zRok_q (fun j hj => h4 j (by omega)) g5, zRow_e g5.1.1 (fun j _ hj => h4 j (by omega)) g6, fun j hj => ?_⟩
    · rw [h4 j (by omega)]
      exact g3 j hj
    · rw [h4 j hj]
      exact g7 j hj
/-- an image comes to be: of the row as it stands -/
theorem zIm1_n {A : Nat → Nat} {Y : List (Nat × Nat)} {F : List (Nat × Nat × Nat)} {V V' W W' : Nat → Nat → Int} {k c n1 np : Nat} {Lw : List yK} (h : zCo V W n1 np Lw) (hrow : zRow (zRw V) n1 np) (h4 : ∀ j, j < 5580 → V' 4 (2000 + (5580 * k + j)) = V 3 (2000 + j)) (h5 : V' 5 (2000 + k) ≠ 0) (h22 : W' 22 (2000 + k) = (A c : Int)) (hI : zIM Y F c) (hw : ∀ j, j < 177 → W' (zPi c j).1 (zPi c j).2 = W (zPl j).1 (zPl j).2) (hlaw : zLaw A Y F W' (c + 11) (zRw V)) : zIm1 A Y F V' W' k := by
  refine Or.inr ⟨h5, c, n1, np, h22, hI, fun j hj => ?_, zLaw_e (fun _ _ => rfl) (fun _ _ _ _ _ _ => rfl) (fun j _ hj => h4 j hj) hlaw, zRok_q (fun j hj => h4 j (by omega)) h.2.1, zRow_e h.2.1.1.1 (fun j _ hj => h4 j (by omega)) hrow, fun j hj => ?_⟩
  · rw [h4 j (by omega), hw j hj]
    have h9 := h.1 j (by omega)
    rw [zRc_pl] at h9
    exact h9
  · rw [h4 j hj]
    exact h.2.2.1.1 j hj
theorem zIMy_t : ∀ q ∈ zIMy, ∀ r ∈ zIMy, q.2 = r.2 → q.1 = r.1 := by decide
theorem zIMy_i (i : Nat) (h : i < 16) : ∃ t, (i, t) ∈ zIMy := by
  have h9 : ∀ i, i < 16 → zIMy.any (fun q => q.1 == i) = true := by decide
  obtain ⟨q, q1, q2⟩ := List.any_eq_true.mp (h9 i h)
  rw [beq_iff_eq] at q2
  refine ⟨q.2, ?_⟩
  rw [← q2]
  exact q1
theorem zIMy_l : ∀ q ∈ zIMy, q.2 ∉ ([9, 36, 37, 40, 41] : List Nat) := by decide
/-- cells of texts, of another image lie outside an image -/
theorem zIM_x {Y : List (Nat × Nat)} {F : List (Nat × Nat × Nat)} {c : Nat} (hu : ∀ o t t', (o, t) ∈ Y → (o, t') ∈ Y → t = t') (hI : zIM Y F c) : (∀ o t, (o, t) ∈ Y → t ∈ [9, 36, 37, 40, 41] → ¬ (c ≤ o ∧ o < c + 16)) ∧ ∀ c', zIM Y F c' → c' ≠ c → ∀ i, i < 16 → ¬ (c ≤ c' + i ∧ c' + i < c + 16) := by
  refine ⟨fun o t ho ht hx => ?_, fun c' hI' hn i hi hx => ?_⟩
  · obtain ⟨i, rfl⟩ : ∃ i, o = c + i := ⟨o - c, by omega⟩
    obtain ⟨t', h1⟩ := zIMy_i i (by omega)
    have h2 := hu _ _ _ ho (hI.2.1 _ h1)
    exact zIMy_l _ h1 (h2 ▸ ht)
  · obtain ⟨j, hj⟩ : ∃ j, c' + i = c + j := ⟨c' + i - c, by omega⟩
    obtain ⟨t, h1⟩ := zIMy_i i hi
    obtain ⟨t', h2⟩ := zIMy_i j (by omega)
    have y1 : (c' + i, t) ∈ Y := hI'.2.1 _ h1
    have y2 : (c + j, t') ∈ Y := hI.2.1 _ h2
    rw [hj] at y1
    have e := hu _ _ _ y1 y2
    have e2 : i = j := zIMy_t _ h1 _ h2 e
    omega
/-- what image does in the class -/
noncomputable def zimW (W : Nat → Nat → Int) (k : Nat) (cp : Int) : Nat → Nat → Int := (zf_ans (zp_set W 22 (2000 + k) cp) 0).2
noncomputable def zimC (A : Nat → Nat) (Y : List (Nat × Nat)) (F : List (Nat × Nat × Nat)) (W : Nat → Nat → Int) (p : Int) (A' : Nat → Nat) (Y' : List (Nat × Nat)) (F' : List (Nat × Nat × Nat)) (W' : Nat → Nat → Int) (rn : Int) : Prop := (¬ (0 ≤ p ∧ p ≤ 1) ∧ rn = -1 ∧ A' = A ∧ Y' = Y ∧ F' = F ∧ W' = (zf_rfs W (-1)).2) ∨ ((0 ≤ p ∧ p ≤ 1) ∧ rn = 0 ∧ ((∃ c, W 22 (2000 + p.toNat) = (A c : Int) ∧ zIM Y F c ∧ A' = A ∧ Y' = Y ∧ F' = F ∧ W' = (zf_ans (zT_im c W) 0).2) ∨ (W 22 (2000 + p.toNat) = -1 ∧ ∃ c, zExt A Y F A' Y' F' ∧ (∀ o k, o < 100 → A' o = A o ∧ W' o k = zimW W p.toNat (A' c : Int) o k) ∧ (∀ q ∈ Y, ∀ k, W' q.1 k = zimW W p.toNat (A' c : Int) q.1 k) ∧ (∀ q ∈ Y, q.1 < c) ∧ zIM Y' F' c ∧ (∀ d j, zPk d j → W' (zτb c (d + 100)) j = W d j) ∧ ∀ i, i < 6 → W' (c + 11) (2000 + i) = W 40 (2000 + i))))
theorem zC_im {A : Nat → Nat} {Y : List (Nat × Nat)} {F : List (Nat × Nat × Nat)} {W : Nat → Nat → Int} {P P' : Nat → Option Nat} {G G' : Nat → Nat → Int} {ps : List Int} {rn : Int} (hY : zMc Y F) (h : zMVc A Y F W P G) (hψ : zψ_imc A Y F W P G ps P' G' rn) : ∃ A' Y' F' W', zMVc A' Y' F' W' P' G' ∧ zMc Y' F' ∧ A' 0 = A 0 ∧ zimC A Y F W (ps.getD 1 0) A' Y' F' W' rn := by
  rcases hψ with ⟨h1, h2, h3, h4⟩ | ⟨h1, h2, h3⟩
  · exact ⟨A, Y, F, _, h4, hY, rfl, Or.inl ⟨h1, h3, rfl, rfl, rfl, rfl⟩⟩
  · rcases h3 with ⟨c, c1, c2, c3, c4⟩ | ⟨c0, cp, b, V2, b1, b2, b3, b4, b5, b6, b7⟩
    · exact ⟨A, Y, F, _, c4, hY, rfl, Or.inr ⟨h1, h2, Or.inl ⟨c, c1, c2, rfl, rfl, rfl, rfl⟩⟩⟩
    · obtain ⟨A', Y', F', W', c, e1, e2, e3, e4, e5, e6, e7, e8, e9⟩ := zN_town hY (zMVc_P h) b7 b2 b3 b4
      have key : ∀ d j, d ∈ ([1, 2, 30, 31, 32, 33, 34, 35, 36, 37, 38, 39, 40, 50, 51, 52] : List Nat) → W' (zτb c (d + 100)) j = (zf_tcz V2).2 d j := fun d j hd => by
        obtain ⟨k1, k2, k3⟩ := zBt_t (cp := cp) (c := c) (b := b) hd
        rw [e9 _ j k2 k3, k1]
        refine b6 d j ?_ ?_
        · simp only [List.mem_cons, List.not_mem_nil, or_false] at hd
          omega
        · simp only [List.mem_cons, List.not_mem_nil, or_false] at hd ⊢
          omega
      refine ⟨A', Y', F', W', e3, e2, (e4 0 0 (by decide)).1, Or.inr ⟨h1, h2, Or.inr ⟨c0, c, e1, fun o k ho => ?_, fun q hq k => ?_, e6, e8, fun d j hd => ?_, fun i hi => ?_⟩⟩⟩
      · rw [e7]
        exact e4 o k ho
      · rw [e7]
        exact e5 q hq k
      · have h9 := zPk_d hd
        rw [key d j h9, zcz_p hd]
        have h8 : zNy (d + 100) := by
          simp only [List.mem_cons, List.not_mem_nil, or_false] at h9 ⊢
          omega
        have h7 : 100 < d + 100 := by
          simp only [List.mem_cons, List.not_mem_nil, or_false] at h9
          omega
        exact b5 (d + 100) j h7 h8
      · have e40 : zτb c (40 + 100) = c + 11 := by
          unfold zτb
          rw [if_neg (by decide), if_neg (by decide), if_neg (by decide), if_pos (by decide)]
        rw [← e40, key 40 _ (by decide), zcz_l hi]
        exact b5 140 _ (by decide) (by decide)
theorem zP_im {A A' : Nat → Nat} {Y Y' : List (Nat × Nat)} {F F' : List (Nat × Nat × Nat)} {V W W' : Nat → Nat → Int} {p rn : Int} (h : zFull A Y F V W) (hu : ∀ o t t', (o, t) ∈ Y → (o, t') ∈ Y → t = t') (hi : ∀ q ∈ Y', ∀ r ∈ Y', A' q.1 = A' r.1 → q.1 = r.1) (hC : zimC A Y F W p A' Y' F' W' rn) : rn = (zf_imr V p).1 ∧ zFull A' Y' F' (zf_imr V p).2 W' := by
  obtain ⟨n1, np, Lw, h, hl, he⟩ := h
  have hn1 := (zCo_n h).1.1
  obtain ⟨j1, j2, j3⟩ := he.2.2.2.2.2.1
  unfold zf_imr
  rcases hC with ⟨c1, rfl, rfl, rfl, rfl, rfl⟩ | ⟨c1, rfl, c2⟩
  · rw [if_neg c1]
    dsimp only
    exact ⟨rfl, zF_s h hl he (zCo_rf h (by decide) (by decide)) (fun o k ho => zVx_rf ho) (fun o k ho => zWx_rfs ho)⟩
  · rw [if_pos c1]
    obtain ⟨k, hk⟩ : ∃ k : Nat, p.toNat = k := ⟨_, rfl⟩
    have hk2 : k = 0 ∨ k = 1 := by omega
    rw [hk] at c2 ⊢
    dsimp only
    refine ⟨rfl, ?_⟩
    -- the reference's cells
    have v0 : ∀ o j, o ≠ 2 → o ≠ 4 → o ≠ 5 → (o ≠ 0 ∨ (j ≠ 0 ∧ j ≠ 1)) → zT_tell (zp_set (zc_cp (zp_set V 0 0 0) 3 0 4 (5580 * k) 5580) 5 (2000 + k) 1) 0 o j = V o j := fun o j o2 o4 o5 h0 => (zT_tell_k o2 (by omega)).trans ((zp_set_ne (Or.inl o5)).trans ((zc_cp_o o4).trans (zp_set_ne (by omega))))
    have v4 : ∀ j, zT_tell (zp_set (zc_cp (zp_set V 0 0 0) 3 0 4 (5580 * k) 5580) 5 (2000 + k) 1) 0 4 j = zc_cp (zp_set V 0 0 0) 3 0 4 (5580 * k) 5580 4 j := fun j => (zT_tell_k (by decide) (Or.inl (by decide))).trans (zp_set_ne (Or.inl (by decide)))
    have v4n : ∀ j, j < 5580 → zT_tell (zp_set (zc_cp (zp_set V 0 0 0) 3 0 4 (5580 * k) 5580) 5 (2000 + k) 1) 0 4 (2000 + (5580 * k + j)) = V 3 (2000 + j) := fun j hj => by
      rw [v4, zc_cp_e (by omega) (by omega), zp_set_ne (Or.inl (by decide))]
      exact congrArg (fun x => V 3 (2000 + x)) (by omega)
    have v4o : ∀ k', k' ≠ k → ∀ j, j < 5580 → zT_tell (zp_set (zc_cp (zp_set V 0 0 0) 3 0 4 (5580 * k) 5580) 5 (2000 + k) 1) 0 4 (2000 + (5580 * k' + j)) = V 4 (2000 + (5580 * k' + j)) := fun k' hk' j hj => by
      rw [v4, zc_cp_n (by
        rcases Nat.lt_or_ge k' k with h9 | h9
        · left
          have h8 : 5580 * (k' + 1) ≤ 5580 * k := Nat.mul_le_mul_left _ h9
          omega
        · right
          have h8 : 5580 * (k + 1) ≤ 5580 * k' := Nat.mul_le_mul_left _ (by omega)
          omega), zp_set_ne (Or.inl (by decide))]
    have v5n : zT_tell (zp_set (zc_cp (zp_set V 0 0 0) 3 0 4 (5580 * k) 5580) 5 (2000 + k) 1) 0 5 (2000 + k) = 1 := (zT_tell_k (by decide) (Or.inl (by decide))).trans zp_set_self
    have v5o : ∀ k', k' ≠ k → zT_tell (zp_set (zc_cp (zp_set V 0 0 0) 3 0 4 (5580 * k) 5580) 5 (2000 + k) 1) 0 5 (2000 + k') = V 5 (2000 + k') := fun k' hk' => (zT_tell_k (by decide) (Or.inl (by decide))).trans ((zp_set_ne (Or.inr (by omega))).trans ((zc_cp_o (by decide)).trans (zp_set_ne (Or.inl (by decide)))))
    have core : ∀ Z : Nat → Nat → Int, (∀ o j, zCc o j → Z o j = W o j) → zCo (zT_tell (zp_set (zc_cp (zp_set V 0 0 0) 3 0 4 (5580 * k) 5580) 5 (2000 + k) 1) 0) (zf_ans Z 0).2 n1 np Lw := fun Z hZ => zCo_an (zCo_e (fun o j ho => by
      unfold zCr at ho
      exact (zp_set_ne (by omega)).trans ((zc_cp_o (by omega)).trans (zp_set_ne (by omega)))) hZ h) (Int.le_refl 0)
    have rest : ∀ (A2 : Nat → Nat) (Y2 : List (Nat × Nat)) (F2 : List (Nat × Nat × Nat)) (W2 : Nat → Nat → Int), zCo (zT_tell (zp_set (zc_cp (zp_set V 0 0 0) 3 0 4 (5580 * k) 5580) 5 (2000 + k) 1) 0) W2 n1 np Lw → zLF A2 Y2 F2 W2 Lw → zLaw A2 Y2 F2 W2 40 (zRw V) → (∀ o j, (o = 11 ∨ o = 71 ∨ o = 7 ∨ o = 55 ∨ (o = 0 ∧ (j = 15 ∨ j = 17)) ∨ (o = 12 ∧ j = 2) ∨ (o = 6 ∧ (j = 2 ∨ j = 3))) → W2 o j = W o j) → zIms A2 Y2 F2 (zT_tell (zp_set (zc_cp (zp_set V 0 0 0) 3 0 4 (5580 * k) 5580) 5 (2000 + k) 1) 0) W2 → zFull A2 Y2 F2 (zT_tell (zp_set (zc_cp (zp_set V 0 0 0) 3 0 4 (5580 * k) 5580) 5 (2000 + k) 1) 0) W2 := fun A2 Y2 F2 W2 q1 q2 q3 q4 q5 => by
      refine ⟨n1, np, Lw, q1, q2, zLaw_e (fun _ _ => rfl) (fun _ _ _ _ _ _ => rfl) (fun j _ _ => v0 3 _ (by decide) (by decide) (by decide) (Or.inl (by decide))) q3, zRow_e hn1 (fun j _ _ => v0 3 _ (by decide) (by decide) (by decide) (Or.inl (by decide))) he.2.1, zTp_e (v0 0 13 (by decide) (by decide) (by decide) (by decide)) (fun j => v0 12 j (by decide) (by decide) (by decide) (Or.inl (by decide))) (q4 _ _ (by omega)) (fun j => q4 _ _ (by omega)) he.2.2.1, ⟨?_, ?_, ?_⟩, zDwn_e (v0 0 63 (by decide) (by decide) (by decide) (by decide)) (fun j => v0 62 j (by decide) (by decide) (by decide) (Or.inl (by decide))) (fun o j ho => q4 _ _ (by omega)) he.2.2.2.2.1, q5, zCst_e ?_ (fun o j ho => v0 o j (by omega) (by omega) (by omega) (by omega)) he.2.2.2.2.2.2⟩
      · rw [q4 0 17 (by omega), v0 0 11 (by decide) (by decide) (by decide) (by decide)]
        exact he.2.2.2.1.1
      · rw [q4 12 2 (by omega), v0 0 18 (by decide) (by decide) (by decide) (by decide)]
        exact he.2.2.2.1.2.1
      · rw [q4 0 15 (by omega), v0 0 59 (by decide) (by decide) (by decide) (by decide)]
        exact he.2.2.2.1.2.2
      · rw [v0 0 30 (by decide) (by decide) (by decide) (by decide)]
        exact he.2.2.2.2.2.2.1
    rcases c2 with ⟨c, d1, d2, rfl, rfl, rfl, rfl⟩ | ⟨d0, c, q1, q2, q3, q4, q5, q6, q7⟩
    · obtain ⟨x1, x2⟩ := zIM_x hu d2
      have hc100 := d2.1
      have wo : ∀ o j, ¬ (c ≤ o ∧ o < c + 16) → (o ≠ 0 ∨ j ≠ 18) → (zf_ans (zT_im c W) 0).2 o j = W o j := fun o j h1 h2 => (zp_set_ne h2).trans (zT_im_o h1)
      have wt : ∀ o j t, (o, t) ∈ Y' → t ∈ [9, 36, 37, 40, 41] → 100 ≤ o → (zf_ans (zT_im c W) 0).2 o j = W o j := fun o j t h1 h2 h3 => wo o j (x1 o t h1 h2) (by omega)
      have w22 : ∀ j, (zf_ans (zT_im c W) 0).2 22 j = W 22 j := fun j => wo 22 j (by omega) (Or.inl (by decide))
      refine rest A' Y' F' _ (core _ (fun o j ho => zT_im_o (by unfold zCc at ho; omega))) (zLF_e (wo 1 14 (by omega) (by decide)) (wo 1 15 (by omega) (by decide)) (fun j => wo 40 j (by omega) (Or.inl (by decide))) wt hl) (zLaw_e (fun i _ => wo 40 _ (by omega) (Or.inl (by decide))) wt (fun _ _ _ => rfl) he.1) (fun o j ho => wo o j (by omega) (by omega)) ?_
      have new : zIm1 A' Y' F' (zT_tell (zp_set (zc_cp (zp_set V 0 0 0) 3 0 4 (5580 * k) 5580) 5 (2000 + k) 1) 0) (zf_ans (zT_im c W) 0).2 k := by
        refine zIm1_n h he.2.1 v4n (by rw [v5n]; decide) ((w22 _).trans d1) d2 (fun j hj => ?_) (zLaw_e (lc := 40) (fun i hi6 => ?_) wt (fun _ _ _ => rfl) he.1)
        · have h9 := zPi_c (c := c) hj
          exact (zp_set_ne (by omega)).trans (zT_im_p hj hc100)
        · exact (show zp_set (zT_im c W) 0 18 0 (c + 11) (2000 + i) = zT_im c W (c + 11) (2000 + i) from zp_set_ne (Or.inl (by omega))).trans (zT_im_l hi6)
      have old : ∀ k', k' ≠ k → (∀ c', W 22 (2000 + k') = (A' c' : Int) → c' ≠ c) → zIm1 A' Y' F' V W k' → zIm1 A' Y' F' (zT_tell (zp_set (zc_cp (zp_set V 0 0 0) 3 0 4 (5580 * k) 5580) 5 (2000 + k) 1) 0) (zf_ans (zT_im c W) 0).2 k' := fun k' hk' hcc h9 => by
        refine zIm1_v (v4o k' hk') (v5o k' hk') ?_
        rcases h9 with ⟨g0, g1⟩ | ⟨g0, c', m1, mp, g1, g2, g3, g4, g5, g6, g7⟩
        · exact Or.inl ⟨g0, (w22 _).trans g1⟩
        · have hx := x2 c' g2 (hcc c' g1)
          refine Or.inr ⟨g0, c', m1, mp, (w22 _).trans g1, g2, fun j hj => ?_, zLaw_e (fun i _ => wo (c' + 11) _ (hx 11 (by decide)) (Or.inl (by have := g2.1; omega))) wt (fun _ _ _ => rfl) g4, g5, g6, g7⟩
          have h8 := zPi_c (c := c') hj
          have h7 := hx ((zPi c' j).1 - c') (by omega)
          rw [show c' + ((zPi c' j).1 - c') = (zPi c' j).1 by omega] at h7
          exact (wo _ _ h7 (Or.inl (by have := g2.1; omega))).trans (g3 j hj)
      have ne : ∀ k', W 22 (2000 + k') = W 22 (2000 + k) → W 22 (2000 + k) = -1 → False := fun k' _ h2 => by
        rw [d1] at h2
        omega
      rcases hk2 with rfl | rfl
      · refine ⟨new, old 1 (by decide) (fun c' h1 h2 => ?_) j2, ?_⟩
        · rw [h2, ← d1] at h1
          exact ne 1 h1 (j3 h1.symm)
        · rw [w22, w22]
          exact j3
      · refine ⟨old 0 (by decide) (fun c' h1 h2 => ?_) j1, new, ?_⟩
        · rw [h2, ← d1] at h1
          exact ne 0 h1 (h1.symm.trans (j3 h1))
        · rw [w22, w22]
          exact j3
    · have wz : ∀ o j, (o ≠ 22 ∨ j ≠ 2000 + k) → (o ≠ 0 ∨ j ≠ 18) → zimW W k (A' c : Int) o j = W o j := fun o j h1 h2 => (zp_set_ne h2).trans (zp_set_ne h1)
      have w1 : ∀ o j, o < 100 → (o ≠ 22 ∨ j ≠ 2000 + k) → (o ≠ 0 ∨ j ≠ 18) → W' o j = W o j := fun o j h0 h1 h2 => (q2 o j h0).2.trans (wz o j h1 h2)
      have wy : ∀ q ∈ Y, 100 ≤ q.1 → ∀ j, W' q.1 j = W q.1 j := fun q hq h1 j => (q3 q hq j).trans (wz _ j (by omega) (by omega))
      have w22 : W' 22 (2000 + k) = (A' c : Int) := (q2 22 _ (by decide)).2.trans (show zp_set (zp_set W 22 (2000 + k) (A' c : Int)) 0 18 0 22 (2000 + k) = _ by rw [zp_set_ne (Or.inl (by decide)), zp_set_self])
      have hc : zCo (zT_tell (zp_set (zc_cp (zp_set V 0 0 0) 3 0 4 (5580 * k) 5580) 5 (2000 + k) 1) 0) W' n1 np Lw := zCo_e (fun _ _ _ => rfl) (fun o j ho => by
        have h9 : o < 100 := by unfold zCc at ho; omega
        exact (q2 o j h9).2) (core (zp_set W 22 (2000 + k) (A' c : Int)) (fun o j ho => zp_set_ne (by unfold zCc at ho; omega)))
      refine rest A' Y' F' W' hc (zLF_y2 q1 (w1 1 14 (by decide) (Or.inl (by decide)) (Or.inl (by decide))) (w1 1 15 (by decide) (Or.inl (by decide)) (Or.inl (by decide))) (fun j => w1 40 j (by decide) (Or.inl (by decide)) (Or.inl (by decide))) wy hl) (zLaw_y2 q1 (fun i _ => w1 40 _ (by decide) (Or.inl (by decide)) (Or.inl (by decide))) wy (fun _ _ _ => rfl) he.1) (fun o j ho => w1 o j (by omega) (by omega) (by omega)) ?_
      have new : zIm1 A' Y' F' (zT_tell (zp_set (zc_cp (zp_set V 0 0 0) 3 0 4 (5580 * k) 5580) 5 (2000 + k) 1) 0) W' k := zIm1_n h he.2.1 v4n (by rw [v5n]; decide) w22 q5 (fun j hj => q6 _ _ (zPk_l hj)) (zLaw_y2 q1 (fun i hi6 => q7 i hi6) wy (fun _ _ _ => rfl) he.1)
      have old : ∀ k', k' ≠ k → k' < 2 → zIm1 A Y F V W k' → zIm1 A' Y' F' (zT_tell (zp_set (zc_cp (zp_set V 0 0 0) 3 0 4 (5580 * k) 5580) 5 (2000 + k) 1) 0) W' k' := fun k' hk' _ h9 => zIm1_v (v4o k' hk') (v5o k' hk') (zIm1_y q1 (w1 22 _ (by decide) (Or.inr (by omega)) (Or.inl (by decide))) wy h9)
      have other : ∀ k', k' ≠ k → zIm1 A Y F V W k' → W' 22 (2000 + k') ≠ (A' c : Int) := fun k' hk' h9 h8 => by
        rw [w1 22 _ (by decide) (Or.inr (by omega)) (Or.inl (by decide))] at h8
        rcases h9 with ⟨-, g1⟩ | ⟨-, c', m1, mp, g1, g2, -⟩
        · omega
        · have y1 : (c', 93) ∈ Y := g2.2.1 (0, 93) (by decide)
          have y2 : (c, 93) ∈ Y' := q5.2.1 (0, 93) (by decide)
          have e1 := q1.2.2 _ y1
          have e2 : A' c' = A' c := by
            have e1 : A' c' = A c' := e1
            omega
          have e3 := hi _ (q1.1 _ y1) _ y2 e2
          have e4 := q4 _ y1
          dsimp only at e3 e4
          omega
      rcases hk2 with rfl | rfl
      · refine ⟨new, old 1 (by decide) (by decide) j2, fun h9 => ?_⟩
        rw [w22] at h9
        exact absurd h9.symm (other 1 (by decide) j2)
      · refine ⟨old 0 (by decide) (by decide) j1, new, fun h9 => ?_⟩
        rw [w22] at h9
        exact absurd h9 (other 0 (by decide) j1)
/-- back -/
theorem zPl_177 : zPl 177 = (37, 2000 + 8) ∧ zPl 178 = (38, 2000 + 8) ∧ zPl 179 = (39, 2000 + 8) := by decide
noncomputable def zbkC (A : Nat → Nat) (Y : List (Nat × Nat)) (F : List (Nat × Nat × Nat)) (W : Nat → Nat → Int) (p : Int) (W' : Nat → Nat → Int) (rn : Int) : Prop := (¬ (0 ≤ p ∧ p ≤ 1) ∧ rn = -1 ∧ W' = (zf_rfs W (-1)).2) ∨ ((0 ≤ p ∧ p ≤ 1) ∧ ((W 22 (2000 + p.toNat) = -1 ∧ rn = -2 ∧ W' = (zf_rfs W (-2)).2) ∨ ∃ c, W 22 (2000 + p.toNat) = (A c : Int) ∧ zIM Y F c ∧ rn = 0 ∧ W' = (zf_ans (zf_clr3 (zT_bk c W)).2 0).2))
theorem zC_bk {A : Nat → Nat} {Y : List (Nat × Nat)} {F : List (Nat × Nat × Nat)} {W : Nat → Nat → Int} {P P' : Nat → Option Nat} {G G' : Nat → Nat → Int} {ps : List Int} {rn : Int} (hψ : zψ_bkc A Y F W P G ps P' G' rn) : P' = P ∧ ∃ W', zMVc A Y F W' P' G' ∧ zbkC A Y F W (ps.getD 1 0) W' rn := by
  obtain ⟨h0, h1⟩ := hψ
  refine ⟨h0, ?_⟩
  rcases h1 with ⟨c1, c2, c3⟩ | ⟨c1, c2⟩
  · exact ⟨_, c3, Or.inl ⟨c1, c2, rfl⟩⟩
  · rcases c2 with ⟨d1, d2, d3⟩ | ⟨c, d1, d2, d3, d4⟩
    · exact ⟨_, d3, Or.inr ⟨c1, Or.inl ⟨d1, d2, rfl⟩⟩⟩
    · exact ⟨_, d4, Or.inr ⟨c1, Or.inr ⟨c, d1, d2, d3, rfl⟩⟩⟩
theorem zP_bk {A : Nat → Nat} {Y : List (Nat × Nat)} {F : List (Nat × Nat × Nat)} {V W W' : Nat → Nat → Int} {p rn : Int} (h : zFull A Y F V W) (hi : ∀ q ∈ Y, ∀ r ∈ Y, A q.1 = A r.1 → q.1 = r.1) (hC : zbkC A Y F W p W' rn) : rn = (zf_bkr V p).1 ∧ zFull A Y F (zf_bkr V p).2 W' := by
  obtain ⟨n1, np, Lw, h, hl, he⟩ := h
  have refuse : ∀ v : Int, -6 ≤ v → v < 0 → zFull A Y F (zT_tell (zp_set V 0 0 0) v) (zf_rfs W v).2 := fun v h6 h0 => zF_s h hl he (zCo_rf h h6 h0) (fun o k ho => zVx_rf ho) (fun o k ho => zWx_rfs ho)
  unfold zf_bkr
  rcases hC with ⟨c1, rfl, rfl⟩ | ⟨c1, c2⟩
  · rw [if_neg c1]
    exact ⟨rfl, refuse (-1) (by decide) (by decide)⟩
  · rw [if_pos c1]
    obtain ⟨k, hk⟩ : ∃ k : Nat, p.toNat = k := ⟨_, rfl⟩
    have hk2 : k = 0 ∨ k = 1 := by omega
    rw [hk] at c2 ⊢
    have him : zIm1 A Y F V W k := by
      rcases hk2 with rfl | rfl
      · exact he.2.2.2.2.2.1.1
      · exact he.2.2.2.2.2.1.2.1
    rcases c2 with ⟨d1, rfl, rfl⟩ | ⟨c, d1, d2, rfl, rfl⟩
    · rcases him with ⟨g0, -⟩ | ⟨-, c, m1, mp, g1, -⟩
      · rw [if_pos g0]
        exact ⟨rfl, refuse (-2) (by decide) (by decide)⟩
      · omega
    · rcases him with ⟨-, g1⟩ | ⟨g0, c', m1, mp, g1, g2, g3, g4, g5, g6, g7⟩
      · omega
      · rw [if_neg g0]
        obtain rfl : c' = c := by
          have y1 : (c', 93) ∈ Y := g2.2.1 (0, 93) (by decide)
          have y2 : (c, 93) ∈ Y := d2.2.1 (0, 93) (by decide)
          exact hi _ y1 _ y2 (by
            dsimp only
            omega)
        have hc100 := d2.1
        refine ⟨(by unfold zf_stl; rfl), ?_⟩
        rw [zf_stl_0 (Int.le_refl 0)]
        -- cells
        have v0 : ∀ o j, o ≠ 3 → (o ≠ 0 ∨ (j ≠ 0 ∧ j ≠ 1 ∧ j ≠ 8)) → zp_set (zp_set (zc_cp (zp_set V 0 0 0) 4 (5580 * k) 3 0 5580) 0 8 0) 0 1 0 o j = V o j := fun o j o3 h0 => (zp_set_ne (by omega)).trans ((zp_set_ne (by omega)).trans ((zc_cp_o o3).trans (zp_set_ne (by omega))))
        have v3 : ∀ j, j < 5580 → zp_set (zp_set (zc_cp (zp_set V 0 0 0) 4 (5580 * k) 3 0 5580) 0 8 0) 0 1 0 3 (2000 + j) = V 4 (2000 + (5580 * k + j)) := fun j hj => by
          rw [zp_set_ne (Or.inl (by decide)), zp_set_ne (Or.inl (by decide)), zc_cp_e (Nat.zero_le _) (by omega), zp_set_ne (Or.inl (by decide))]
          exact congrArg (fun x => V 4 (2000 + x)) (by omega)
        have wo : ∀ o j, ¬ (o = 1 ∨ o = 2 ∨ (30 ≤ o ∧ o ≤ 40) ∨ (50 ≤ o ∧ o ≤ 52)) → (o ≠ 0 ∨ j ≠ 18) → (o ≠ 3 ∨ j ≠ 3) → (zf_ans (zf_clr3 (zT_bk c' W)).2 0).2 o j = W o j := fun o j h1 h2 h3 => (zp_set_ne h2).trans ((zp_set_ne h3).trans (zT_bk_o h1))
        have wb : ∀ o j, o ≠ 0 → o ≠ 3 → (zf_ans (zf_clr3 (zT_bk c' W)).2 0).2 o j = zT_bk c' W o j := fun o j h1 h2 => (zp_set_ne (Or.inl h1)).trans (zp_set_ne (Or.inl h2))
        have hr : zRr (zp_set (zp_set (zc_cp (zp_set V 0 0 0) 4 (5580 * k) 3 0 5580) 0 8 0) 0 1 0) (zf_ans (zf_clr3 (zT_bk c' W)).2 0).2 := fun j hj => by
          rw [zRc_pl, v3 j (by omega)]
          by_cases c177 : j < 177
          · have hp := zPk_o (zPk_l c177)
            rw [wb _ _ (by omega) (by omega), zT_bk_p c177]
            exact g3 j c177
          · have z := he.2.1.2.2.2.2
            have z' := g6.2.2.2.2
            have hw : ∀ j', j' < 180 → W (zPl j').1 (zPl j').2 = V 3 (2000 + j') := fun j' hj' => by
              have h9 := h.1 j' hj'
              rw [zRc_pl] at h9
              exact h9
            obtain ⟨p1, p2, p3⟩ := zPl_177
            have c3 : j = 177 ∨ j = 178 ∨ j = 179 := by omega
            rcases c3 with rfl | rfl | rfl
            · have h9 := hw 177 (by decide)
              rw [p1] at h9 ⊢
              dsimp only at h9 ⊢
              rw [wb _ _ (by decide) (by decide), zT_bk_h (Or.inl rfl), h9]
              exact z.1.trans z'.1.symm
            · have h9 := hw 178 (by decide)
              rw [p2] at h9 ⊢
              dsimp only at h9 ⊢
              rw [wb _ _ (by decide) (by decide), zT_bk_h (Or.inr (Or.inl rfl)), h9]
              exact z.2.1.trans z'.2.1.symm
            · have h9 := hw 179 (by decide)
              rw [p3] at h9 ⊢
              dsimp only at h9 ⊢
              rw [wb _ _ (by decide) (by decide), zT_bk_h (Or.inr (Or.inr rfl)), h9]
              exact z.2.2.trans z'.2.2.symm
        have hlaw : zLaw A Y F (zf_ans (zf_clr3 (zT_bk c' W)).2 0).2 40 (zRw (zp_set (zp_set (zc_cp (zp_set V 0 0 0) 4 (5580 * k) 3 0 5580) 0 8 0) 0 1 0)) := zLaw_e (fun i hi6 => (wb 40 _ (by decide) (by decide)).trans (zT_bk_l hi6 hc100)) (fun o j t _ _ ho => wo o j (by omega) (by omega) (by omega)) (fun j _ hj => v3 j hj) g4
        obtain ⟨a14, a15⟩ := zRr_34 hr
        obtain ⟨Lw', k1, k2, k3, k4⟩ := zLaw_f (R := zRw (zp_set (zp_set (zc_cp (zp_set V 0 0 0) 4 (5580 * k) 3 0 5580) 0 8 0) 0 1 0)) a14 a15 hlaw
        obtain ⟨b1, b2, b3, b4, b5, b6⟩ := h
        obtain ⟨f, f1, f2⟩ := zUU_f b6
        have hst : zSt (zp_set (zp_set (zc_cp (zp_set V 0 0 0) 4 (5580 * k) 3 0 5580) 0 8 0) 0 1 0) (zf_ans (zf_clr3 (zT_bk c' W)).2 0).2 := by
          have h9 := zSt_stc (v := 0) (V := zp_set (zc_cp (zp_set V 0 0 0) 4 (5580 * k) 3 0 5580) 0 8 0) (W := (zf_clr3 (zT_bk c' W)).2) (zSt_e b5 ((zp_set_ne (Or.inr (by decide))).trans ((zc_cp_o (by decide)).trans (zp_set_ne (Or.inr (by decide))))) (fun j => (zp_set_ne (Or.inl (by decide))).trans ((zc_cp_o (by decide)).trans (zp_set_ne (Or.inl (by decide))))) (show zp_set (zT_bk c' W) 3 3 0 0 18 = W 0 18 by rw [zp_set_ne (Or.inl (by decide))]; exact zT_bk_o (by omega)) (fun j => show zp_set (zT_bk c' W) 3 3 0 20 j = W 20 j by rw [zp_set_ne (Or.inl (by decide))]; exact zT_bk_o (by omega))) (by decide)
          have e1 : zT_tell (zp_set (zc_cp (zp_set V 0 0 0) 4 (5580 * k) 3 0 5580) 0 8 0) 0 = zp_set (zp_set (zc_cp (zp_set V 0 0 0) 4 (5580 * k) 3 0 5580) 0 8 0) 0 1 0 := if_neg (by decide)
          rw [e1] at h9
          unfold zf_stc at h9
          rw [if_pos (by decide)] at h9
          exact h9
        have hc : zCo (zp_set (zp_set (zc_cp (zp_set V 0 0 0) 4 (5580 * k) 3 0 5580) 0 8 0) 0 1 0) (zf_ans (zf_clr3 (zT_bk c' W)).2 0).2 m1 mp Lw' := by
          refine ⟨hr, zRok_q (fun j hj => v3 j (by omega)) g5, ⟨fun j hj => ?_, k1, k2, k3, ?_⟩, ?_, hst, zUU_0 (f := f) ?_ ?_ ?_ f2⟩
          · rw [v3 j hj]
            exact g7 j hj
          · rw [v0 0 20 (by decide) (by decide)]
            exact b3.2.2.2.2
          · rw [v0 0 47 (by decide) (by decide)]
            exact b4
          · exact (zp_set_ne (Or.inr (by decide))).trans zp_set_self
          · show zp_set (zp_set (zT_bk c' W) 3 3 0) 0 18 0 3 3 = 0
            rw [zp_set_ne (Or.inl (by decide)), zp_set_self]
          · exact (wo 3 2 (by omega) (by decide) (by decide)).trans f1
        refine ⟨m1, mp, Lw', hc, k4, hlaw, zRow_e g5.1.1 (fun j _ hj => v3 j (by omega)) g6, zTp_e (v0 0 13 (by decide) (by decide)) (fun j => v0 12 j (by decide) (Or.inl (by decide))) (wo 11 1 (by omega) (by decide) (by decide)) (fun j => wo 71 j (by omega) (Or.inl (by decide)) (Or.inl (by decide))) he.2.2.1, ⟨?_, ?_, ?_⟩, zDwn_e (v0 0 63 (by decide) (by decide)) (fun j => v0 62 j (by decide) (Or.inl (by decide))) (fun o j ho => wo o j (by omega) (by omega) (by omega)) he.2.2.2.2.1, zIms_e (fun j => v0 4 j (by decide) (Or.inl (by decide))) (fun j => v0 5 j (by decide) (Or.inl (by decide))) (fun j => wo 22 j (by omega) (Or.inl (by decide)) (Or.inl (by decide))) (fun o j ho => wo o j (by omega) (by omega) (by omega)) he.2.2.2.2.2.1, zCst_e ?_ (fun o j ho => v0 o j (by omega) (by omega)) he.2.2.2.2.2.2⟩
        · rw [wo 0 17 (by omega) (by decide) (by decide), v0 0 11 (by decide) (by decide)]
          exact he.2.2.2.1.1
        · rw [wo 12 2 (by omega) (by decide) (by decide), v0 0 18 (by decide) (by decide)]
          exact he.2.2.2.1.2.1
        · rw [wo 0 15 (by omega) (by decide) (by decide), v0 0 59 (by decide) (by decide)]
          exact he.2.2.2.1.2.2
        · rw [v0 0 30 (by decide) (by decide)]
          exact he.2.2.2.2.2.2.1
