/-! part md: all of the relation of both sides -/
/-- numbers of the row that doings leave -/
noncomputable def zVr (j : Nat) : Prop := (2 ≤ j ∧ j ≤ 4) ∨ j = 6 ∨ (39 ≤ j ∧ j < 89) ∨ 153 ≤ j
theorem zVr_j {j : Nat} (h : zVr j) : zKj j := by
  unfold zVr at h
  unfold zKj
  omega
/-- what a row holds besides -/
noncomputable def zRow (R : Nat → Int) (n1 np : Nat) : Prop := (∃ ns : Nat, zSg R n1 ns) ∧ zOwn R n1 np ∧ (∀ w, w < n1 → 0 ≤ R (5 * w + 42) ∧ R (5 * w + 42) ≤ 1000) ∧ (0 ≤ R 6 ∧ R 6 ≤ 12) ∧ R 177 = 0 ∧ R 178 = 0 ∧ R 179 = 0
theorem zRow_e {R R' : Nat → Int} {n1 np : Nat} (hn : n1 ≤ 10) (hR : ∀ j, zVr j → j < 180 → R' j = R j) (h : zRow R n1 np) : zRow R' n1 np := by
  obtain ⟨⟨ns, s1, s2, s3⟩, o1, w1, r6, z1, z2, z3⟩ := h
  have e : ∀ j, ((2 ≤ j ∧ j ≤ 4) ∨ j = 6 ∨ (39 ≤ j ∧ j < 89) ∨ 153 ≤ j) → j < 180 → R' j = R j := fun j h1 h2 => hR j h1 h2
  refine ⟨⟨ns, s1, (e 2 (by omega) (by omega)).trans s2, fun s hs => ?_⟩, fun w hw => ?_, fun w hw => ?_, ?_, (e 177 (by omega) (by omega)).trans z1, (e 178 (by omega) (by omega)).trans z2, (e 179 (by omega) (by omega)).trans z3⟩
  · rw [e (3 * s + 153) (by omega) (by omega), e (3 * s + 154) (by omega) (by omega)]
    exact s3 s hs
  · rw [e (5 * w + 39) (by omega) (by omega)]
    exact o1 w hw
  · rw [e (5 * w + 42) (by omega) (by omega)]
    exact w1 w hw
  · rw [e 6 (by omega) (by omega)]
    exact r6
theorem zRow_p {R : Nat → Int} {n1 np np' : Nat} (hp : np ≤ np') (h : zRow R n1 np) : zRow R n1 np' := by
  obtain ⟨s, o1, w1⟩ := h
  refine ⟨s, fun w hw => ?_, w1⟩
  have h9 := o1 w hw
  omega
/-- an image of the class, its row in the reference -/
noncomputable def zIm1 (A : Nat → Nat) (Y : List (Nat × Nat)) (F : List (Nat × Nat × Nat)) (V W : Nat → Nat → Int) (k : Nat) : Prop := (V 5 (2000 + k) = 0 ∧ W 22 (2000 + k) = -1) ∨ (V 5 (2000 + k) ≠ 0 ∧ ∃ c n1 np : Nat, W 22 (2000 + k) = (A c : Int) ∧ zIM Y F c ∧ (∀ j, j < 177 → W (zPi c j).1 (zPi c j).2 = V 4 (2000 + (5580 * k + j))) ∧ zLaw A Y F W (c + 11) (fun j => V 4 (2000 + (5580 * k + j))) ∧ zRok (fun j => V 4 (2000 + (5580 * k + j))) n1 np ∧ zRow (fun j => V 4 (2000 + (5580 * k + j))) n1 np ∧ ∀ j, j < 5580 → -2147483648 ≤ V 4 (2000 + (5580 * k + j)) ∧ V 4 (2000 + (5580 * k + j)) ≤ 2147483647)
theorem zPi_c {c j : Nat} (hj : j < 177) : c ≤ (zPi c j).1 ∧ (zPi c j).1 < c + 16 := (zBt_t (cp := 0) (b := id) (zPk_d (zPk_l hj))).2
theorem zIm1_e {A : Nat → Nat} {Y : List (Nat × Nat)} {F : List (Nat × Nat × Nat)} {V V' W W' : Nat → Nat → Int} {k : Nat} (h4 : ∀ j, V' 4 j = V 4 j) (h5 : ∀ j, V' 5 j = V 5 j) (h22 : ∀ j, W' 22 j = W 22 j) (h100 : ∀ o j, 100 ≤ o → W' o j = W o j) (h : zIm1 A Y F V W k) : zIm1 A Y F V' W' k := by
  unfold zIm1 at h ⊢
  have e : (fun j => V' 4 (2000 + (5580 * k + j))) = fun j => V 4 (2000 + (5580 * k + j)) := funext fun j => h4 _
  rw [h5, h22, e]
  rcases h with h | ⟨g0, c, n1, np, g1, g2, g3, g4, g5, g6, g7⟩
  · exact Or.inl h
  · refine Or.inr ⟨g0, c, n1, np, g1, g2, fun j hj => ?_, zLaw_e (fun i _ => h100 _ _ (Nat.le_trans g2.1 (Nat.le_add_right _ _))) (fun o j t _ _ ho => h100 o j ho) (fun _ _ _ => rfl) g4, g5, g6, fun j hj => ?_⟩
    · rw [h4]
      exact (h100 _ _ (Nat.le_trans g2.1 (zPi_c hj).1)).trans (g3 j hj)
    · rw [h4]
      exact g7 j hj
noncomputable def zIms (A : Nat → Nat) (Y : List (Nat × Nat)) (F : List (Nat × Nat × Nat)) (V W : Nat → Nat → Int) : Prop := zIm1 A Y F V W 0 ∧ zIm1 A Y F V W 1 ∧ (W 22 (2000 + 0) = W 22 (2000 + 1) → W 22 (2000 + 0) = -1)
theorem zIms_e {A : Nat → Nat} {Y : List (Nat × Nat)} {F : List (Nat × Nat × Nat)} {V V' W W' : Nat → Nat → Int} (h4 : ∀ j, V' 4 j = V 4 j) (h5 : ∀ j, V' 5 j = V 5 j) (h22 : ∀ j, W' 22 j = W 22 j) (h100 : ∀ o j, 100 ≤ o → W' o j = W o j) (h : zIms A Y F V W) : zIms A Y F V' W' := by
  obtain ⟨h1, h2, h3⟩ := h
  refine ⟨zIm1_e h4 h5 h22 h100 h1, zIm1_e h4 h5 h22 h100 h2, ?_⟩
  rw [h22, h22]
  exact h3
/-- what the bytes' rules rest on -/
noncomputable def zCst (V : Nat → Nat → Int) : Prop := 0 ≤ V 0 30 ∧ (∀ k : Nat, k < 9 → V 31 (2000 + k) = ywd.getD k 0) ∧ (∀ k : Nat, k < 7 → V 32 (2000 + k) = ywo.getD k 0) ∧ ∀ k : Nat, k < 5 → V 33 (2000 + k) = ywh.getD k 0
theorem zCst_e {V V' : Nat → Nat → Int} (h30 : 0 ≤ V' 0 30) (h : ∀ o k, o = 31 ∨ o = 32 ∨ o = 33 → V' o k = V o k) (hc : zCst V) : zCst V' := by
  obtain ⟨-, c1, c2, c3⟩ := hc
  exact ⟨h30, fun k hk => (h 31 _ (by omega)).trans (c1 k hk), fun k hk => (h 32 _ (by omega)).trans (c2 k hk), fun k hk => (h 33 _ (by omega)).trans (c3 k hk)⟩
/-- besides the core -/
noncomputable def zEx (A : Nat → Nat) (Y : List (Nat × Nat)) (F : List (Nat × Nat × Nat)) (V W : Nat → Nat → Int) (n1 np : Nat) : Prop := zLaw A Y F W 40 (zRw V) ∧ zRow (zRw V) n1 np ∧ zTp V W ∧ (W 0 17 = V 0 11 ∧ W 12 2 = V 0 18 ∧ W 0 15 = V 0 59) ∧ zDwn V W ∧ zIms A Y F V W ∧ zCst V
/-- what it rests on -/
noncomputable def zVx (o k : Nat) : Prop := (o = 3 ∧ ((2002 ≤ k ∧ k ≤ 2004) ∨ k = 2006 ∨ (2039 ≤ k ∧ k < 2089) ∨ 2153 ≤ k)) ∨ o = 4 ∨ o = 5 ∨ o = 12 ∨ o = 31 ∨ o = 32 ∨ o = 33 ∨ o = 62 ∨ (o = 0 ∧ (k = 11 ∨ k = 13 ∨ k = 18 ∨ k = 30 ∨ k = 59 ∨ k = 63))
noncomputable def zWx (o k : Nat) : Prop := o = 40 ∨ 100 ≤ o ∨ o = 22 ∨ o = 11 ∨ o = 71 ∨ o = 7 ∨ o = 55 ∨ (o = 0 ∧ (k = 15 ∨ k = 17)) ∨ (o = 12 ∧ k = 2) ∨ (o = 6 ∧ (k = 2 ∨ k = 3))
theorem zTp_e {V V' W W' : Nat → Nat → Int} (h13 : V' 0 13 = V 0 13) (h12 : ∀ k, V' 12 k = V 12 k) (h11 : W' 11 1 = W 11 1) (h71 : ∀ k, W' 71 k = W 71 k) (h : zTp V W) : zTp V' W' := by
  obtain ⟨a1, a2, a3, a4⟩ := h
  refine ⟨h11.trans (a1.trans h13.symm), ?_, fun j hj => (h71 _).trans ((a3 j hj).trans (h12 _).symm), fun j => ?_⟩
  · rw [h13]
    exact a2
  · rw [h12]
    exact a4 j
theorem zEx_e {A : Nat → Nat} {Y : List (Nat × Nat)} {F : List (Nat × Nat × Nat)} {V V' W W' : Nat → Nat → Int} {n1 np : Nat} (hn : n1 ≤ 10) (hV : ∀ o k, zVx o k → V' o k = V o k) (hW : ∀ o k, zWx o k → W' o k = W o k) (h : zEx A Y F V W n1 np) : zEx A Y F V' W' n1 np := by
  obtain ⟨a1, a2, a3, ⟨b1, b2, b3⟩, a5, a6, a7⟩ := h
  have v3 : ∀ j, zVr j → V' 3 (2000 + j) = V 3 (2000 + j) := fun j hj => hV _ _ (by
    unfold zVr at hj
    unfold zVx
    omega)
  have vo : ∀ o k, (o = 4 ∨ o = 5 ∨ o = 12 ∨ o = 31 ∨ o = 32 ∨ o = 33 ∨ o = 62 ∨ (o = 0 ∧ (k = 11 ∨ k = 13 ∨ k = 18 ∨ k = 30 ∨ k = 59 ∨ k = 63))) → V' o k = V o k := fun o k ho => hV o k (Or.inr ho)
  have wo : ∀ o k, (o = 40 ∨ 100 ≤ o ∨ o = 22 ∨ o = 11 ∨ o = 71 ∨ o = 7 ∨ o = 55 ∨ (o = 0 ∧ (k = 15 ∨ k = 17)) ∨ (o = 12 ∧ k = 2) ∨ (o = 6 ∧ (k = 2 ∨ k = 3))) → W' o k = W o k := fun o k ho => hW o k ho
  refine ⟨zLaw_e (fun i _ => wo _ _ (by omega)) (fun o k t _ _ ho => wo _ _ (by omega)) (fun j hj _ => v3 j (by unfold zVr; omega)) a1, zRow_e hn (fun j hj _ => v3 j hj) a2, zTp_e (vo _ _ (by omega)) (fun k => vo _ _ (by omega)) (wo _ _ (by omega)) (fun k => wo _ _ (by omega)) a3, ⟨?_, ?_, ?_⟩, zDwn_e (vo _ _ (by omega)) (fun k => vo _ _ (by omega)) (fun o k ho => wo _ _ (by omega)) a5, zIms_e (fun k => vo _ _ (by omega)) (fun k => vo _ _ (by omega)) (fun k => wo _ _ (by omega)) (fun o k ho => wo _ _ (by omega)) a6, zCst_e ?_ (fun o k ho => vo _ _ (by omega)) a7⟩
  · rw [wo 0 17 (by omega), vo 0 11 (by omega)]
    exact b1
  · rw [wo 12 2 (by omega), vo 0 18 (by omega)]
    exact b2
  · rw [wo 0 15 (by omega), vo 0 59 (by omega)]
    exact b3
  · rw [vo 0 30 (by omega)]
    exact a7.1
/-- all of it -/
noncomputable def zFull (A : Nat → Nat) (Y : List (Nat × Nat)) (F : List (Nat × Nat × Nat)) (V W : Nat → Nat → Int) : Prop := ∃ n1 np Lw, zCo V W n1 np Lw ∧ zLF A Y F W Lw ∧ zEx A Y F V W n1 np
theorem zLF_k {A : Nat → Nat} {Y : List (Nat × Nat)} {F : List (Nat × Nat × Nat)} {W W' : Nat → Nat → Int} {L : List yK} (h14 : W' 1 14 = W 1 14) (h15 : W' 1 15 = W 1 15) (h40 : ∀ k, W' 40 k = W 40 k) (h100 : ∀ o k, 100 ≤ o → W' o k = W o k) (h : zLF A Y F W L) : zLF A Y F W' L := by
  unfold zLF at h ⊢
  rw [h14, h15]
  rcases h with h | ⟨i, c, h1, h2, h3, h4, h5⟩
  · exact Or.inl h
  · exact Or.inr ⟨i, c, h1, h2, h3, (h40 _).trans h4, zLT_c h5 h100⟩
/-- the number of laws, the law in force on both sides -/
theorem zRr_34 {V W : Nat → Nat → Int} (h : zRr V W) : W 1 14 = V 3 (2000 + 3) ∧ W 1 15 = V 3 (2000 + 4) := ⟨zRr_gt h (j := 3) (by decide) rfl, zRr_gt h (j := 4) (by decide) rfl⟩
theorem zFull_i {A : Nat → Nat} {Y : List (Nat × Nat)} {F : List (Nat × Nat × Nat)} {V W : Nat → Nat → Int} {n1 np : Nat} {Lw : List yK} (h : zCo V W n1 np Lw) (hl : zLF A Y F W Lw) (he : zEx A Y F V W n1 np) : zFull A Y F V W := ⟨n1, np, Lw, h, hl, he⟩
theorem zF_s {A : Nat → Nat} {Y : List (Nat × Nat)} {F : List (Nat × Nat × Nat)} {V V' W W' : Nat → Nat → Int} {n1 np : Nat} {Lw : List yK} (h : zCo V W n1 np Lw) (hl : zLF A Y F W Lw) (he : zEx A Y F V W n1 np) (hc : zCo V' W' n1 np Lw) (hV : ∀ o k, zVx o k → V' o k = V o k) (hW : ∀ o k, zWx o k → W' o k = W o k) : zFull A Y F V' W' := by
  obtain ⟨a1, a2⟩ := zRr_34 h.1
  obtain ⟨b1, b2⟩ := zRr_34 hc.1
  refine ⟨n1, np, Lw, hc, zLF_k ?_ ?_ (fun k => hW _ _ (Or.inl rfl)) (fun o k ho => hW _ _ (Or.inr (Or.inl ho))) hl, zEx_e (zCo_n h).1.1 hV hW he⟩
  · rw [a1, b1]
    exact hV _ _ (by unfold zVx; omega)
  · rw [a2, b2]
    exact hV _ _ (by unfold zVx; omega)
/-- the class alone told, nothing written there; the reference's thrown cleared -/
theorem zF_0 {A : Nat → Nat} {Y : List (Nat × Nat)} {F : List (Nat × Nat × Nat)} {V W : Nat → Nat → Int} (h : zFull A Y F V W) : zFull A Y F (zp_set V 0 0 0) W := by
  obtain ⟨n1, np, Lw, h, hl, he⟩ := h
  exact zF_s h hl he (zCo_0 h) (fun o k ho => zp_set_ne (by unfold zVx at ho; omega)) (fun _ _ _ => rfl)
/-- cells that calls that ask leave -/
theorem zF_ask {A : Nat → Nat} {Y : List (Nat × Nat)} {F : List (Nat × Nat × Nat)} {V V' W W' : Nat → Nat → Int} (hV : ∀ o k, zCa o k → V' o k = V o k) (hW : ∀ o k, o ≠ 8 → o ≠ 56 → o ≠ 57 → o ≠ 58 → W' o k = W o k) (h : zFull A Y F V W) : zFull A Y F V' W' := by
  obtain ⟨n1, np, Lw, h, hl, he⟩ := h
  refine zF_s h hl he (zCo_e (zCr_a hV) (fun o k ho => ?_) h) (fun o k ho => hV o k ?_) (fun o k ho => ?_)
  · unfold zCc at ho
    exact hW o k (by omega) (by omega) (by omega) (by omega)
  · unfold zVx at ho
    unfold zCa zCl zCk
    simp only [List.mem_cons, List.not_mem_nil, or_false]
    omega
  · unfold zWx at ho
    exact hW o k (by omega) (by omega) (by omega) (by omega)
/-- frames: what is refused, told -/
theorem zWx_rfs {W : Nat → Nat → Int} {v : Int} {o k : Nat} (h : zWx o k) : (zf_rfs W v).2 o k = W o k := zf_rfs_k (by unfold zWx at h; omega) (by unfold zWx at h; omega)
theorem zWx_ans {W : Nat → Nat → Int} {v : Int} {o k : Nat} (h : zWx o k) : (zf_ans W v).2 o k = W o k := zp_set_ne (by unfold zWx at h; omega)
theorem zWx_stc {W : Nat → Nat → Int} {v : Int} {o k : Nat} (h : zWx o k) : (zf_stc W v).2 o k = W o k := zf_stc_k (by unfold zWx at h; omega) (by unfold zWx at h; omega)
theorem zVx_tell {V : Nat → Nat → Int} {v : Int} {o k : Nat} (h : zVx o k) : zT_tell V v o k = V o k := zT_tell_k (by unfold zVx at h; omega) (by unfold zVx at h; omega)
theorem zVx_0 {V : Nat → Nat → Int} {v : Int} {o k : Nat} (h : zVx o k) : zp_set V 0 0 v o k = V o k := zp_set_ne (by unfold zVx at h; omega)
theorem zVx_rf {V : Nat → Nat → Int} {v w : Int} {o k : Nat} (h : zVx o k) : zT_tell (zp_set V 0 0 w) v o k = V o k := (zVx_tell h).trans (zVx_0 h)
theorem zVx_stl {V : Nat → Nat → Int} {v : Int} {o k : Nat} (h : zVx o k) : (zf_stl V v).2 o k = V o k := by
  unfold zf_stl
  split
  · exact (zVx_tell h).trans (zp_set_ne (by unfold zVx at h; omega))
  · exact (zVx_tell h).trans (zp_set_ne (by unfold zVx at h; omega))
