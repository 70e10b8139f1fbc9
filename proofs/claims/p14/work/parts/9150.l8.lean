/-! part l8: the class over logical cells: orders -/
/-- a text of orders, whole -/
noncomputable def zo_XL (A : Nat → Nat) (b0 b1 b2 b3 b4 cd sz : Nat) (L : List yK) (P : Nat → Option Nat) (G : Nat → Nat → Int) : Prop := zo_X A b0 b1 b2 b3 b4 cd P G ∧ sz ≤ 872 ∧ L.length ≤ 12 ∧ G (A 13) 6 = (L.length : Int) ∧ zXs (fun i j => G (zo_bs b0 b1 b2 b3 b4 i) (2000 + j)) (fun j => G cd (2000 + j)) sz true 0 L
theorem zo_bs_t {A : Nat → Nat} {b0 b1 b2 b3 b4 cd : Nat} {P : Nat → Option Nat} {G : Nat → Nat → Int} (h : zo_X A b0 b1 b2 b3 b4 cd P G) {i : Nat} (hi : i < 5) : P (zo_bs b0 b1 b2 b3 b4 i) = some (30 + i) := by
  obtain ⟨⟨-, p0ξ, p1ξ, p2ξ, p3ξ, p4ξ, -⟩, -⟩ := h
  have h5ξ : i = 0 ∨ i = 1 ∨ i = 2 ∨ i = 3 ∨ i = 4 := by omega
  rcases h5ξ with rfl | rfl | rfl | rfl | rfl
  · exact p0ξ
  · exact p1ξ
  · exact p2ξ
  · exact p3ξ
  · exact p4ξ
theorem zo_XL_f {A : Nat → Nat} {b0 b1 b2 b3 b4 cd sz : Nat} {L : List yK} {P : Nat → Option Nat} {G G' : Nat → Nat → Int} {eff : List (Nat × Nat × Nat)} {ps : List Int} (h : zo_XL A b0 b1 b2 b3 b4 cd sz L P G) (hfrξ : zp_fr eff ps P G G') (heξ : (zo_Xe eff && zp_nfb eff 8 6) = true) : zo_XL A b0 b1 b2 b3 b4 cd sz L P G' := by
  rw [Bool.and_eq_true] at heξ
  obtain ⟨heξ, e6⟩ := heξ
  obtain ⟨hXξ, hsξ, hlξ, h6ξ, hXsξ⟩ := h
  have he' := heξ
  unfold zo_Xe at he'
  simp only [Bool.and_eq_true] at he'
  obtain ⟨-, -, -, -, -, -, f0, f1, f2, f3, f4, f5⟩ := he'
  have hfξ : ∀ i, i < 5 → zp_ncb eff (30 + i) = true := fun i hi => by
    have h5ξ : i = 0 ∨ i = 1 ∨ i = 2 ∨ i = 3 ∨ i = 4 := by omega
    rcases h5ξ with rfl | rfl | rfl | rfl | rfl
    · exact f0
    · exact f1
    · exact f2
    · exact f3
    · exact f4
  exact ⟨zo_X_f hXξ hfrξ heξ, hsξ, hlξ, (zp_nf hfrξ hXξ.1.1 e6).trans h6ξ, zXs_c (Nat.le_refl _) (fun j _ => zp_nc hfrξ hXξ.1.2.2.2.2.2.2 f5 _) hXsξ (fun i j hi _ _ => zp_nc hfrξ (zo_bs_t hXξ hi) (hfξ i hi) _)⟩
theorem zo_XL_s {A : Nat → Nat} {b0 b1 b2 b3 b4 cd sz a t k : Nat} {v : Int} {L : List yK} {P : Nat → Option Nat} {G : Nat → Nat → Int} (h : zo_XL A b0 b1 b2 b3 b4 cd sz L P G) (haξ : P a = some t) (htξ : t ≠ 8) (ht2ξ : t < 30 ∨ 35 < t) : zo_XL A b0 b1 b2 b3 b4 cd sz L P (zp_set G a k v) := by
  obtain ⟨hXξ, hsξ, hlξ, h6ξ, hXsξ⟩ := h
  exact ⟨zo_X_s hXξ haξ htξ, hsξ, hlξ, (zp_set_ne (Or.inl (zp_pne hXξ.1.1 haξ (fun e => htξ e.symm)))).trans h6ξ, zXs_c (Nat.le_refl _) (fun j _ => zp_set_ne (Or.inl (zp_pne hXξ.1.2.2.2.2.2.2 haξ (by omega)))) hXsξ (fun i j hi _ _ => zp_set_ne (Or.inl (zp_pne (zo_bs_t hXξ hi) haξ (by omega))))⟩
theorem zo_XL_at {A : Nat → Nat} {b0 b1 b2 b3 b4 cd sz i : Nat} {L : List yK} {P : Nat → Option Nat} {G : Nat → Nat → Int} (h : zo_XL A b0 b1 b2 b3 b4 cd sz L P G) (hi : i < L.length) : ∃ K, L[i]? = some K ∧ zo_Xc b0 b1 b2 b3 b4 cd sz i K G := by
  obtain ⟨hXξ, hsξ, hlξ, h6ξ, hXsξ⟩ := h
  obtain ⟨K, h1ξ, h2ξ⟩ := zXs_at hXsξ hi
  rw [Nat.zero_add] at h2ξ
  exact ⟨K, h1ξ, hsξ, h2ξ⟩
theorem zCI_runC {A : Nat → Nat} {Y : List (Nat × Nat)} {F : List (Nat × Nat × Nat)} {V : Nat → Nat → Int} {n1ξ npξ : Nat} {K : yK} {Lwξ : List yK} (h : zCI A Y F V n1ξ npξ Lwξ) : zCI A Y F (zo_runC V n1ξ npξ Lwξ K).2 n1ξ npξ Lwξ := by
  unfold zo_runC
  split
  · split
    · split
      · exact zCI_do h
      · show zCI A Y F (if K.1 = 2 then _ else _) n1ξ npξ Lwξ
        split
        · exact zCI_0 (zCI_0 (zCI_do h))
        · exact zCI_0 (zCI_do h)
    · exact h
  · exact h
theorem zo_runC_13 {V : Nat → Nat → Int} {n1ξ npξ : Nat} {K : yK} {Lwξ : List yK} (h : 0 ≤ V 0 13) : 0 ≤ (zo_runC V n1ξ npξ Lwξ K).2 0 13 ∧ (zo_runC V n1ξ npξ Lwξ K).2 0 13 ≤ V 0 13 + 1 := by
  unfold zo_runC
  split
  · split
    · rename_i a b _ _
      have e := zo_doC_0 (V := V) (n1 := n1ξ) (np := npξ) (k := K.1) (a := a) (b := b) (Lw := Lwξ) (j := 13)
      split
      · show 0 ≤ (zo_doC V n1ξ npξ Lwξ K.1 a b).2 0 13 ∧ (zo_doC V n1ξ npξ Lwξ K.1 a b).2 0 13 ≤ V 0 13 + 1
        omega
      · by_cases c : K.1 = 2
        · rw [if_pos c]
          try dsimp only
          rw [zp_set_ne (Or.inr (by decide)), zp_set_self]
          omega
        · rw [if_neg c]
          try dsimp only
          rw [zp_set_self]
          omega
    · show 0 ≤ V 0 13 ∧ V 0 13 ≤ V 0 13 + 1
      omega
  · show 0 ≤ V 0 13 ∧ V 0 13 ≤ V 0 13 + 1
    omega
theorem zCI_tmC {A : Nat → Nat} {Y : List (Nat × Nat)} {F : List (Nat × Nat × Nat)} {n1ξ npξ : Nat} {K : yK} {Lwξ : List yK} : ∀ {t : Nat} {V : Nat → Nat → Int}, zCI A Y F V n1ξ npξ Lwξ → zCI A Y F (zo_tmC n1ξ npξ Lwξ K t V).2 n1ξ npξ Lwξ
  | 0, _, h => h
  | t + 1, V, h => by
    rw [zo_tmC]
    split
    · exact zCI_tmC (zCI_runC h)
    · exact zCI_runC h
theorem zo_tmC_13 {n1ξ npξ : Nat} {K : yK} {Lwξ : List yK} : ∀ {t : Nat} {V : Nat → Nat → Int}, 0 ≤ V 0 13 → 0 ≤ (zo_tmC n1ξ npξ Lwξ K t V).2 0 13 ∧ (zo_tmC n1ξ npξ Lwξ K t V).2 0 13 ≤ V 0 13 + (t : Int)
  | 0, V, h => by
    show 0 ≤ V 0 13 ∧ V 0 13 ≤ V 0 13 + ((0 : Nat) : Int)
    omega
  | t + 1, V, h => by
    have h1ξ := zo_runC_13 (n1ξ := n1ξ) (npξ := npξ) (K := K) (Lwξ := Lwξ) h
    rw [zo_tmC]
    split
    · have h2ξ := zo_tmC_13 (n1ξ := n1ξ) (npξ := npξ) (K := K) (Lwξ := Lwξ) (t := t) h1ξ.1
      omega
    · show 0 ≤ (zo_runC V n1ξ npξ Lwξ K).2 0 13 ∧ (zo_runC V n1ξ npξ Lwξ K).2 0 13 ≤ V 0 13 + ((t + 1 : Nat) : Int)
      omega
noncomputable def zo_csC (n1ξ npξ : Nat) (Lwξ : List yK) : List yK → Nat → (Nat → Nat → Int) → Int × (Nat → Nat → Int)
  | [], _, V => (-1, V)
  | K :: r, i, V => if (zo_tmC n1ξ npξ Lwξ K K.2.2.2.1.toNat V).1 = true then zo_csC n1ξ npξ Lwξ r (i + 1) (zo_tmC n1ξ npξ Lwξ K K.2.2.2.1.toNat V).2 else ((i : Int), (zo_tmC n1ξ npξ Lwξ K K.2.2.2.1.toNat V).2)
noncomputable def zo_b0C (V : Nat → Nat → Int) : Nat → Nat → Int := zp_set (zp_set V 11 1 0) 0 15 (-1)
noncomputable def zo_beC (V : Nat → Nat → Int) : Nat → Nat → Int := zp_set (zp_set (zf_uf10_3 (zf_kf9_2 (zo_b0C V)).2).2 0 13 0) 0 14 (-1)
noncomputable def zo_gbC (V : Nat → Nat → Int) (c : Int) : Nat → Nat → Int := zp_set (zf_uf3_10 (zf_kf2_9 V).2).2 0 15 c
noncomputable def zo_allC (V : Nat → Nat → Int) (n1ξ npξ : Nat) (Lwξ L : List yK) : Int × (Nat → Nat → Int) :=
  if (zo_csC n1ξ npξ Lwξ L 0 (zo_beC V)).1 < 0 then zf_ans (zo_csC n1ξ npξ Lwξ L 0 (zo_beC V)).2 ((zo_csC n1ξ npξ Lwξ L 0 (zo_beC V)).2 0 13)
  else zf_rfs (zo_gbC (zo_csC n1ξ npξ Lwξ L 0 (zo_beC V)).2 (zo_csC n1ξ npξ Lwξ L 0 (zo_beC V)).1) (-3)
theorem zNc_n {o : Nat} (h : o = 1 ∨ o = 2 ∨ o = 33 ∨ o = 36 ∨ o = 40 ∨ o = 50 ∨ o = 51 ∨ o = 52 ∨ 100 ≤ o) : zNc o := fun hmξ => by
  have h9ξ : o = 4 ∨ o = 5 ∨ o = 13 ∨ o = 21 ∨ o = 66 ∨ o = 67 ∨ o = 68 ∨ o = 69 ∨ o = 70 := by simpa using hmξ
  omega
theorem zCI_vk {A : Nat → Nat} {Y : List (Nat × Nat)} {F : List (Nat × Nat × Nat)} {V V1 : Nat → Nat → Int} {n1ξ npξ : Nat} {Lwξ : List yK} (hkξ : zVk V V1) (h : zCI A Y F V n1ξ npξ Lwξ) : zCI A Y F V1 n1ξ npξ Lwξ :=
  zCI_e (fun o k hoξ => hkξ o k (zNc_n hoξ) (by omega) (Or.inl (by omega))) h
theorem zCI_be {A : Nat → Nat} {Y : List (Nat × Nat)} {F : List (Nat × Nat × Nat)} {V : Nat → Nat → Int} {n1ξ npξ : Nat} {Lwξ : List yK} (h : zCI A Y F V n1ξ npξ Lwξ) : zCI A Y F (zo_beC V) n1ξ npξ Lwξ :=
  zCI_0 (zCI_0 (zCI_e (fun o k hoξ => zf_uf10_3_f (fun hmξ => by
    have h9ξ : o = 10 ∨ o = 64 ∨ o = 65 := by simpa using hmξ
    omega)) (zCI_e (fun o k hoξ => zf_kf9_2_f (fun hmξ => by
    have h9ξ : o = 9 ∨ o = 59 ∨ o = 60 ∨ o = 61 := by simpa using hmξ
    omega)) (zCI_0 (zCI_e (fun o k hoξ => zp_set_ne (Or.inl (by omega))) h)))))
noncomputable def zELo : List (Nat × Nat × Nat) := [(12, 13, 0), (12, 14, 0), (12, 15, 0), (12, 17, 0), (12, 18, 0), (10, 1, 0), (10, 3, 0), (10, 9, 0), (10, 14, 0), (10, 15, 0), (10, 16, 0), (10, 17, 0), (2, 3, 0), (2, 4, 0), (2, 5, 0), (2, 6, 0), (11, 2, 0), (11, 3, 0), (0, 1, 0), (0, 2, 0), (6, 2, 0), (1, 1, 0), (1, 2, 0), (1, 3, 0), (7, 1, 0), (7, 2, 0), (7, 3, 0), (7, 4, 0), (7, 5, 0), (14, 1001, 0), (15, 1001, 0), (16, 1001, 0), (17, 1001, 0), (18, 1001, 0), (19, 1001, 0), (27, 1001, 0), (28, 1001, 0), (29, 1001, 0), (42, 1001, 0), (43, 1001, 0), (44, 1001, 0), (45, 1001, 0), (46, 1001, 0), (47, 1001, 0), (48, 1001, 0), (49, 1001, 0), (50, 1001, 0), (51, 1001, 0), (53, 1001, 0), (54, 1001, 0), (56, 1001, 0), (57, 1001, 0), (5, 4, 0), (35, 1001, 0), (8, 7, 0), (30, 1001, 0), (31, 1001, 0), (32, 1001, 0), (33, 1001, 0), (34, 1001, 0), (8, 6, 0), (5, 2, 0), (5, 3, 0)]
/-- what comes of orders in the class -/
noncomputable def zo_pC (A : Nat → Nat) (Y : List (Nat × Nat)) (F : List (Nat × Nat × Nat)) (V : Nat → Nat → Int) (ln n1ξ npξ : Nat) (Lwξ : List yK) (P' : Nat → Option Nat) (G' : Nat → Nat → Int) (rn : Int) : Prop := ∃ s V1, zVk V V1 ∧ yT (zy_so (fun j => V 71 (2000 + j)) ln) (zy_wo (fun j => V 71 (2000 + j)) ln) (zy_to (fun j => V 71 (2000 + j)) ln) (yt_co (zy_so (fun j => V 71 (2000 + j)) ln) (zy_wo (fun j => V 71 (2000 + j)) ln) (zy_to (fun j => V 71 (2000 + j)) ln) (ylf true (fun j => V 71 (2000 + j)) ln)) 12 0 0 s ∧ ((∃ q, s = Sum.inl q ∧ V1 12 2 = (zy_fr (fun j => V 71 (2000 + j)) ln q : Int) ∧ rn = -6 ∧ zMVc A Y F (zf_rfs (zo_b0C V1) (-6)).2 P' G') ∨ ∃ L : List yK, s = Sum.inr L ∧ V1 12 2 = -1 ∧ rn = (zo_allC V1 n1ξ npξ Lwξ L).1 ∧ zMVc A Y F (zo_allC V1 n1ξ npξ Lwξ L).2 P' G')
noncomputable def zK_orc : zk_K := (zt_mn 79, prog_1_method_15_code, 3, (Option.some Jvm.ClassFile.FieldType.int), 1, 11, [(2, 12, 0, 0)], [(some (0, 0, (-2147483648), 2147483647), [])], zELo, (51, 1170, 0, 0))
noncomputable def zφ_orc (A : Nat → Nat) (Y : List (Nat × Nat)) (F : List (Nat × Nat × Nat)) (V : Nat → Nat → Int) (ln n1ξ npξ : Nat) (Lwξ : List yK) : (Nat → Option Nat) → (Nat → Nat → Int) → List Int → Prop := fun P G ps => zMVc A Y F V P G ∧ ps.getD 0 0 = (A 0 : Int) ∧ zMc Y F ∧ V 11 1 = (ln : Int) ∧ ln ≤ 400 ∧ (∀ j, j < ln → 0 ≤ V 71 (2000 + j) ∧ V 71 (2000 + j) ≤ 255) ∧ zCI A Y F V n1ξ npξ Lwξ
noncomputable def zψ_orc (A : Nat → Nat) (Y : List (Nat × Nat)) (F : List (Nat × Nat × Nat)) (V : Nat → Nat → Int) (ln n1ξ npξ : Nat) (Lwξ : List yK) : (Nat → Option Nat) → (Nat → Nat → Int) → List Int → (Nat → Option Nat) → (Nat → Nat → Int) → Int → Prop := fun P G ps P' G' rn => P' = P ∧ zo_pC A Y F V ln n1ξ npξ Lwξ P' G' rn
set_option maxHeartbeats 16000000 in
theorem zX_orc {l : Launch} {w : zk_W} (hWξ : zh_W w) (A : Nat → Nat) (Y : List (Nat × Nat)) (F : List (Nat × Nat × Nat)) (V : Nat → Nat → Int) (ln n1ξ npξ : Nat) (Lwξ : List yK) : zk_metX l w zt_dv zt_TB zK_orc (zp_A (zφ_orc A Y F V ln n1ξ npξ Lwξ)) (zp_B (zψ_orc A Y F V ln n1ξ npξ Lwξ)) ∧ zk_cok w zt_TB zK_orc := by
  refine zp_methX (cn := "WoundTown") zp_lkallW hWξ (pl := 888) rfl (by decide +kernel) (fun p e R s m args below meth c Q u hx hb hEξ hQξ hU5ξ heffξ hnLξ hokξ hφ => ?_)
  have hwξ := hWξ.1
  obtain ⟨p0ξ, hpsξ, tk0⟩ := zp_ps1 hokξ
  have hrmξ : zk_Kr (zk_ev (zt_types, zp_lkW, zt_dv, [], [], zp_lcW, zK_orc)) = zk_Kr zK_orc := rfl
  rw [hpsξ] at hφ ⊢
  have hφ : zMVc A Y F V u.1 (zp_n u.2.1) ∧ p0ξ = (A 0 : Int) ∧ zMc Y F ∧ V 11 1 = (ln : Int) ∧ ln ≤ 400 ∧ (∀ j, j < ln → 0 ≤ V 71 (2000 + j) ∧ V 71 (2000 + j) ≤ 255) ∧ zCI A Y F V n1ξ npξ Lwξ := hφ
  obtain ⟨⟨M, hMξ, hVξ, hSbξ⟩, rfl, hYFξ, hlnξ, hln4ξ, hB255ξ, hCI0ξ⟩ := hφ
  have hYF0ξ := hYFξ
  obtain ⟨hYbξ, hFbξ, hFxξ, -⟩ := hYFξ
  show zp_J p l e R s m args below meth c Q w u [] 0 [(0, 2, (A 0 : Int))] [] u.1 (zp_n u.2.1)
  refine zp_kn (k := 0) (a := A 13) hwξ (show zp_fd 8 0 = some (8, 2, 30, 0, 0) from rfl) rfl (zM_P hMξ (hYbξ _ (List.mem_of_getElem? (i := 13) rfl))) (fun hkb0ξ => ?_)
  obtain ⟨b0, hb0ξ, qb0⟩ := zp_this hkb0ξ
  refine zp_kn (k := 1) (a := A 13) hwξ (show zp_fd 8 1 = some (8, 2, 31, 0, 0) from rfl) rfl (zM_P hMξ (hYbξ _ (List.mem_of_getElem? (i := 13) rfl))) (fun hkb1ξ => ?_)
  obtain ⟨b1, hb1ξ, qb1⟩ := zp_this hkb1ξ
  refine zp_kn (k := 2) (a := A 13) hwξ (show zp_fd 8 2 = some (8, 2, 32, 0, 0) from rfl) rfl (zM_P hMξ (hYbξ _ (List.mem_of_getElem? (i := 13) rfl))) (fun hkb2ξ => ?_)
  obtain ⟨b2, hb2ξ, qb2⟩ := zp_this hkb2ξ
  refine zp_kn (k := 3) (a := A 13) hwξ (show zp_fd 8 3 = some (8, 2, 33, 0, 0) from rfl) rfl (zM_P hMξ (hYbξ _ (List.mem_of_getElem? (i := 13) rfl))) (fun hkb3ξ => ?_)
  obtain ⟨b3, hb3ξ, qb3⟩ := zp_this hkb3ξ
  refine zp_kn (k := 4) (a := A 13) hwξ (show zp_fd 8 4 = some (8, 2, 34, 0, 0) from rfl) rfl (zM_P hMξ (hYbξ _ (List.mem_of_getElem? (i := 13) rfl))) (fun hkb4ξ => ?_)
  obtain ⟨b4, hb4ξ, qb4⟩ := zp_this hkb4ξ
  refine zp_kn (k := 5) (a := A 13) hwξ (show zp_fd 8 5 = some (8, 2, 35, 0, 0) from rfl) rfl (zM_P hMξ (hYbξ _ (List.mem_of_getElem? (i := 13) rfl))) (fun hkcdξ => ?_)
  obtain ⟨cd, hcdξ, qcd⟩ := zp_this hkcdξ
  have hXs0ξ : zo_X A b0 b1 b2 b3 b4 cd u.1 (zp_n u.2.1) := ⟨⟨zM_P hMξ (hYbξ _ (List.mem_of_getElem? (i := 13) rfl)), qb0, qb1, qb2, qb3, qb4, qcd⟩, hb0ξ, hb1ξ, hb2ξ, hb3ξ, hb4ξ, hcdξ⟩
  have hbbξ : ∀ i : Nat, i < 5 → zp_n u.2.1 (A 13) i = (zo_bs b0 b1 b2 b3 b4 i : Int) ∧ u.1 (zo_bs b0 b1 b2 b3 b4 i) = some (30 + i) := by
    intro i hi
    have hi5ξ : i = 0 ∨ i = 1 ∨ i = 2 ∨ i = 3 ∨ i = 4 := by omega
    rcases hi5ξ with rfl | rfl | rfl | rfl | rfl
    · exact ⟨hb0ξ, qb0⟩
    · exact ⟨hb1ξ, qb1⟩
    · exact ⟨hb2ξ, qb2⟩
    · exact ⟨hb3ξ, qb3⟩
    · exact ⟨hb4ξ, qb4⟩
  have hr13ξ : zp_n u.2.1 (A 12) 1 = (A 13 : Int) := (zM_G hMξ (hYbξ _ (List.mem_of_getElem? (i := 12) rfl)) 1).trans (zM_F hMξ (hFbξ _ (List.mem_of_getElem? (i := 50) rfl)))
  have hr11ξ : zp_n u.2.1 (A 12) 0 = (A 11 : Int) := (zM_G hMξ (hYbξ _ (List.mem_of_getElem? (i := 12) rfl)) 0).trans (zM_F hMξ (hFbξ _ (List.mem_of_getElem? (i := 49) rfl)))
  have hr71ξ : zp_n u.2.1 (A 11) 0 = (A 71 : Int) := (zM_G hMξ (hYbξ _ (List.mem_of_getElem? (i := 11) rfl)) 0).trans (zM_F hMξ (hFbξ _ (List.mem_of_getElem? (i := 48) rfl)))
  have hl11ξ : zp_n u.2.1 (A 11) 1 = (ln : Int) := (zM_G hMξ (hYbξ _ (List.mem_of_getElem? (i := 11) rfl)) 1).trans ((hVξ 11 1 (by decide)).trans hlnξ)
  have hB71ξ : ∀ j, zp_n u.2.1 (A 71) (2000 + j) = V 71 (2000 + j) := fun j => (zM_G hMξ (hYbξ _ (List.mem_of_getElem? (i := 49) rfl)) _).trans (hVξ 71 _ (by decide))
  refine zp_load (pc := 0) hx hb (zd_X11_orders (0, .aload_n 0, 1, 0, []) (List.mem_of_getElem? (i := 0) rfl)) rfl (j := 0) rfl ?_
  refine zp_getf (n := (A 12 : Int)) (pc := 1) hx hb hEξ hwξ (zd_X11_orders (1, .getfield 76, 3, 0, []) (List.mem_of_getElem? (i := 1) rfl)) (j := 59) rfl rfl rfl (zM_P hMξ (hYbξ _ (List.mem_of_getElem? (i := 0) rfl))) ((zM_G hMξ (hYbξ _ (List.mem_of_getElem? (i := 0) rfl)) 9).trans (zM_F hMξ (hFbξ _ (List.mem_of_getElem? (i := 7) rfl)))) ?_
  refine zp_const (pc := 4) hx hb (zd_X11_orders (4, .iconst 1, 1, 0, []) (List.mem_of_getElem? (i := 2) rfl)) rfl rfl ?_
  refine zp_call (pc := 5) (how := 0) (idx := 208) (mi := 40) (S := []) hx hb hEξ hwξ heffξ hrmξ (zX_rdo hWξ (A 11) (A 13) (A 71) cd (fun j => V 71 (2000 + j)) ln (zo_bs b0 b1 b2 b3 b4)) rfl (j := 23) rfl rfl (by decide +kernel) (zd_X11_orders (5, .invokevirtual 208, 3, 0, []) (List.mem_of_getElem? (i := 3) rfl)) [(A 12 : Int), 1] rfl ⟨zp_o2 (zM_P hMξ (hYbξ _ (List.mem_of_getElem? (i := 12) rfl))), zp_o0 (by decide) (by decide) (by decide) (by decide), trivial⟩ (Nat.le_of_ble_eq_true rfl) ⟨⟨⟨(zM_P hMξ (hYbξ _ (List.mem_of_getElem? (i := 12) rfl))), (zM_P hMξ (hYbξ _ (List.mem_of_getElem? (i := 11) rfl))), (zM_P hMξ (hYbξ _ (List.mem_of_getElem? (i := 13) rfl))), (zM_P hMξ (hYbξ _ (List.mem_of_getElem? (i := 49) rfl))), qcd⟩, hr11ξ, hr13ξ, hcdξ⟩, ⟨⟨hr71ξ, hl11ξ, hln4ξ, hB71ξ⟩, hB255ξ⟩, hbbξ, rfl⟩ (fun al halξ rnr Pr Gr hextrξ hfrrξ hokrξ hcsrξ hpsirξ => ?_)
  obtain rfl := List.mem_singleton.mp halξ
  obtain ⟨hPrξ, sr, hsrξ, htr9ξ⟩ := hpsirξ
  subst hPrξ
  obtain ⟨Mr, hMrξ, hMfrξ⟩ := zM_ef2 (eff := zERd) hMξ hYF0ξ (show zp_fr zERd _ _ _ _ from hfrrξ) hextrξ (by decide) (by decide) (by decide)
  have hfrrξ : zp_fr zERd _ _ _ _ := hfrrξ
  have hVkξ : zVk V Mr := zVk_r hVξ hMfrξ
  have hVMrξ : ∀ o k, zNc o → Mr o k = Mr o k := fun _ _ _ => rfl
  have hCIrξ : zCI A Y F Mr n1ξ npξ Lwξ := zCI_vk hVkξ hCI0ξ
  rcases htr9ξ with ⟨qr, rfl, hzrξ, hfr9ξ⟩ | ⟨Lr, C9, sz9, rfl, hzrξ, hfr9ξ, hx6ξ, hxlξ, hx7ξ, hxsξ, hxCξ, hXsξ⟩
  · subst hzrξ
    have hfr8ξ : Mr 12 2 = (zy_fr (fun j => V 71 (2000 + j)) ln qr : Int) := (zM_G hMrξ (hYbξ _ (List.mem_of_getElem? (i := 12) rfl)) 2).symm.trans hfr9ξ
    refine zp_store (L' := [(1, 0, 0), (0, 2, (A 0 : Int))]) (pc := 8) hx hb hnLξ (zd_X11_orders (8, .istore_n 1, 1, 0, []) (List.mem_of_getElem? (i := 4) rfl)) rfl rfl rfl ?_
    refine zp_load (pc := 9) hx hb (zd_X11_orders (9, .aload_n 0, 1, 0, []) (List.mem_of_getElem? (i := 5) rfl)) rfl (j := 1) rfl ?_
    refine zp_getf (n := (A 11 : Int)) (pc := 10) hx hb hEξ hwξ (zd_X11_orders (10, .getfield 67, 3, 0, []) (List.mem_of_getElem? (i := 6) rfl)) (j := 58) rfl rfl rfl (zM_P hMrξ (hYbξ _ (List.mem_of_getElem? (i := 0) rfl))) ((zM_G hMrξ (hYbξ _ (List.mem_of_getElem? (i := 0) rfl)) 8).trans (zM_F hMrξ (hFbξ _ (List.mem_of_getElem? (i := 6) rfl)))) ?_
    refine zp_const (pc := 13) hx hb (zd_X11_orders (13, .iconst 0, 1, 0, []) (List.mem_of_getElem? (i := 7) rfl)) rfl rfl ?_
    refine zp_putf (pc := 14) hx hb hEξ hwξ heffξ (zd_X11_orders (14, .putfield 193, 3, 0, []) (List.mem_of_getElem? (i := 8) rfl)) (j := 39) rfl rfl rfl (zM_P hMrξ (hYbξ _ (List.mem_of_getElem? (i := 11) rfl))) (zp_o0 (by decide) (by decide) (by decide) (by decide)) ?_
    refine zp_load (pc := 17) hx hb (zd_X11_orders (17, .aload_n 0, 1, 0, []) (List.mem_of_getElem? (i := 9) rfl)) rfl (j := 1) rfl ?_
    refine zp_const (pc := 18) hx hb (zd_X11_orders (18, .iconst (-1), 1, 0, []) (List.mem_of_getElem? (i := 10) rfl)) rfl rfl ?_
    refine zp_putf (pc := 19) hx hb hEξ hwξ heffξ (zd_X11_orders (19, .putfield 98, 3, 0, []) (List.mem_of_getElem? (i := 11) rfl)) (j := 65) rfl rfl rfl (zM_P hMrξ (hYbξ _ (List.mem_of_getElem? (i := 0) rfl))) (zp_o0 (by decide) (by decide) (by decide) (by decide)) ?_
    refine zp_load (pc := 22) hx hb (zd_X11_orders (22, .iload_n 1, 1, 0, []) (List.mem_of_getElem? (i := 12) rfl)) rfl (j := 0) rfl ?_
    refine zp_if (pc := 23) (tgt := 33) hx hb (zd_X11_orders (23, .ifCond .ne 10, 3, 0, []) (List.mem_of_getElem? (i := 13) rfl)) rfl (fun (hc699ξ : ¬ (0 : Int) = 0) => ?_) (fun (hc699ξ : ¬ (¬ (0 : Int) = 0)) => ?_)
    · exfalso
      omega
    · refine zp_load (pc := 26) hx hb (zd_X11_orders (26, .aload_n 0, 1, 0, []) (List.mem_of_getElem? (i := 14) rfl)) rfl (j := 1) rfl ?_
      refine zp_const (pc := 27) hx hb (zd_X11_orders (27, .bipush (-6), 2, 0, []) (List.mem_of_getElem? (i := 15) rfl)) rfl rfl ?_
      refine zp_call (pc := 29) (how := 0) (idx := 111) (mi := 16) (S := []) hx hb hEξ hwξ heffξ hrmξ (zX_rfs hWξ A Y F (zp_set (zp_set Mr 11 1 0) 0 15 (-1))) rfl (j := 11) rfl rfl (by decide +kernel) (zd_X11_orders (29, .invokevirtual 111, 3, 0, []) (List.mem_of_getElem? (i := 16) rfl)) [(A 0 : Int), (-6)] rfl ⟨zp_o2 (zM_P hMrξ (hYbξ _ (List.mem_of_getElem? (i := 0) rfl))), zp_o0 (by omega) (by omega) (by omega) (by omega), trivial⟩ (Nat.le_of_ble_eq_true rfl) ⟨⟨(zp_set (zp_set Mr 11 1 0) 0 15 (-1)), (zM_set (zM_set hMrξ (hYbξ _ (List.mem_of_getElem? (i := 11) rfl)) (zFx hFxξ (o := 11) (k := 1) (by decide) (by decide))) (hYbξ _ (List.mem_of_getElem? (i := 0) rfl)) (zFx hFxξ (o := 0) (k := 15) (by decide) (by decide))), (zV_set (zV_set hVMrξ)), trivial⟩, rfl, hYF0ξ⟩ (fun al halξ rnz Pz Gz hextzξ hfrzξ hokzξ hcszξ hpsizξ => ?_)
      obtain rfl := List.mem_singleton.mp halξ
      have hrzξ := zp_int (hokzξ _ rfl).1
      obtain ⟨hPezξ, ⟨Mz, hMzξ, hVMzξ, -⟩, htzξ⟩ := hpsizξ
      subst hPezξ
      clear hextzξ hfrzξ hcszξ hokzξ
      have hVMzξ : ∀ o k, zNc o → Mz o k = (zf_rfs (zp_set (zp_set Mr 11 1 0) 0 15 (-1)) (-6)).2 o k := hVMzξ
      have htzξ : rnz = (zf_rfs (zp_set (zp_set Mr 11 1 0) 0 15 (-1)) (-6)).1 := htzξ
      refine zp_iret (pc := 32) (n := rnz) hx hb hEξ hQξ hU5ξ rfl (by decide) (zd_X11_orders (32, .ireturn, 1, 0, []) (List.mem_of_getElem? (i := 17) rfl)) (j := 0) rfl (zp_o0 (by omega) (by omega) (by omega) (by omega)) ?_
      rw [hpsξ]
      refine ⟨rfl, ?_⟩
      have hrvξ : (zf_rfs (zo_b0C Mr) (-6)).1 = -6 := by
        unfold zf_rfs
        rw [if_pos rfl]
      exact ⟨_, Mr, hVkξ, hsrξ, Or.inl ⟨qr, rfl, hfr8ξ, (Eq.trans htzξ) hrvξ, ⟨Mz, hMzξ, hVMzξ, trivial⟩⟩⟩
  · subst hzrξ
    have hfr8ξ : Mr 12 2 = -1 := (zM_G hMrξ (hYbξ _ (List.mem_of_getElem? (i := 12) rfl)) 2).symm.trans hfr9ξ
    have hXLrξ : zo_XL A b0 b1 b2 b3 b4 cd sz9 Lr u.1 Gr := ⟨⟨hXs0ξ.1, (zp_nf hfrrξ hXs0ξ.1.1 (by decide)).trans hb0ξ, (zp_nf hfrrξ hXs0ξ.1.1 (by decide)).trans hb1ξ, (zp_nf hfrrξ hXs0ξ.1.1 (by decide)).trans hb2ξ, (zp_nf hfrrξ hXs0ξ.1.1 (by decide)).trans hb3ξ, (zp_nf hfrrξ hXs0ξ.1.1 (by decide)).trans hb4ξ, (zp_nf hfrrξ hXs0ξ.1.1 (by decide)).trans hcdξ⟩, hxsξ, hxlξ, hx6ξ, zXs_c (Nat.le_refl _) (fun j _ => hxCξ j) hXsξ (fun i j _ _ _ => rfl)⟩
    have hwfξ : ∀ K ∈ Lr, zo_wf K := yT_wf hsrξ
    have h70ξ : ∀ (r : List yK) (i : Nat) (X : Nat → Nat → Int) (G : Nat → Nat → Int), i + r.length = Lr.length → (∀ j, r[j]? = Lr[i + j]?) → zCI A Y F X n1ξ npξ Lwξ → (0 ≤ X 0 13 ∧ X 0 13 ≤ 20 * (i : Int)) → zMVc A Y F X u.1 G → zo_XL A b0 b1 b2 b3 b4 cd sz9 Lr u.1 G → zo_csC n1ξ npξ Lwξ Lr 0 (zo_beC Mr) = zo_csC n1ξ npξ Lwξ r i X → zp_J p l e R s m args below meth c Q w u [] 70 [(2, 0, (i : Int)), (0, 2, (A 0 : Int))] [] u.1 G := by
      clear hbbξ
      intro r
      induction r with
      | nil =>
        intro i X G hilξ hrξ hCIξ h13ξ hMVξ hXLξ hfinξ
        obtain ⟨Ma, hMaξ, hVMaξ, -⟩ := hMVξ
        have hn6ξ : Ma 13 6 = (Lr.length : Int) := (zM_G hMaξ (hYbξ _ (List.mem_of_getElem? (i := 13) rfl)) 6).symm.trans hXLξ.2.2.2.1
        have hlenξ : ([] : List yK).length = 0 := rfl
        have hi9ξ : (i : Int) = (Lr.length : Int) := by omega
        refine zp_load (pc := 70) hx hb (zd_X11_orders (70, .iload_n 2, 1, 0, []) (List.mem_of_getElem? (i := 37) rfl)) rfl (j := 0) rfl ?_
        refine zp_load (pc := 71) hx hb (zd_X11_orders (71, .aload_n 0, 1, 0, []) (List.mem_of_getElem? (i := 38) rfl)) rfl (j := 1) rfl ?_
        refine zp_getf (n := (A 12 : Int)) (pc := 72) hx hb hEξ hwξ (zd_X11_orders (72, .getfield 76, 3, 0, []) (List.mem_of_getElem? (i := 39) rfl)) (j := 59) rfl rfl rfl (zM_P hMaξ (hYbξ _ (List.mem_of_getElem? (i := 0) rfl))) ((zM_G hMaξ (hYbξ _ (List.mem_of_getElem? (i := 0) rfl)) 9).trans (zM_F hMaξ (hFbξ _ (List.mem_of_getElem? (i := 7) rfl)))) ?_
        refine zp_getf (n := (A 13 : Int)) (pc := 75) hx hb hEξ hwξ (zd_X11_orders (75, .getfield 216, 3, 0, []) (List.mem_of_getElem? (i := 40) rfl)) (j := 47) rfl rfl rfl (zM_P hMaξ (hYbξ _ (List.mem_of_getElem? (i := 12) rfl))) ((zM_G hMaξ (hYbξ _ (List.mem_of_getElem? (i := 12) rfl)) 1).trans (zM_F hMaξ (hFbξ _ (List.mem_of_getElem? (i := 50) rfl)))) ?_
        refine zp_getf (n := (Lr.length : Int)) (pc := 78) hx hb hEξ hwξ (zd_X11_orders (78, .getfield 236, 3, 0, []) (List.mem_of_getElem? (i := 41) rfl)) (j := 46) rfl rfl rfl (zM_P hMaξ (hYbξ _ (List.mem_of_getElem? (i := 13) rfl))) ((zM_G hMaξ (hYbξ _ (List.mem_of_getElem? (i := 13) rfl)) 6).trans hn6ξ) ?_
        refine zp_icmp (pc := 81) (tgt := 142) hx hb (zd_X11_orders (81, .if_icmp .ge 61, 3, 0, []) (List.mem_of_getElem? (i := 42) rfl)) rfl (fun (hc700ξ : (Lr.length : Int) ≤ (i : Int)) => ?_) (fun (hc700ξ : ¬ ((Lr.length : Int) ≤ (i : Int))) => ?_)
        · refine zp_load (pc := 142) hx hb (zd_X11_orders (142, .aload_n 0, 1, 0, []) (List.mem_of_getElem? (i := 70) rfl)) rfl (j := 1) rfl ?_
          refine zp_load (pc := 143) hx hb (zd_X11_orders (143, .aload_n 0, 1, 0, []) (List.mem_of_getElem? (i := 71) rfl)) rfl (j := 1) rfl ?_
          refine zp_getf (n := (X 0 13)) (pc := 144) hx hb hEξ hwξ (zd_X11_orders (144, .getfield 233, 3, 0, []) (List.mem_of_getElem? (i := 72) rfl)) (j := 63) rfl rfl rfl (zM_P hMaξ (hYbξ _ (List.mem_of_getElem? (i := 0) rfl))) ((zM_G hMaξ (hYbξ _ (List.mem_of_getElem? (i := 0) rfl)) 13).trans (hVMaξ 0 13 (by decide))) ?_
          refine zp_kn (k := 13) (a := (A 0)) hwξ (show zp_fd 12 13 = some (11, 0, 0, (-2147483648), 2147483647) from rfl) rfl (zM_P hMaξ (hYbξ _ (List.mem_of_getElem? (i := 0) rfl))) (fun hf701ξ => ?_)
          have hf701bξ := zp_int hf701ξ
          rw [((zM_G hMaξ (hYbξ _ (List.mem_of_getElem? (i := 0) rfl)) 13).trans (hVMaξ 0 13 (by decide)))] at hf701bξ
          clear hf701ξ
          refine zp_call (pc := 147) (how := 0) (idx := 118) (mi := 17) (S := []) hx hb hEξ hwξ heffξ hrmξ (zX_ans hWξ A Y F X) rfl (j := 12) rfl rfl (by decide +kernel) (zd_X11_orders (147, .invokevirtual 118, 3, 0, []) (List.mem_of_getElem? (i := 73) rfl)) [(A 0 : Int), (X 0 13)] rfl ⟨zp_o2 (zM_P hMaξ (hYbξ _ (List.mem_of_getElem? (i := 0) rfl))), zp_o0 (by omega) (by omega) (by omega) (by omega), trivial⟩ (Nat.le_of_ble_eq_true rfl) ⟨⟨Ma, hMaξ, hVMaξ, trivial⟩, rfl, hYF0ξ⟩ (fun al halξ rnz Pz Gz hextzξ hfrzξ hokzξ hcszξ hpsizξ => ?_)
          obtain rfl := List.mem_singleton.mp halξ
          have hrzξ := zp_int (hokzξ _ rfl).1
          obtain ⟨hPezξ, ⟨Mz, hMzξ, hVMzξ, -⟩, htzξ⟩ := hpsizξ
          subst hPezξ
          clear hextzξ hfrzξ hcszξ hokzξ
          have hVMzξ : ∀ o k, zNc o → Mz o k = (zf_ans X (X 0 13)).2 o k := hVMzξ
          have htzξ : rnz = (zf_ans X (X 0 13)).1 := htzξ
          refine zp_iret (pc := 150) (n := rnz) hx hb hEξ hQξ hU5ξ rfl (by decide) (zd_X11_orders (150, .ireturn, 1, 0, []) (List.mem_of_getElem? (i := 74) rfl)) (j := 0) rfl (zp_o0 (by omega) (by omega) (by omega) (by omega)) ?_
          rw [hpsξ]
          refine ⟨rfl, ?_⟩
          have hcsξ : zo_csC n1ξ npξ Lwξ Lr 0 (zo_beC Mr) = (-1, X) := hfinξ
          have hallξ : zo_allC Mr n1ξ npξ Lwξ Lr = zf_ans X (X 0 13) := by
            unfold zo_allC
            rw [hcsξ]
            rfl
          refine ⟨_, Mr, hVkξ, hsrξ, Or.inr ⟨Lr, rfl, hfr8ξ, ?_, ?_⟩⟩
          · rw [hallξ]
            exact htzξ
          · rw [hallξ]
            exact ⟨Mz, hMzξ, hVMzξ, trivial⟩
        · exfalso
          omega
      | cons K r ih =>
        intro i X G hilξ hrξ hCIξ h13ξ hMVξ hXLξ hfinξ
        obtain ⟨Ma, hMaξ, hVMaξ, -⟩ := hMVξ
        have hn6ξ : Ma 13 6 = (Lr.length : Int) := (zM_G hMaξ (hYbξ _ (List.mem_of_getElem? (i := 13) rfl)) 6).symm.trans hXLξ.2.2.2.1
        have hlenξ : (K :: r).length = r.length + 1 := rfl
        have hi9ξ : i < Lr.length := by omega
        have hi12ξ : Lr.length ≤ 12 := hXLξ.2.2.1
        have hK0ξ : Lr[i]? = some K := (hrξ 0).symm
        obtain ⟨K9, hK9ξ, hXc9ξ⟩ := zo_XL_at hXLξ hi9ξ
        obtain rfl : K9 = K := Option.some.inj ((Eq.symm hK9ξ).trans hK0ξ)
        have hwKξ := hwfξ K9 (List.mem_of_getElem? hK0ξ)
        have hcsξ : zo_csC n1ξ npξ Lwξ (K9 :: r) i X = if (zo_tmC n1ξ npξ Lwξ K9 K9.2.2.2.1.toNat X).1 = true then zo_csC n1ξ npξ Lwξ r (i + 1) (zo_tmC n1ξ npξ Lwξ K9 K9.2.2.2.1.toNat X).2 else ((i : Int), (zo_tmC n1ξ npξ Lwξ K9 K9.2.2.2.1.toNat X).2) := rfl
        rw [hcsξ] at hfinξ
        have hCItξ : zCI A Y F (zo_tmC n1ξ npξ Lwξ K9 K9.2.2.2.1.toNat X).2 n1ξ npξ Lwξ := zCI_tmC hCIξ
        have h13tξ := zo_tmC_13 (n1ξ := n1ξ) (npξ := npξ) (K := K9) (Lwξ := Lwξ) (t := K9.2.2.2.1.toNat) h13ξ.1
        have hK20ξ := hwKξ.2.2.2
        refine zp_load (pc := 70) hx hb (zd_X11_orders (70, .iload_n 2, 1, 0, []) (List.mem_of_getElem? (i := 37) rfl)) rfl (j := 0) rfl ?_
        refine zp_load (pc := 71) hx hb (zd_X11_orders (71, .aload_n 0, 1, 0, []) (List.mem_of_getElem? (i := 38) rfl)) rfl (j := 1) rfl ?_
        refine zp_getf (n := (A 12 : Int)) (pc := 72) hx hb hEξ hwξ (zd_X11_orders (72, .getfield 76, 3, 0, []) (List.mem_of_getElem? (i := 39) rfl)) (j := 59) rfl rfl rfl (zM_P hMaξ (hYbξ _ (List.mem_of_getElem? (i := 0) rfl))) ((zM_G hMaξ (hYbξ _ (List.mem_of_getElem? (i := 0) rfl)) 9).trans (zM_F hMaξ (hFbξ _ (List.mem_of_getElem? (i := 7) rfl)))) ?_
        refine zp_getf (n := (A 13 : Int)) (pc := 75) hx hb hEξ hwξ (zd_X11_orders (75, .getfield 216, 3, 0, []) (List.mem_of_getElem? (i := 40) rfl)) (j := 47) rfl rfl rfl (zM_P hMaξ (hYbξ _ (List.mem_of_getElem? (i := 12) rfl))) ((zM_G hMaξ (hYbξ _ (List.mem_of_getElem? (i := 12) rfl)) 1).trans (zM_F hMaξ (hFbξ _ (List.mem_of_getElem? (i := 50) rfl)))) ?_
        refine zp_getf (n := (Lr.length : Int)) (pc := 78) hx hb hEξ hwξ (zd_X11_orders (78, .getfield 236, 3, 0, []) (List.mem_of_getElem? (i := 41) rfl)) (j := 46) rfl rfl rfl (zM_P hMaξ (hYbξ _ (List.mem_of_getElem? (i := 13) rfl))) ((zM_G hMaξ (hYbξ _ (List.mem_of_getElem? (i := 13) rfl)) 6).trans hn6ξ) ?_
        refine zp_icmp (pc := 81) (tgt := 142) hx hb (zd_X11_orders (81, .if_icmp .ge 61, 3, 0, []) (List.mem_of_getElem? (i := 42) rfl)) rfl (fun (hc702ξ : (Lr.length : Int) ≤ (i : Int)) => ?_) (fun (hc702ξ : ¬ ((Lr.length : Int) ≤ (i : Int))) => ?_)
        · exfalso
          omega
        · refine zp_load (pc := 84) hx hb (zd_X11_orders (84, .aload_n 0, 1, 0, []) (List.mem_of_getElem? (i := 43) rfl)) rfl (j := 1) rfl ?_
          refine zp_load (pc := 85) hx hb (zd_X11_orders (85, .aload_n 0, 1, 0, []) (List.mem_of_getElem? (i := 44) rfl)) rfl (j := 1) rfl ?_
          refine zp_getf (n := (A 12 : Int)) (pc := 86) hx hb hEξ hwξ (zd_X11_orders (86, .getfield 76, 3, 0, []) (List.mem_of_getElem? (i := 45) rfl)) (j := 59) rfl rfl rfl (zM_P hMaξ (hYbξ _ (List.mem_of_getElem? (i := 0) rfl))) ((zM_G hMaξ (hYbξ _ (List.mem_of_getElem? (i := 0) rfl)) 9).trans (zM_F hMaξ (hFbξ _ (List.mem_of_getElem? (i := 7) rfl)))) ?_
          refine zp_getf (n := (A 13 : Int)) (pc := 89) hx hb hEξ hwξ (zd_X11_orders (89, .getfield 216, 3, 0, []) (List.mem_of_getElem? (i := 46) rfl)) (j := 47) rfl rfl rfl (zM_P hMaξ (hYbξ _ (List.mem_of_getElem? (i := 12) rfl))) ((zM_G hMaξ (hYbξ _ (List.mem_of_getElem? (i := 12) rfl)) 1).trans (zM_F hMaξ (hFbξ _ (List.mem_of_getElem? (i := 50) rfl)))) ?_
          refine zp_load (pc := 92) hx hb (zd_X11_orders (92, .iload_n 2, 1, 0, []) (List.mem_of_getElem? (i := 47) rfl)) rfl (j := 0) rfl ?_
          refine zp_call (pc := 93) (how := 0) (idx := 239) (mi := 82) (S := []) hx hb hEξ hwξ heffξ hrmξ (zX_icrc hWξ A Y F X b0 b1 b2 b3 b4 cd sz9 i n1ξ npξ (20 * i) K9 Lwξ) rfl (j := 27) rfl rfl (by decide +kernel) (zd_X11_orders (93, .invokevirtual 239, 3, 0, []) (List.mem_of_getElem? (i := 48) rfl)) [(A 0 : Int), (A 13 : Int), (i : Int)] rfl ⟨zp_o2 (zM_P hMaξ (hYbξ _ (List.mem_of_getElem? (i := 0) rfl))), zp_o2 (zM_P hMaξ (hYbξ _ (List.mem_of_getElem? (i := 13) rfl))), zp_o0 (by omega) (by omega) (by omega) (by omega), trivial⟩ (Nat.le_of_ble_eq_true rfl) ⟨⟨Ma, hMaξ, hVMaξ, trivial⟩, rfl, hYF0ξ, rfl, rfl, by omega, hXLξ.1, hXc9ξ, hwKξ, hCIξ, ⟨h13ξ.1, by omega⟩, by omega⟩ (fun al halξ rnc Pc Gc hextcξ hfrcξ hokcξ hcscξ hpsicξ => ?_)
          obtain rfl := List.mem_singleton.mp halξ
          have hrcξ := zp_int (hokcξ _ rfl).1
          obtain ⟨hPecξ, ⟨Mc, hMcξ, hVMcξ, -⟩, htcξ⟩ := hpsicξ
          subst hPecξ
          have hXLcξ := zo_XL_f hXLξ hfrcξ (by decide)
          clear hextcξ hfrcξ hcscξ hokcξ
          have hVMcξ : ∀ o k, zNc o → Mc o k = (zo_tmC n1ξ npξ Lwξ K9 K9.2.2.2.1.toNat X).2 o k := hVMcξ
          have htcξ : rnc = 1 ↔ (zo_tmC n1ξ npξ Lwξ K9 K9.2.2.2.1.toNat X).1 = true := htcξ
          refine zp_if (pc := 96) (tgt := 136) hx hb (zd_X11_orders (96, .ifCond .ne 40, 3, 0, []) (List.mem_of_getElem? (i := 49) rfl)) rfl (fun (hc703ξ : ¬ rnc = 0) => ?_) (fun (hc703ξ : ¬ (¬ rnc = 0)) => ?_)
          · refine zp_iinc (L' := [(2, 0, ((i : Int) + 1)), (0, 2, (A 0 : Int))]) (n := ((i : Int) + 1)) (pc := 136) hx hb hnLξ (zd_X11_orders (136, .iinc 2 1, 3, 0, []) (List.mem_of_getElem? (i := 68) rfl)) (j := 0) rfl (by omega) (zp_r0 (by omega) (by omega)) rfl rfl ?_
            refine zp_goto (tgt := 70) (pc := 139) hx hb (zd_X11_orders (139, .goto (-69), 3, 0, []) (List.mem_of_getElem? (i := 69) rfl)) rfl ?_
            rw [if_pos ((Iff.mp htcξ) (by omega))] at hfinξ
            refine zp_drop (L' := [(2, 0, ((i : Int) + 1)), (0, 2, (A 0 : Int))]) (by simp) ?_
            exact ih (i + 1) (zo_tmC n1ξ npξ Lwξ K9 K9.2.2.2.1.toNat X).2 _ (by omega) (fun j => by rw [show i + 1 + j = i + (j + 1) by omega, ← hrξ (j + 1)]; rfl) hCItξ (by omega) ⟨Mc, hMcξ, hVMcξ, trivial⟩ hXLcξ hfinξ
          · refine zp_load (pc := 99) hx hb (zd_X11_orders (99, .aload_n 0, 1, 0, []) (List.mem_of_getElem? (i := 50) rfl)) rfl (j := 1) rfl ?_
            refine zp_getf (n := (A 1 : Int)) (pc := 100) hx hb hEξ hwξ (zd_X11_orders (100, .getfield 10, 3, 0, []) (List.mem_of_getElem? (i := 51) rfl)) (j := 50) rfl rfl rfl (zM_P hMcξ (hYbξ _ (List.mem_of_getElem? (i := 0) rfl))) ((zM_G hMcξ (hYbξ _ (List.mem_of_getElem? (i := 0) rfl)) 0).trans (zM_F hMcξ (hFbξ _ (List.mem_of_getElem? (i := 0) rfl)))) ?_
            refine zp_getf (n := (A 2 : Int)) (pc := 103) hx hb hEξ hwξ (zd_X11_orders (103, .getfield 135, 3, 0, []) (List.mem_of_getElem? (i := 52) rfl)) (j := 24) rfl rfl rfl (zM_P hMcξ (hYbξ _ (List.mem_of_getElem? (i := 1) rfl))) ((zM_G hMcξ (hYbξ _ (List.mem_of_getElem? (i := 1) rfl)) 18).trans (zM_F hMcξ (hFbξ _ (List.mem_of_getElem? (i := 24) rfl)))) ?_
            refine zp_load (pc := 106) hx hb (zd_X11_orders (106, .aload_n 0, 1, 0, []) (List.mem_of_getElem? (i := 53) rfl)) rfl (j := 1) rfl ?_
            refine zp_getf (n := (A 9 : Int)) (pc := 107) hx hb hEξ hwξ (zd_X11_orders (107, .getfield 83, 3, 0, []) (List.mem_of_getElem? (i := 54) rfl)) (j := 60) rfl rfl rfl (zM_P hMcξ (hYbξ _ (List.mem_of_getElem? (i := 0) rfl))) ((zM_G hMcξ (hYbξ _ (List.mem_of_getElem? (i := 0) rfl)) 10).trans (zM_F hMcξ (hFbξ _ (List.mem_of_getElem? (i := 8) rfl)))) ?_
            refine zp_call (pc := 110) (how := 0) (idx := 226) (mi := 80) (S := []) hx hb hEξ hwξ heffξ hrmξ (zX_kf2_9 hWξ A Y F (zo_tmC n1ξ npξ Lwξ K9 K9.2.2.2.1.toNat X).2) rfl (j := 25) rfl rfl (by decide +kernel) (zd_X11_orders (110, .invokevirtual 226, 3, 0, []) (List.mem_of_getElem? (i := 55) rfl)) [(A 2 : Int), (A 9 : Int)] rfl ⟨zp_o2 (zM_P hMcξ (hYbξ _ (List.mem_of_getElem? (i := 2) rfl))), zp_o2 (zM_P hMcξ (hYbξ _ (List.mem_of_getElem? (i := 9) rfl))), trivial⟩ (Nat.le_of_ble_eq_true rfl) ⟨⟨Mc, hMcξ, hVMcξ, trivial⟩, rfl, hYF0ξ, rfl⟩ (fun al halξ rng Pg Gg hextgξ hfrgξ hokgξ hcsgξ hpsigξ => ?_)
            obtain rfl := List.mem_singleton.mp halξ
            obtain ⟨hPegξ, Mg, hMgξ, hVMgξ, -⟩ := hpsigξ
            subst hPegξ
            have hXLgξ := zo_XL_f hXLcξ hfrgξ (by decide)
            clear hextgξ hfrgξ hcsgξ hokgξ
            have hVMgξ : ∀ o k, zNc o → Mg o k = (zf_kf2_9 (zo_tmC n1ξ npξ Lwξ K9 K9.2.2.2.1.toNat X).2).2 o k := hVMgξ
            refine zp_load (pc := 113) hx hb (zd_X11_orders (113, .aload_n 0, 1, 0, []) (List.mem_of_getElem? (i := 56) rfl)) rfl (j := 1) rfl ?_
            refine zp_getf (n := (A 3 : Int)) (pc := 114) hx hb hEξ hwξ (zd_X11_orders (114, .getfield 23, 3, 0, []) (List.mem_of_getElem? (i := 57) rfl)) (j := 52) rfl rfl rfl (zM_P hMgξ (hYbξ _ (List.mem_of_getElem? (i := 0) rfl))) ((zM_G hMgξ (hYbξ _ (List.mem_of_getElem? (i := 0) rfl)) 2).trans (zM_F hMgξ (hFbξ _ (List.mem_of_getElem? (i := 2) rfl)))) ?_
            refine zp_load (pc := 117) hx hb (zd_X11_orders (117, .aload_n 0, 1, 0, []) (List.mem_of_getElem? (i := 58) rfl)) rfl (j := 1) rfl ?_
            refine zp_getf (n := (A 10 : Int)) (pc := 118) hx hb hEξ hwξ (zd_X11_orders (118, .getfield 87, 3, 0, []) (List.mem_of_getElem? (i := 59) rfl)) (j := 61) rfl rfl rfl (zM_P hMgξ (hYbξ _ (List.mem_of_getElem? (i := 0) rfl))) ((zM_G hMgξ (hYbξ _ (List.mem_of_getElem? (i := 0) rfl)) 11).trans (zM_F hMgξ (hFbξ _ (List.mem_of_getElem? (i := 9) rfl)))) ?_
            refine zp_call (pc := 121) (how := 0) (idx := 230) (mi := 81) (S := []) hx hb hEξ hwξ heffξ hrmξ (zX_uf3_10 hWξ A Y F (zf_kf2_9 (zo_tmC n1ξ npξ Lwξ K9 K9.2.2.2.1.toNat X).2).2) rfl (j := 26) rfl rfl (by decide +kernel) (zd_X11_orders (121, .invokevirtual 230, 3, 0, []) (List.mem_of_getElem? (i := 60) rfl)) [(A 3 : Int), (A 10 : Int)] rfl ⟨zp_o2 (zM_P hMgξ (hYbξ _ (List.mem_of_getElem? (i := 3) rfl))), zp_o2 (zM_P hMgξ (hYbξ _ (List.mem_of_getElem? (i := 10) rfl))), trivial⟩ (Nat.le_of_ble_eq_true rfl) ⟨⟨Mg, hMgξ, hVMgξ, trivial⟩, rfl, hYF0ξ, rfl⟩ (fun al halξ rnh Ph Gh hexthξ hfrhξ hokhξ hcshξ hpsihξ => ?_)
            obtain rfl := List.mem_singleton.mp halξ
            obtain ⟨hPehξ, Mh, hMhξ, hVMhξ, -⟩ := hpsihξ
            subst hPehξ
            have hXLhξ := zo_XL_f hXLgξ hfrhξ (by decide)
            clear hexthξ hfrhξ hcshξ hokhξ
            have hVMhξ : ∀ o k, zNc o → Mh o k = (zf_uf3_10 (zf_kf2_9 (zo_tmC n1ξ npξ Lwξ K9 K9.2.2.2.1.toNat X).2).2).2 o k := hVMhξ
            refine zp_load (pc := 124) hx hb (zd_X11_orders (124, .aload_n 0, 1, 0, []) (List.mem_of_getElem? (i := 61) rfl)) rfl (j := 1) rfl ?_
            refine zp_load (pc := 125) hx hb (zd_X11_orders (125, .iload_n 2, 1, 0, []) (List.mem_of_getElem? (i := 62) rfl)) rfl (j := 0) rfl ?_
            refine zp_putf (pc := 126) hx hb hEξ hwξ heffξ (zd_X11_orders (126, .putfield 98, 3, 0, []) (List.mem_of_getElem? (i := 63) rfl)) (j := 65) rfl rfl rfl (zM_P hMhξ (hYbξ _ (List.mem_of_getElem? (i := 0) rfl))) (zp_o0 (by omega) (by omega) (by omega) (by omega)) ?_
            refine zp_load (pc := 129) hx hb (zd_X11_orders (129, .aload_n 0, 1, 0, []) (List.mem_of_getElem? (i := 64) rfl)) rfl (j := 1) rfl ?_
            refine zp_const (pc := 130) hx hb (zd_X11_orders (130, .bipush (-3), 2, 0, []) (List.mem_of_getElem? (i := 65) rfl)) rfl rfl ?_
            refine zp_call (pc := 132) (how := 0) (idx := 111) (mi := 16) (S := []) hx hb hEξ hwξ heffξ hrmξ (zX_rfs hWξ A Y F (zp_set (zf_uf3_10 (zf_kf2_9 (zo_tmC n1ξ npξ Lwξ K9 K9.2.2.2.1.toNat X).2).2).2 0 15 (i : Int))) rfl (j := 11) rfl rfl (by decide +kernel) (zd_X11_orders (132, .invokevirtual 111, 3, 0, []) (List.mem_of_getElem? (i := 66) rfl)) [(A 0 : Int), (-3)] rfl ⟨zp_o2 (zM_P hMhξ (hYbξ _ (List.mem_of_getElem? (i := 0) rfl))), zp_o0 (by omega) (by omega) (by omega) (by omega), trivial⟩ (Nat.le_of_ble_eq_true rfl) ⟨⟨(zp_set Mh 0 15 (i : Int)), (zM_set hMhξ (hYbξ _ (List.mem_of_getElem? (i := 0) rfl)) (zFx hFxξ (o := 0) (k := 15) (by decide) (by decide))), (zV_set hVMhξ), trivial⟩, rfl, hYF0ξ⟩ (fun al halξ rnz Pz Gz hextzξ hfrzξ hokzξ hcszξ hpsizξ => ?_)
            obtain rfl := List.mem_singleton.mp halξ
            have hrzξ := zp_int (hokzξ _ rfl).1
            obtain ⟨hPezξ, ⟨Mz, hMzξ, hVMzξ, -⟩, htzξ⟩ := hpsizξ
            subst hPezξ
            clear hextzξ hfrzξ hcszξ hokzξ
            have hVMzξ : ∀ o k, zNc o → Mz o k = (zf_rfs (zp_set (zf_uf3_10 (zf_kf2_9 (zo_tmC n1ξ npξ Lwξ K9 K9.2.2.2.1.toNat X).2).2).2 0 15 (i : Int)) (-3)).2 o k := hVMzξ
            have htzξ : rnz = (zf_rfs (zp_set (zf_uf3_10 (zf_kf2_9 (zo_tmC n1ξ npξ Lwξ K9 K9.2.2.2.1.toNat X).2).2).2 0 15 (i : Int)) (-3)).1 := htzξ
            refine zp_iret (pc := 135) (n := rnz) hx hb hEξ hQξ hU5ξ rfl (by decide) (zd_X11_orders (135, .ireturn, 1, 0, []) (List.mem_of_getElem? (i := 67) rfl)) (j := 0) rfl (zp_o0 (by omega) (by omega) (by omega) (by omega)) ?_
            rw [hpsξ]
            refine ⟨rfl, ?_⟩
            rw [if_neg (fun z9ξ => absurd ((Iff.mpr htcξ) z9ξ) (by omega))] at hfinξ
            have hallξ : zo_allC Mr n1ξ npξ Lwξ Lr = zf_rfs (zo_gbC (zo_tmC n1ξ npξ Lwξ K9 K9.2.2.2.1.toNat X).2 (i : Int)) (-3) := by
              unfold zo_allC
              rw [hfinξ]
              rw [if_neg (show ¬ ((i : Int) < 0) by omega)]
            refine ⟨_, Mr, hVkξ, hsrξ, Or.inr ⟨Lr, rfl, hfr8ξ, ?_, ?_⟩⟩
            · rw [hallξ]
              exact htzξ
            · rw [hallξ]
              exact ⟨Mz, hMzξ, hVMzξ, trivial⟩
    refine zp_store (L' := [(1, 0, 1), (0, 2, (A 0 : Int))]) (pc := 8) hx hb hnLξ (zd_X11_orders (8, .istore_n 1, 1, 0, []) (List.mem_of_getElem? (i := 4) rfl)) rfl rfl rfl ?_
    refine zp_load (pc := 9) hx hb (zd_X11_orders (9, .aload_n 0, 1, 0, []) (List.mem_of_getElem? (i := 5) rfl)) rfl (j := 1) rfl ?_
    refine zp_getf (n := (A 11 : Int)) (pc := 10) hx hb hEξ hwξ (zd_X11_orders (10, .getfield 67, 3, 0, []) (List.mem_of_getElem? (i := 6) rfl)) (j := 58) rfl rfl rfl (zM_P hMrξ (hYbξ _ (List.mem_of_getElem? (i := 0) rfl))) ((zM_G hMrξ (hYbξ _ (List.mem_of_getElem? (i := 0) rfl)) 8).trans (zM_F hMrξ (hFbξ _ (List.mem_of_getElem? (i := 6) rfl)))) ?_
    refine zp_const (pc := 13) hx hb (zd_X11_orders (13, .iconst 0, 1, 0, []) (List.mem_of_getElem? (i := 7) rfl)) rfl rfl ?_
    refine zp_putf (pc := 14) hx hb hEξ hwξ heffξ (zd_X11_orders (14, .putfield 193, 3, 0, []) (List.mem_of_getElem? (i := 8) rfl)) (j := 39) rfl rfl rfl (zM_P hMrξ (hYbξ _ (List.mem_of_getElem? (i := 11) rfl))) (zp_o0 (by decide) (by decide) (by decide) (by decide)) ?_
    refine zp_load (pc := 17) hx hb (zd_X11_orders (17, .aload_n 0, 1, 0, []) (List.mem_of_getElem? (i := 9) rfl)) rfl (j := 1) rfl ?_
    refine zp_const (pc := 18) hx hb (zd_X11_orders (18, .iconst (-1), 1, 0, []) (List.mem_of_getElem? (i := 10) rfl)) rfl rfl ?_
    refine zp_putf (pc := 19) hx hb hEξ hwξ heffξ (zd_X11_orders (19, .putfield 98, 3, 0, []) (List.mem_of_getElem? (i := 11) rfl)) (j := 65) rfl rfl rfl (zM_P hMrξ (hYbξ _ (List.mem_of_getElem? (i := 0) rfl))) (zp_o0 (by decide) (by decide) (by decide) (by decide)) ?_
    refine zp_load (pc := 22) hx hb (zd_X11_orders (22, .iload_n 1, 1, 0, []) (List.mem_of_getElem? (i := 12) rfl)) rfl (j := 0) rfl ?_
    refine zp_if (pc := 23) (tgt := 33) hx hb (zd_X11_orders (23, .ifCond .ne 10, 3, 0, []) (List.mem_of_getElem? (i := 13) rfl)) rfl (fun (hc704ξ : ¬ (1 : Int) = 0) => ?_) (fun (hc704ξ : ¬ (¬ (1 : Int) = 0)) => ?_)
    · refine zp_load (pc := 33) hx hb (zd_X11_orders (33, .aload_n 0, 1, 0, []) (List.mem_of_getElem? (i := 18) rfl)) rfl (j := 1) rfl ?_
      refine zp_getf (n := (A 9 : Int)) (pc := 34) hx hb hEξ hwξ (zd_X11_orders (34, .getfield 83, 3, 0, []) (List.mem_of_getElem? (i := 19) rfl)) (j := 60) rfl rfl rfl (zM_P hMrξ (hYbξ _ (List.mem_of_getElem? (i := 0) rfl))) ((zp_set_ne (Or.inr (by decide))).trans ((zp_set_ne (Or.inl (zM_ne hMrξ (hYbξ _ (List.mem_of_getElem? (i := 0) rfl)) (hYbξ _ (List.mem_of_getElem? (i := 11) rfl)) (by decide)))).trans (((zM_G hMrξ (hYbξ _ (List.mem_of_getElem? (i := 0) rfl)) 10).trans (zM_F hMrξ (hFbξ _ (List.mem_of_getElem? (i := 8) rfl))))))) ?_
      refine zp_load (pc := 37) hx hb (zd_X11_orders (37, .aload_n 0, 1, 0, []) (List.mem_of_getElem? (i := 20) rfl)) rfl (j := 1) rfl ?_
      refine zp_getf (n := (A 1 : Int)) (pc := 38) hx hb hEξ hwξ (zd_X11_orders (38, .getfield 10, 3, 0, []) (List.mem_of_getElem? (i := 21) rfl)) (j := 50) rfl rfl rfl (zM_P hMrξ (hYbξ _ (List.mem_of_getElem? (i := 0) rfl))) ((zp_set_ne (Or.inr (by decide))).trans ((zp_set_ne (Or.inl (zM_ne hMrξ (hYbξ _ (List.mem_of_getElem? (i := 0) rfl)) (hYbξ _ (List.mem_of_getElem? (i := 11) rfl)) (by decide)))).trans (((zM_G hMrξ (hYbξ _ (List.mem_of_getElem? (i := 0) rfl)) 0).trans (zM_F hMrξ (hFbξ _ (List.mem_of_getElem? (i := 0) rfl))))))) ?_
      refine zp_getf (n := (A 2 : Int)) (pc := 41) hx hb hEξ hwξ (zd_X11_orders (41, .getfield 135, 3, 0, []) (List.mem_of_getElem? (i := 22) rfl)) (j := 24) rfl rfl rfl (zM_P hMrξ (hYbξ _ (List.mem_of_getElem? (i := 1) rfl))) ((zp_set_ne (Or.inl (zM_ne hMrξ (hYbξ _ (List.mem_of_getElem? (i := 1) rfl)) (hYbξ _ (List.mem_of_getElem? (i := 0) rfl)) (by decide)))).trans ((zp_set_ne (Or.inl (zM_ne hMrξ (hYbξ _ (List.mem_of_getElem? (i := 1) rfl)) (hYbξ _ (List.mem_of_getElem? (i := 11) rfl)) (by decide)))).trans (((zM_G hMrξ (hYbξ _ (List.mem_of_getElem? (i := 1) rfl)) 18).trans (zM_F hMrξ (hFbξ _ (List.mem_of_getElem? (i := 24) rfl))))))) ?_
      refine zp_call (pc := 44) (how := 0) (idx := 226) (mi := 80) (S := []) hx hb hEξ hwξ heffξ hrmξ (zX_kf9_2 hWξ A Y F (zp_set (zp_set Mr 11 1 0) 0 15 (-1))) rfl (j := 25) rfl rfl (by decide +kernel) (zd_X11_orders (44, .invokevirtual 226, 3, 0, []) (List.mem_of_getElem? (i := 23) rfl)) [(A 9 : Int), (A 2 : Int)] rfl ⟨zp_o2 (zM_P hMrξ (hYbξ _ (List.mem_of_getElem? (i := 9) rfl))), zp_o2 (zM_P hMrξ (hYbξ _ (List.mem_of_getElem? (i := 2) rfl))), trivial⟩ (Nat.le_of_ble_eq_true rfl) ⟨⟨(zp_set (zp_set Mr 11 1 0) 0 15 (-1)), (zM_set (zM_set hMrξ (hYbξ _ (List.mem_of_getElem? (i := 11) rfl)) (zFx hFxξ (o := 11) (k := 1) (by decide) (by decide))) (hYbξ _ (List.mem_of_getElem? (i := 0) rfl)) (zFx hFxξ (o := 0) (k := 15) (by decide) (by decide))), (zV_set (zV_set hVMrξ)), trivial⟩, rfl, hYF0ξ, rfl⟩ (fun al halξ rng Pg Gg hextgξ hfrgξ hokgξ hcsgξ hpsigξ => ?_)
      obtain rfl := List.mem_singleton.mp halξ
      obtain ⟨hPegξ, Mg, hMgξ, hVMgξ, -⟩ := hpsigξ
      subst hPegξ
      have hXLgξ := zo_XL_f (zo_XL_s (zo_XL_s hXLrξ (zM_P hMrξ (hYbξ _ (List.mem_of_getElem? (i := 11) rfl))) (by decide) (by decide)) (zM_P hMrξ (hYbξ _ (List.mem_of_getElem? (i := 0) rfl))) (by decide) (by decide)) hfrgξ (by decide)
      clear hextgξ hfrgξ hcsgξ hokgξ
      have hVMgξ : ∀ o k, zNc o → Mg o k = (zf_kf9_2 (zp_set (zp_set Mr 11 1 0) 0 15 (-1))).2 o k := hVMgξ
      refine zp_load (pc := 47) hx hb (zd_X11_orders (47, .aload_n 0, 1, 0, []) (List.mem_of_getElem? (i := 24) rfl)) rfl (j := 1) rfl ?_
      refine zp_getf (n := (A 10 : Int)) (pc := 48) hx hb hEξ hwξ (zd_X11_orders (48, .getfield 87, 3, 0, []) (List.mem_of_getElem? (i := 25) rfl)) (j := 61) rfl rfl rfl (zM_P hMgξ (hYbξ _ (List.mem_of_getElem? (i := 0) rfl))) ((zM_G hMgξ (hYbξ _ (List.mem_of_getElem? (i := 0) rfl)) 11).trans (zM_F hMgξ (hFbξ _ (List.mem_of_getElem? (i := 9) rfl)))) ?_
      refine zp_load (pc := 51) hx hb (zd_X11_orders (51, .aload_n 0, 1, 0, []) (List.mem_of_getElem? (i := 26) rfl)) rfl (j := 1) rfl ?_
      refine zp_getf (n := (A 3 : Int)) (pc := 52) hx hb hEξ hwξ (zd_X11_orders (52, .getfield 23, 3, 0, []) (List.mem_of_getElem? (i := 27) rfl)) (j := 52) rfl rfl rfl (zM_P hMgξ (hYbξ _ (List.mem_of_getElem? (i := 0) rfl))) ((zM_G hMgξ (hYbξ _ (List.mem_of_getElem? (i := 0) rfl)) 2).trans (zM_F hMgξ (hFbξ _ (List.mem_of_getElem? (i := 2) rfl)))) ?_
      refine zp_call (pc := 55) (how := 0) (idx := 230) (mi := 81) (S := []) hx hb hEξ hwξ heffξ hrmξ (zX_uf10_3 hWξ A Y F (zf_kf9_2 (zp_set (zp_set Mr 11 1 0) 0 15 (-1))).2) rfl (j := 26) rfl rfl (by decide +kernel) (zd_X11_orders (55, .invokevirtual 230, 3, 0, []) (List.mem_of_getElem? (i := 28) rfl)) [(A 10 : Int), (A 3 : Int)] rfl ⟨zp_o2 (zM_P hMgξ (hYbξ _ (List.mem_of_getElem? (i := 10) rfl))), zp_o2 (zM_P hMgξ (hYbξ _ (List.mem_of_getElem? (i := 3) rfl))), trivial⟩ (Nat.le_of_ble_eq_true rfl) ⟨⟨Mg, hMgξ, hVMgξ, trivial⟩, rfl, hYF0ξ, rfl⟩ (fun al halξ rnh Ph Gh hexthξ hfrhξ hokhξ hcshξ hpsihξ => ?_)
      obtain rfl := List.mem_singleton.mp halξ
      obtain ⟨hPehξ, Mh, hMhξ, hVMhξ, -⟩ := hpsihξ
      subst hPehξ
      have hXLhξ := zo_XL_f hXLgξ hfrhξ (by decide)
      clear hexthξ hfrhξ hcshξ hokhξ
      have hVMhξ : ∀ o k, zNc o → Mh o k = (zf_uf10_3 (zf_kf9_2 (zp_set (zp_set Mr 11 1 0) 0 15 (-1))).2).2 o k := hVMhξ
      refine zp_load (pc := 58) hx hb (zd_X11_orders (58, .aload_n 0, 1, 0, []) (List.mem_of_getElem? (i := 29) rfl)) rfl (j := 1) rfl ?_
      refine zp_const (pc := 59) hx hb (zd_X11_orders (59, .iconst 0, 1, 0, []) (List.mem_of_getElem? (i := 30) rfl)) rfl rfl ?_
      refine zp_putf (pc := 60) hx hb hEξ hwξ heffξ (zd_X11_orders (60, .putfield 233, 3, 0, []) (List.mem_of_getElem? (i := 31) rfl)) (j := 63) rfl rfl rfl (zM_P hMhξ (hYbξ _ (List.mem_of_getElem? (i := 0) rfl))) (zp_o0 (by decide) (by decide) (by decide) (by decide)) ?_
      refine zp_load (pc := 63) hx hb (zd_X11_orders (63, .aload_n 0, 1, 0, []) (List.mem_of_getElem? (i := 32) rfl)) rfl (j := 1) rfl ?_
      refine zp_const (pc := 64) hx hb (zd_X11_orders (64, .iconst (-1), 1, 0, []) (List.mem_of_getElem? (i := 33) rfl)) rfl rfl ?_
      refine zp_putf (pc := 65) hx hb hEξ hwξ heffξ (zd_X11_orders (65, .putfield 94, 3, 0, []) (List.mem_of_getElem? (i := 34) rfl)) (j := 64) rfl rfl rfl (zM_P hMhξ (hYbξ _ (List.mem_of_getElem? (i := 0) rfl))) (zp_o0 (by decide) (by decide) (by decide) (by decide)) ?_
      refine zp_const (pc := 68) hx hb (zd_X11_orders (68, .iconst 0, 1, 0, []) (List.mem_of_getElem? (i := 35) rfl)) rfl rfl ?_
      refine zp_store (L' := [(2, 0, 0), (1, 0, 1), (0, 2, (A 0 : Int))]) (pc := 69) hx hb hnLξ (zd_X11_orders (69, .istore_n 2, 1, 0, []) (List.mem_of_getElem? (i := 36) rfl)) rfl rfl rfl ?_
      refine zp_drop (L' := [(2, 0, 0), (0, 2, (A 0 : Int))]) (by simp) ?_
      exact h70ξ Lr 0 (zo_beC Mr) _ (Nat.zero_add _) (fun j => by rw [Nat.zero_add]) (zCI_be hCIrξ) (by rw [show zo_beC Mr 0 13 = 0 from rfl]; decide) ⟨(zp_set (zp_set Mh 0 13 0) 0 14 (-1)), (zM_set (zM_set hMhξ (hYbξ _ (List.mem_of_getElem? (i := 0) rfl)) (zFx hFxξ (o := 0) (k := 13) (by decide) (by decide))) (hYbξ _ (List.mem_of_getElem? (i := 0) rfl)) (zFx hFxξ (o := 0) (k := 14) (by decide) (by decide))), (zV_set (zV_set hVMhξ)), trivial⟩ (zo_XL_s (zo_XL_s hXLhξ (zM_P hMhξ (hYbξ _ (List.mem_of_getElem? (i := 0) rfl))) (by decide) (by decide)) (zM_P hMhξ (hYbξ _ (List.mem_of_getElem? (i := 0) rfl))) (by decide) (by decide)) rfl
    · exfalso
      omega
