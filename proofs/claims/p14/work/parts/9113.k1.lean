/-! part k1ξ: the class over logical cells: what is known behind effects; law -/
/-- behind a call that is known by its effects: what they don't name is as it was -/
theorem zM_ef2 {A : Nat → Nat} {Y : List (Nat × Nat)} {F : List (Nat × Nat × Nat)} {M : Nat → Nat → Int} {P P' : Nat → Option Nat} {G G' : Nat → Nat → Int} {eff : List (Nat × Nat × Nat)} {ps : List Int} (h : zM A Y F M P G) (hYFξ : zMc Y F) (hfrξ : zp_fr eff ps P G G') (hextξ : ∀ a t, P a = some t → P' a = some t) (h1ξ : zFc.all (fun r => zYc.any (fun q => q.1 == r.1 && zp_nfb eff q.2 r.2.1)) = true) (h2ξ : zTF.all (fun q => zp_nfb eff q.1 q.2) = true) (h3ξ : zTY.all (fun t => zp_ncb eff t) = true) : ∃ M' : Nat → Nat → Int, zM A Y F M' P' G' ∧ ∀ o k, (∀ q ∈ zYc, q.1 = o → zp_nfb eff q.2 k = true ∨ zp_ncb eff q.2 = true) → M' o k = M o k := by
  have hanyξ : ∀ o t, (o, t) ∈ Y → Y.any (fun q => q.1 == o) = true := fun o t h => List.any_eq_true.mpr ⟨(o, t), h, by simp⟩
  refine ⟨fun o k => if Y.any (fun q => q.1 == o) = true then G' (A o) k else M o k, ⟨fun q hqξ => ⟨hextξ _ _ (h.1 q hqξ).1, fun k => by
    show G' (A q.1) k = if Y.any (fun r => r.1 == q.1) = true then G' (A q.1) k else M q.1 k
    rw [if_pos (hanyξ q.1 q.2 hqξ)]⟩, fun r hrξ => ?_, h.2.2.1, h.2.2.2⟩, fun o k heξ => ?_⟩
  · obtain ⟨t, t1, t2⟩ := zMc_fx hYFξ h1ξ h2ξ r hrξ
    show (if Y.any (fun q => q.1 == r.1) = true then G' (A r.1) r.2.1 else M r.1 r.2.1) = _
    rw [if_pos (hanyξ _ _ t1), zp_nf hfrξ (h.1 _ t1).1 t2]
    exact ((h.1 _ t1).2 _).trans (h.2.1 r hrξ)
  · show (if Y.any (fun q => q.1 == o) = true then G' (A o) k else M o k) = _
    by_cases hyξ : Y.any (fun q => q.1 == o) = true
    · rw [if_pos hyξ]
      obtain ⟨q, hqξ, e⟩ := List.any_eq_true.mp hyξ
      rw [beq_iff_eq] at e
      subst e
      have h4ξ : zp_nfb eff q.2 k = true ∨ zp_ncb eff q.2 = true := by
        rcases hYFξ.2.2.2 q hqξ with hcξ | ⟨-, hcξ⟩
        · exact heξ q hcξ rfl
        · exact Or.inr (List.all_eq_true.mp h3ξ _ hcξ)
      rcases h4ξ with h4ξ | h4ξ
      · rw [zp_nf hfrξ (h.1 q hqξ).1 h4ξ]
        exact (h.1 q hqξ).2 k
      · rw [zp_nc hfrξ (h.1 q hqξ).1 h4ξ]
        exact (h.1 q hqξ).2 k
    · rw [if_neg hyξ]
/-- what the texts' reading leaves alone -/
noncomputable def zVk (V V1 : Nat → Nat → Int) : Prop := ∀ o k, zNc o → o ≠ 12 → (o ≠ 11 ∨ k = 0 ∨ k = 1) → V1 o k = V o k
/-- a new text that is the law L -/
noncomputable def zNT (P P' : Nat → Option Nat) (G' : Nat → Nat → Int) (cp : Nat) (b : Nat → Nat) (L : List yK) : Prop := (P cp = none ∧ P' cp = some 9) ∧ (∀ i : Nat, i < 6 → G' cp i = (b i : Int) ∧ P' (b i) = some (36 + i) ∧ P (b i) = none) ∧ ∃ sz : Nat, sz ≤ 872 ∧ L.length ≤ 12 ∧ G' cp 6 = (L.length : Int) ∧ (∀ i : Nat, i < 6 → G' (b i) 1000 = if i = 5 then (sz : Int) else (L.length : Int)) ∧ zXs (fun i j => G' (b i) (2000 + j)) (fun j => G' (b 5) (2000 + j)) sz false 0 L
theorem zNT_c {P P' : Nat → Option Nat} {G G' : Nat → Nat → Int} {cp : Nat} {b : Nat → Nat} {L : List yK} (h : zNT P P' G cp b L) (h1ξ : ∀ k, G' cp k = G cp k) (h2ξ : ∀ i k, i < 6 → G' (b i) k = G (b i) k) : zNT P P' G' cp b L := by
  obtain ⟨q1, q2, sz, q3, q4, q5, q6, q7⟩ := h
  refine ⟨q1, fun i hi => ⟨(h1ξ i).trans (q2 i hi).1, (q2 i hi).2⟩, sz, q3, q4, (h1ξ 6).trans q5, fun i hi => (h2ξ i 1000 hi).trans (q6 i hi), zXs_c (Nat.le_refl _) (fun j hjξ => h2ξ 5 _ (by decide)) q7 (fun i j hi _ _ => h2ξ i _ (by omega))⟩
/-- a copied text is the law that the text was -/
theorem zNT_of {P P' : Nat → Option Nat} {G G' : Nat → Nat → Int} {a n sz : Nat} {b bb : Nat → Nat} {cd : Nat} {C : Nat → Int} {L : List yK} (h : zCp P P' G G' a n b) (h6ξ : G a 6 = (L.length : Int)) (h7ξ : G a 7 = (sz : Int)) (hsξ : sz ≤ 872) (hlξ : L.length ≤ 12) (hbbξ : ∀ i : Nat, i < 5 → G a i = (bb i : Int)) (hcdξ : G a 5 = (cd : Int)) (hCξ : ∀ j, G cd (2000 + j) = C j) (hXξ : zXs (fun i j => G (bb i) (2000 + j)) C sz false 0 L) : zNT P P' G' n b L := by
  obtain ⟨q1, q2, q3, ⟨q4, q5⟩, q6, q7, q8⟩ := h
  rw [h6ξ] at q4 q6 q7
  rw [h7ξ] at q6 q8
  refine ⟨⟨q1, q2⟩, q3, sz, hsξ, hlξ, q4, q6, zXs_c (Nat.le_refl _) (fun j hjξ => ?_) hXξ (fun i j hi hjξ hj2ξ => ?_)⟩
  · rw [q8 j (by omega), hcdξ, Int.toNat_natCast, hCξ]
  · rw [q7 i j hi (by omega), hbbξ i hi, Int.toNat_natCast]
noncomputable def zERd : List (Nat × Nat × Nat) := [(5, 4, 0), (7, 3, 0), (7, 5, 0), (7, 2, 0), (7, 4, 0), (35, 1001, 0), (8, 7, 0), (30, 1001, 0), (31, 1001, 0), (32, 1001, 0), (33, 1001, 0), (34, 1001, 0), (8, 6, 0), (5, 2, 0), (5, 3, 0)]
noncomputable def zELw : List (Nat × Nat × Nat) := [(12, 13, 0), (12, 14, 0), (12, 15, 0), (12, 17, 0), (12, 18, 0), (10, 1, 0), (10, 3, 0), (10, 9, 0), (10, 14, 0), (10, 15, 0), (10, 16, 0), (10, 17, 0), (2, 3, 0), (2, 4, 0), (2, 5, 0), (2, 6, 0), (11, 2, 0), (11, 3, 0), (0, 1, 0), (0, 2, 0), (6, 2, 0), (1, 1, 0), (1, 2, 0), (1, 3, 0), (7, 1, 0), (7, 2, 0), (7, 3, 0), (7, 4, 0), (7, 5, 0), (14, 1001, 0), (15, 1001, 0), (16, 1001, 0), (17, 1001, 0), (18, 1001, 0), (19, 1001, 0), (27, 1001, 0), (28, 1001, 0), (29, 1001, 0), (42, 1001, 0), (43, 1001, 0), (44, 1001, 0), (45, 1001, 0), (46, 1001, 0), (47, 1001, 0), (48, 1001, 0), (49, 1001, 0), (50, 1001, 0), (51, 1001, 0), (53, 1001, 0), (54, 1001, 0), (56, 1001, 0), (57, 1001, 0), (5, 4, 0), (35, 1001, 0), (8, 7, 0), (30, 1001, 0), (31, 1001, 0), (32, 1001, 0), (33, 1001, 0), (34, 1001, 0), (8, 6, 0), (5, 2, 0), (5, 3, 0), (52, 1001, 0)]
theorem zVk_r {V M M1 : Nat → Nat → Int} (hVξ : ∀ o k, zNc o → M o k = V o k) (h : ∀ o k, (∀ q ∈ zYc, q.1 = o → zp_nfb zERd q.2 k = true ∨ zp_ncb zERd q.2 = true) → M1 o k = M o k) : zVk V M1 := fun o k hoξ h12ξ h11ξ => by
  refine (h o k (fun q hqξ e => ?_)).trans (hVξ o k hoξ)
  have h8ξ : ∀ q ∈ zYc, zNc q.1 → q.1 ≠ 12 → q.1 ≠ 11 → zp_ncb zERd q.2 = true := by decide
  have h9ξ : ∀ q ∈ zYc, q.1 = 11 → zp_nfb zERd q.2 0 = true ∧ zp_nfb zERd q.2 1 = true := by decide
  by_cases e11 : q.1 = 11
  · left
    rcases h11ξ with h | rfl | rfl
    · exact absurd (e.symm.trans e11) h
    · exact (h9ξ q hqξ e11).1
    · exact (h9ξ q hqξ e11).2
  · right
    exact h8ξ q hqξ (by rw [e]; exact hoξ) (by rw [e]; exact h12ξ) e11
theorem zp_o2m2 {P : Nat → Option Nat} {t a : Nat} (h : P a = some t) : zk_ok P (2, t, -1, 0) (a : Int) := ⟨by show (-1 : Int) ≤ a; omega, by show (-1 : Int) ≤ a; omega, fun (h' : (0 : Int) < 0) => absurd h' (by decide), fun _ => by show P (a : Int).toNat = some t; rw [Int.toNat_natCast]; exact h⟩
theorem zERd_8 : ∀ i, i < 5 → zp_nfb zERd 8 i = true := by decide
theorem zUC_36 : ∀ i, i < 6 → zp_ncb zUC (36 + i) = true := by decide
noncomputable def zK_lwc : zk_K := (zt_mn 39, prog_1_method_14_code, 2, (Option.some Jvm.ClassFile.FieldType.int), 1, 11, [(2, 12, 0, 0)], [(some (0, 0, (-6), 5), [])], zELw, (51, 1170, 7, 940))
noncomputable def zφ_lwc (A : Nat → Nat) (Y : List (Nat × Nat)) (F : List (Nat × Nat × Nat)) (V : Nat → Nat → Int) (ln : Nat) : (Nat → Option Nat) → (Nat → Nat → Int) → List Int → Prop := fun P G ps => zMVc A Y F V P G ∧ ps.getD 0 0 = (A 0 : Int) ∧ zMc Y F ∧ V 11 1 = (ln : Int) ∧ ln ≤ 400 ∧ ∀ j, j < ln → 0 ≤ V 71 (2000 + j) ∧ V 71 (2000 + j) ≤ 255
noncomputable def zψ_lwc (A : Nat → Nat) (Y : List (Nat × Nat)) (F : List (Nat × Nat × Nat)) (V : Nat → Nat → Int) (ln : Nat) : (Nat → Option Nat) → (Nat → Nat → Int) → List Int → (Nat → Option Nat) → (Nat → Nat → Int) → Int → Prop := fun P G ps P' G' rn => (6 ≤ V 1 14 ∧ P' = P ∧ rn = -5 ∧ zMVc A Y F (zf_rfs (zp_set V 11 1 0) (-5)).2 P' G') ∨ (V 1 14 < 6 ∧ ∃ s V1, zVk V V1 ∧ yT (zy_so (fun j => V 71 (2000 + j)) ln) (zy_wo (fun j => V 71 (2000 + j)) ln) (zy_to (fun j => V 71 (2000 + j)) ln) (yt_cl (zy_so (fun j => V 71 (2000 + j)) ln) (zy_wo (fun j => V 71 (2000 + j)) ln) (zy_to (fun j => V 71 (2000 + j)) ln) (ylf false (fun j => V 71 (2000 + j)) ln)) 12 0 0 s ∧ ((∃ q, s = Sum.inl q ∧ V1 12 2 = (zy_fr (fun j => V 71 (2000 + j)) ln q : Int) ∧ P' = P ∧ rn = -6 ∧ zMVc A Y F (zf_rfs (zp_set V1 11 1 0) (-6)).2 P' G') ∨ ∃ (L : List yK) (cp : Nat) (b : Nat → Nat), s = Sum.inr L ∧ V1 12 2 = -1 ∧ rn = V 1 14 ∧ (∀ a t, P a = some t → P' a = some t) ∧ zNT P P' G' cp b L ∧ zMVc A Y F (zf_ans (zp_set (zp_set (zp_set V1 11 1 0) 40 (2000 + (V 1 14).toNat) (cp : Int)) 1 14 (V 1 14 + 1)) (V 1 14)).2 P' G'))
theorem zX_lwc {l : Launch} {w : zk_W} (hWξ : zh_W w) (A : Nat → Nat) (Y : List (Nat × Nat)) (F : List (Nat × Nat × Nat)) (V : Nat → Nat → Int) (ln : Nat) : zk_metX l w zt_dv zt_TB zK_lwc (zp_A (zφ_lwc A Y F V ln)) (zp_B (zψ_lwc A Y F V ln)) ∧ zk_cok w zt_TB zK_lwc := by
  refine zp_methX (cn := "WoundTown") zp_lkallW hWξ (pl := 704) rfl (by decide +kernel) (fun p e R s m args below meth c Q u hx hb hEξ hQξ hU5ξ heffξ hnLξ hokξ hφ => ?_)
  refine zpn_of ?_
  have hwξ := hWξ.1
  obtain ⟨p0ξ, hpsξ, tk0⟩ := zp_ps1 hokξ
  have hrmξ : zk_Kr (zk_ev (zt_types, zp_lkW, zt_dv, [], [], zp_lcW, zK_lwc)) = zk_Kr zK_lwc := rfl
  rw [hpsξ] at hφ ⊢
  have hφ : zMVc A Y F V u.1 (zp_n u.2.1) ∧ p0ξ = (A 0 : Int) ∧ zMc Y F ∧ V 11 1 = (ln : Int) ∧ ln ≤ 400 ∧ ∀ j, j < ln → 0 ≤ V 71 (2000 + j) ∧ V 71 (2000 + j) ≤ 255 := hφ
  obtain ⟨⟨M, hMξ, hVξ, hSbξ⟩, rfl, hYFξ, hlnξ, hln4ξ, hB255ξ⟩ := hφ
  have hYF0ξ := hYFξ
  obtain ⟨hYbξ, hFbξ, hFxξ, -⟩ := hYFξ
  show zp_Jn _ _ p l e R s m args below meth c Q w u [] 0 [(0, 2, (A 0 : Int))] [] u.1 (zp_n u.2.1)
  refine zpn_kn (k := 0) (a := A 13) hwξ (show zp_fd 8 0 = some (8, 2, 30, 0, 0) from rfl) rfl (zM_P hMξ (hYbξ _ (List.mem_of_getElem? (i := 13) rfl))) (fun hkb0ξ => ?_)
  obtain ⟨b0, hb0ξ, qb0⟩ := zp_this hkb0ξ
  refine zpn_kn (k := 1) (a := A 13) hwξ (show zp_fd 8 1 = some (8, 2, 31, 0, 0) from rfl) rfl (zM_P hMξ (hYbξ _ (List.mem_of_getElem? (i := 13) rfl))) (fun hkb1ξ => ?_)
  obtain ⟨b1, hb1ξ, qb1⟩ := zp_this hkb1ξ
  refine zpn_kn (k := 2) (a := A 13) hwξ (show zp_fd 8 2 = some (8, 2, 32, 0, 0) from rfl) rfl (zM_P hMξ (hYbξ _ (List.mem_of_getElem? (i := 13) rfl))) (fun hkb2ξ => ?_)
  obtain ⟨b2, hb2ξ, qb2⟩ := zp_this hkb2ξ
  refine zpn_kn (k := 3) (a := A 13) hwξ (show zp_fd 8 3 = some (8, 2, 33, 0, 0) from rfl) rfl (zM_P hMξ (hYbξ _ (List.mem_of_getElem? (i := 13) rfl))) (fun hkb3ξ => ?_)
  obtain ⟨b3, hb3ξ, qb3⟩ := zp_this hkb3ξ
  refine zpn_kn (k := 4) (a := A 13) hwξ (show zp_fd 8 4 = some (8, 2, 34, 0, 0) from rfl) rfl (zM_P hMξ (hYbξ _ (List.mem_of_getElem? (i := 13) rfl))) (fun hkb4ξ => ?_)
  obtain ⟨b4, hb4ξ, qb4⟩ := zp_this hkb4ξ
  refine zpn_kn (k := 5) (a := A 13) hwξ (show zp_fd 8 5 = some (8, 2, 35, 0, 0) from rfl) rfl (zM_P hMξ (hYbξ _ (List.mem_of_getElem? (i := 13) rfl))) (fun hkcdξ => ?_)
  obtain ⟨cd, hcdξ, qcd⟩ := zp_this hkcdξ
  obtain ⟨bb, hbb0ξ⟩ : ∃ bb : Nat → Nat, bb = fun i => [b0, b1, b2, b3, b4].getD i 0 := ⟨_, rfl⟩
  have hbbξ : ∀ i : Nat, i < 5 → zp_n u.2.1 (A 13) i = (bb i : Int) ∧ u.1 (bb i) = some (30 + i) := by
    intro i hi
    have hi5ξ : i = 0 ∨ i = 1 ∨ i = 2 ∨ i = 3 ∨ i = 4 := by omega
    rw [hbb0ξ]
    rcases hi5ξ with rfl | rfl | rfl | rfl | rfl
    · exact ⟨hb0ξ, qb0⟩
    · exact ⟨hb1ξ, qb1⟩
    · exact ⟨hb2ξ, qb2⟩
    · exact ⟨hb3ξ, qb3⟩
    · exact ⟨hb4ξ, qb4⟩
  have hr13ξ : zp_n u.2.1 (A 12) 1 = (A 13 : Int) := (zM_G hMξ (hYbξ _ (List.mem_of_getElem? (i := 12) rfl)) 1).trans (zM_F hMξ (hFbξ _ (List.mem_of_getElem? (i := 50) rfl)))
  have hr11ξ : zp_n u.2.1 (A 12) 0 = (A 11 : Int) := (zM_G hMξ (hYbξ _ (List.mem_of_getElem? (i := 12) rfl)) 0).trans (zM_F hMξ (hFbξ _ (List.mem_of_getElem? (i := 49) rfl)))
  have hr71ξ : zp_n u.2.1 (A 11) 0 = (A 71 : Int) := (zM_G hMξ (hYbξ _ (List.mem_of_getElem? (i := 11) rfl)) 0).trans (zM_F hMξ (hFbξ _ (List.mem_of_getElem? (i := 48) rfl)))
  have hl11ξ : zp_n u.2.1 (A 11) 1 = (ln : Int) := (zM_G hMξ (hYbξ _ (List.mem_of_getElem? (i := 11) rfl)) 1).trans ((hVξ 11 1 (by decide)).trans hlnξ)
  have hB71ξ : ∀ j, zp_n u.2.1 (A 71) (2000 + j) = V 71 (2000 + j) := fun j => (zM_G hMξ (hYbξ _ (List.mem_of_getElem? (i := 49) rfl)) _).trans (hVξ 71 _ (by decide))
  refine zpn_kn (k := 14) (a := A 1) hwξ (show zp_fd 10 14 = some (9, 0, 0, 0, 6) from rfl) rfl (zM_P hMξ (hYbξ _ (List.mem_of_getElem? (i := 1) rfl))) (fun hk14ξ => ?_)
  have hk14bξ := zp_int hk14ξ
  rw [show zp_n u.2.1 (A 1) 14 = V 1 14 from (zM_G hMξ (hYbξ _ (List.mem_of_getElem? (i := 1) rfl)) 14).trans (hVξ 1 14 (by decide))] at hk14bξ
  clear hk14ξ
  refine zpn_load (pc := 0) hx hb (zd_X11_law (0, .aload_n 0, 1, 0, []) (List.mem_of_getElem? (i := 0) rfl)) rfl (j := 0) rfl ?_
  refine zpn_getf (n := (A 1 : Int)) (pc := 1) hx hb hEξ hwξ (zd_X11_law (1, .getfield 10, 3, 0, []) (List.mem_of_getElem? (i := 1) rfl)) (j := 50) rfl rfl rfl (zM_P hMξ (hYbξ _ (List.mem_of_getElem? (i := 0) rfl))) ((zM_G hMξ (hYbξ _ (List.mem_of_getElem? (i := 0) rfl)) 0).trans (zM_F hMξ (hFbξ _ (List.mem_of_getElem? (i := 0) rfl)))) ?_
  refine zpn_getf (n := (V 1 14)) (pc := 4) hx hb hEξ hwξ (zd_X11_law (4, .getfield 205, 3, 0, []) (List.mem_of_getElem? (i := 2) rfl)) (j := 20) rfl rfl rfl (zM_P hMξ (hYbξ _ (List.mem_of_getElem? (i := 1) rfl))) ((zM_G hMξ (hYbξ _ (List.mem_of_getElem? (i := 1) rfl)) 14).trans (hVξ 1 14 (by decide))) ?_
  refine zpn_kn (k := 14) (a := (A 1)) hwξ (show zp_fd 10 14 = some (9, 0, 0, 0, 6) from rfl) rfl (zM_P hMξ (hYbξ _ (List.mem_of_getElem? (i := 1) rfl))) (fun hf262ξ => ?_)
  have hf262bξ := zp_int hf262ξ
  rw [((zM_G hMξ (hYbξ _ (List.mem_of_getElem? (i := 1) rfl)) 14).trans (hVξ 1 14 (by decide)))] at hf262bξ
  clear hf262ξ
  refine zpn_const (pc := 7) hx hb (zd_X11_law (7, .bipush 6, 2, 0, []) (List.mem_of_getElem? (i := 3) rfl)) rfl rfl ?_
  refine zpn_icmp (pc := 9) (tgt := 27) hx hb (zd_X11_law (9, .if_icmp .lt 18, 3, 0, []) (List.mem_of_getElem? (i := 4) rfl)) rfl (fun (hc263ξ : (V 1 14) < 6) => ?_) (fun (hc263ξ : ¬ ((V 1 14) < 6)) => ?_)
  · refine zpn_load (pc := 27) hx hb (zd_X11_law (27, .aload_n 0, 1, 0, []) (List.mem_of_getElem? (i := 13) rfl)) rfl (j := 0) rfl ?_
    refine zpn_getf (n := (A 12 : Int)) (pc := 28) hx hb hEξ hwξ (zd_X11_law (28, .getfield 76, 3, 0, []) (List.mem_of_getElem? (i := 14) rfl)) (j := 59) rfl rfl rfl (zM_P hMξ (hYbξ _ (List.mem_of_getElem? (i := 0) rfl))) ((zM_G hMξ (hYbξ _ (List.mem_of_getElem? (i := 0) rfl)) 9).trans (zM_F hMξ (hFbξ _ (List.mem_of_getElem? (i := 7) rfl)))) ?_
    refine zpn_const (pc := 31) hx hb (zd_X11_law (31, .iconst 0, 1, 0, []) (List.mem_of_getElem? (i := 15) rfl)) rfl rfl ?_
    refine zpn_call (pc := 32) (how := 0) (idx := 208) (mi := 40) (S := []) hx hb hEξ hwξ heffξ hrmξ (zX_rdl hWξ (A 11) (A 13) (A 71) cd (fun j => V 71 (2000 + j)) ln bb) rfl (j := 23) rfl rfl (by decide +kernel) (zd_X11_law (32, .invokevirtual 208, 3, 0, []) (List.mem_of_getElem? (i := 16) rfl)) [(A 12 : Int), 0] rfl ⟨zp_o2 (zM_P hMξ (hYbξ _ (List.mem_of_getElem? (i := 12) rfl))), zp_o0 (by decide) (by decide) (by decide) (by decide), trivial⟩ (Nat.le_of_ble_eq_true rfl) ⟨⟨⟨(zM_P hMξ (hYbξ _ (List.mem_of_getElem? (i := 12) rfl))), (zM_P hMξ (hYbξ _ (List.mem_of_getElem? (i := 11) rfl))), (zM_P hMξ (hYbξ _ (List.mem_of_getElem? (i := 13) rfl))), (zM_P hMξ (hYbξ _ (List.mem_of_getElem? (i := 49) rfl))), qcd⟩, hr11ξ, hr13ξ, hcdξ⟩, ⟨⟨hr71ξ, hl11ξ, hln4ξ, hB71ξ⟩, hB255ξ⟩, hbbξ, rfl⟩ (fun al halξ rnr Pr Gr hextrξ hfrrξ hokrξ hcsrξ hpsirξ => ?_)
    obtain rfl := List.mem_singleton.mp halξ
    obtain ⟨hPrξ, sr, hsrξ, htr9ξ⟩ := hpsirξ
    subst hPrξ
    obtain ⟨Mr, hMrξ, hMfrξ⟩ := zM_ef2 (eff := zERd) hMξ hYF0ξ (show zp_fr zERd _ _ _ _ from hfrrξ) hextrξ (by decide) (by decide) (by decide)
    have hfrrξ : zp_fr zERd _ _ _ _ := hfrrξ
    have hVkξ : zVk V Mr := zVk_r hVξ hMfrξ
    have hVrξ : ∀ o k, zNc o → Mr o k = Mr o k := fun _ _ _ => rfl
    rcases htr9ξ with ⟨qr, rfl, hzrξ, hfr9ξ⟩ | ⟨Lr, C9, sz9, rfl, hzrξ, hfr9ξ, hx6ξ, hxlξ, hx7ξ, hxsξ, hxCξ, hXsξ⟩
    · subst hzrξ
      have hfr8ξ : Mr 12 2 = (zy_fr (fun j => V 71 (2000 + j)) ln qr : Int) := (zM_G hMrξ (hYbξ _ (List.mem_of_getElem? (i := 12) rfl)) 2).symm.trans hfr9ξ
      refine zpn_store (L' := [(1, 0, 0), (0, 2, (A 0 : Int))]) (pc := 35) hx hb hnLξ (zd_X11_law (35, .istore_n 1, 1, 0, []) (List.mem_of_getElem? (i := 17) rfl)) rfl rfl rfl ?_
      refine zpn_load (pc := 36) hx hb (zd_X11_law (36, .aload_n 0, 1, 0, []) (List.mem_of_getElem? (i := 18) rfl)) rfl (j := 1) rfl ?_
      refine zpn_getf (n := (A 11 : Int)) (pc := 37) hx hb hEξ hwξ (zd_X11_law (37, .getfield 67, 3, 0, []) (List.mem_of_getElem? (i := 19) rfl)) (j := 58) rfl rfl rfl (zM_P hMrξ (hYbξ _ (List.mem_of_getElem? (i := 0) rfl))) ((zM_G hMrξ (hYbξ _ (List.mem_of_getElem? (i := 0) rfl)) 8).trans (zM_F hMrξ (hFbξ _ (List.mem_of_getElem? (i := 6) rfl)))) ?_
      refine zpn_const (pc := 40) hx hb (zd_X11_law (40, .iconst 0, 1, 0, []) (List.mem_of_getElem? (i := 20) rfl)) rfl rfl ?_
      refine zpn_putf (pc := 41) hx hb hEξ hwξ heffξ (zd_X11_law (41, .putfield 193, 3, 0, []) (List.mem_of_getElem? (i := 21) rfl)) (j := 39) rfl rfl rfl (zM_P hMrξ (hYbξ _ (List.mem_of_getElem? (i := 11) rfl))) (zp_o0 (by decide) (by decide) (by decide) (by decide)) ?_
      refine zpn_load (pc := 44) hx hb (zd_X11_law (44, .iload_n 1, 1, 0, []) (List.mem_of_getElem? (i := 22) rfl)) rfl (j := 0) rfl ?_
      refine zpn_if (pc := 45) (tgt := 55) hx hb (zd_X11_law (45, .ifCond .ne 10, 3, 0, []) (List.mem_of_getElem? (i := 23) rfl)) rfl (fun (hc264ξ : ¬ (0 : Int) = 0) => ?_) (fun (hc264ξ : ¬ (¬ (0 : Int) = 0)) => ?_)
      · exfalso
        omega
      · refine zpn_load (pc := 48) hx hb (zd_X11_law (48, .aload_n 0, 1, 0, []) (List.mem_of_getElem? (i := 24) rfl)) rfl (j := 1) rfl ?_
        refine zpn_const (pc := 49) hx hb (zd_X11_law (49, .bipush (-6), 2, 0, []) (List.mem_of_getElem? (i := 25) rfl)) rfl rfl ?_
        refine zpn_call (pc := 51) (how := 0) (idx := 111) (mi := 16) (S := []) hx hb hEξ hwξ heffξ hrmξ (zX_rfs hWξ A Y F (zp_set Mr 11 1 0)) rfl (j := 11) rfl rfl (by decide +kernel) (zd_X11_law (51, .invokevirtual 111, 3, 0, []) (List.mem_of_getElem? (i := 26) rfl)) [(A 0 : Int), (-6)] rfl ⟨zp_o2 (zM_P hMrξ (hYbξ _ (List.mem_of_getElem? (i := 0) rfl))), zp_o0 (by omega) (by omega) (by omega) (by omega), trivial⟩ (Nat.le_of_ble_eq_true rfl) ⟨⟨(zp_set Mr 11 1 0), (zM_set hMrξ (hYbξ _ (List.mem_of_getElem? (i := 11) rfl)) (zFx hFxξ (o := 11) (k := 1) (by decide) (by decide))), (zV_set hVrξ), trivial⟩, rfl, hYF0ξ⟩ (fun al halξ rna265ξ Pa265 Ga265 hexta265ξ hfra265ξ hoka265ξ hcsa265ξ hpsia265ξ => ?_)
        obtain rfl := List.mem_singleton.mp halξ
        have hra265ξ := zp_int (hoka265ξ _ rfl).1
        obtain ⟨hPea265ξ, ⟨Ma265, hMa265ξ, hVa265ξ, hSba265ξ⟩, hta265ξ⟩ := hpsia265ξ
        subst hPea265ξ
        clear hexta265ξ hfra265ξ hcsa265ξ hoka265ξ
        have hVa265ξ : ∀ o k, zNc o → Ma265 o k = (zf_rfs (zp_set Mr 11 1 0) (-6)).2 o k := hVa265ξ
        have hta265ξ : rna265ξ = ((zf_rfs (zp_set Mr 11 1 0) (-6)).1) := hta265ξ
        have hta265ξ := (Eq.symm hta265ξ)
        subst hta265ξ
        have hrvξ : ((zf_rfs (zp_set Mr 11 1 0) (-6)).1) = -6 := by unfold zf_rfs; rw [if_pos rfl]
        refine zpn_iret (pc := 54) (n := ((zf_rfs (zp_set Mr 11 1 0) (-6)).1)) hx hb hEξ hQξ hU5ξ rfl (by decide) (zd_X11_law (54, .ireturn, 1, 0, []) (List.mem_of_getElem? (i := 27) rfl)) (j := 0) rfl (zp_o0 (by rw [hrvξ]; omega) (by rw [hrvξ]; omega) (by rw [hrvξ]; omega) (by rw [hrvξ]; omega)) (by decide +kernel) (by decide +kernel) ?_
        rw [hpsξ]
        show (6 ≤ V 1 14 ∧ u.1 = u.1 ∧ ((zf_rfs (zp_set Mr 11 1 0) (-6)).1) = -5 ∧ zMVc A Y F (zf_rfs (zp_set V 11 1 0) (-5)).2 u.1 Ga265) ∨ (V 1 14 < 6 ∧ ∃ s V1, zVk V V1 ∧ yT (zy_so (fun j => V 71 (2000 + j)) ln) (zy_wo (fun j => V 71 (2000 + j)) ln) (zy_to (fun j => V 71 (2000 + j)) ln) (yt_cl (zy_so (fun j => V 71 (2000 + j)) ln) (zy_wo (fun j => V 71 (2000 + j)) ln) (zy_to (fun j => V 71 (2000 + j)) ln) (ylf false (fun j => V 71 (2000 + j)) ln)) 12 0 0 s ∧ ((∃ q, s = Sum.inl q ∧ V1 12 2 = (zy_fr (fun j => V 71 (2000 + j)) ln q : Int) ∧ u.1 = u.1 ∧ ((zf_rfs (zp_set Mr 11 1 0) (-6)).1) = -6 ∧ zMVc A Y F (zf_rfs (zp_set V1 11 1 0) (-6)).2 u.1 Ga265) ∨ ∃ (L : List yK) (cp : Nat) (b : Nat → Nat), s = Sum.inr L ∧ V1 12 2 = -1 ∧ ((zf_rfs (zp_set Mr 11 1 0) (-6)).1) = V 1 14 ∧ (∀ a t, u.1 a = some t → u.1 a = some t) ∧ zNT u.1 u.1 Ga265 cp b L ∧ zMVc A Y F (zf_ans (zp_set (zp_set (zp_set V1 11 1 0) 40 (2000 + (V 1 14).toNat) (cp : Int)) 1 14 (V 1 14 + 1)) (V 1 14)).2 u.1 Ga265))
        exact Or.inr ⟨by omega, _, Mr, hVkξ, hsrξ, Or.inl ⟨qr, rfl, hfr8ξ, rfl, hrvξ, ⟨Ma265, hMa265ξ, hVa265ξ, trivial⟩⟩⟩
    · subst hzrξ
      have hfr8ξ : Mr 12 2 = -1 := (zM_G hMrξ (hYbξ _ (List.mem_of_getElem? (i := 12) rfl)) 2).symm.trans hfr9ξ
      refine zpn_store (L' := [(1, 0, 1), (0, 2, (A 0 : Int))]) (pc := 35) hx hb hnLξ (zd_X11_law (35, .istore_n 1, 1, 0, []) (List.mem_of_getElem? (i := 17) rfl)) rfl rfl rfl ?_
      refine zpn_load (pc := 36) hx hb (zd_X11_law (36, .aload_n 0, 1, 0, []) (List.mem_of_getElem? (i := 18) rfl)) rfl (j := 1) rfl ?_
      refine zpn_getf (n := (A 11 : Int)) (pc := 37) hx hb hEξ hwξ (zd_X11_law (37, .getfield 67, 3, 0, []) (List.mem_of_getElem? (i := 19) rfl)) (j := 58) rfl rfl rfl (zM_P hMrξ (hYbξ _ (List.mem_of_getElem? (i := 0) rfl))) ((zM_G hMrξ (hYbξ _ (List.mem_of_getElem? (i := 0) rfl)) 8).trans (zM_F hMrξ (hFbξ _ (List.mem_of_getElem? (i := 6) rfl)))) ?_
      refine zpn_const (pc := 40) hx hb (zd_X11_law (40, .iconst 0, 1, 0, []) (List.mem_of_getElem? (i := 20) rfl)) rfl rfl ?_
      refine zpn_putf (pc := 41) hx hb hEξ hwξ heffξ (zd_X11_law (41, .putfield 193, 3, 0, []) (List.mem_of_getElem? (i := 21) rfl)) (j := 39) rfl rfl rfl (zM_P hMrξ (hYbξ _ (List.mem_of_getElem? (i := 11) rfl))) (zp_o0 (by decide) (by decide) (by decide) (by decide)) ?_
      refine zpn_load (pc := 44) hx hb (zd_X11_law (44, .iload_n 1, 1, 0, []) (List.mem_of_getElem? (i := 22) rfl)) rfl (j := 0) rfl ?_
      refine zpn_if (pc := 45) (tgt := 55) hx hb (zd_X11_law (45, .ifCond .ne 10, 3, 0, []) (List.mem_of_getElem? (i := 23) rfl)) rfl (fun (hc266ξ : ¬ (1 : Int) = 0) => ?_) (fun (hc266ξ : ¬ (¬ (1 : Int) = 0)) => ?_)
      · refine zpn_load (pc := 55) hx hb (zd_X11_law (55, .aload_n 0, 1, 0, []) (List.mem_of_getElem? (i := 28) rfl)) rfl (j := 1) rfl ?_
        refine zpn_getf (n := (A 1 : Int)) (pc := 56) hx hb hEξ hwξ (zd_X11_law (56, .getfield 10, 3, 0, []) (List.mem_of_getElem? (i := 29) rfl)) (j := 50) rfl rfl rfl (zM_P hMrξ (hYbξ _ (List.mem_of_getElem? (i := 0) rfl))) ((zp_set_ne (Or.inl (zM_ne hMrξ (hYbξ _ (List.mem_of_getElem? (i := 0) rfl)) (hYbξ _ (List.mem_of_getElem? (i := 11) rfl)) (by decide)))).trans (((zM_G hMrξ (hYbξ _ (List.mem_of_getElem? (i := 0) rfl)) 0).trans (zM_F hMrξ (hFbξ _ (List.mem_of_getElem? (i := 0) rfl)))))) ?_
        refine zpn_getf (n := (A 40 : Int)) (pc := 59) hx hb hEξ hwξ (zd_X11_law (59, .getfield 212, 3, 0, []) (List.mem_of_getElem? (i := 30) rfl)) (j := 19) rfl rfl rfl (zM_P hMrξ (hYbξ _ (List.mem_of_getElem? (i := 1) rfl))) ((zp_set_ne (Or.inl (zM_ne hMrξ (hYbξ _ (List.mem_of_getElem? (i := 1) rfl)) (hYbξ _ (List.mem_of_getElem? (i := 11) rfl)) (by decide)))).trans (((zM_G hMrξ (hYbξ _ (List.mem_of_getElem? (i := 1) rfl)) 13).trans (zM_F hMrξ (hFbξ _ (List.mem_of_getElem? (i := 23) rfl)))))) ?_
        refine zpn_load (pc := 62) hx hb (zd_X11_law (62, .aload_n 0, 1, 0, []) (List.mem_of_getElem? (i := 31) rfl)) rfl (j := 1) rfl ?_
        refine zpn_getf (n := (A 1 : Int)) (pc := 63) hx hb hEξ hwξ (zd_X11_law (63, .getfield 10, 3, 0, []) (List.mem_of_getElem? (i := 32) rfl)) (j := 50) rfl rfl rfl (zM_P hMrξ (hYbξ _ (List.mem_of_getElem? (i := 0) rfl))) ((zp_set_ne (Or.inl (zM_ne hMrξ (hYbξ _ (List.mem_of_getElem? (i := 0) rfl)) (hYbξ _ (List.mem_of_getElem? (i := 11) rfl)) (by decide)))).trans (((zM_G hMrξ (hYbξ _ (List.mem_of_getElem? (i := 0) rfl)) 0).trans (zM_F hMrξ (hFbξ _ (List.mem_of_getElem? (i := 0) rfl)))))) ?_
        refine zpn_getf (n := (V 1 14)) (pc := 66) hx hb hEξ hwξ (zd_X11_law (66, .getfield 205, 3, 0, []) (List.mem_of_getElem? (i := 33) rfl)) (j := 20) rfl rfl rfl (zM_P hMrξ (hYbξ _ (List.mem_of_getElem? (i := 1) rfl))) ((zp_set_ne (Or.inl (zM_ne hMrξ (hYbξ _ (List.mem_of_getElem? (i := 1) rfl)) (hYbξ _ (List.mem_of_getElem? (i := 11) rfl)) (by decide)))).trans ((((zM_G hMrξ (hYbξ _ (List.mem_of_getElem? (i := 1) rfl)) 14).trans (hVrξ 1 14 (by decide))).trans (hVkξ 1 14 (by decide) (by decide) (Or.inl (by decide)))))) ?_
        refine zpn_load (pc := 69) hx hb (zd_X11_law (69, .aload_n 0, 1, 0, []) (List.mem_of_getElem? (i := 34) rfl)) rfl (j := 1) rfl ?_
        refine zpn_getf (n := (A 12 : Int)) (pc := 70) hx hb hEξ hwξ (zd_X11_law (70, .getfield 76, 3, 0, []) (List.mem_of_getElem? (i := 35) rfl)) (j := 59) rfl rfl rfl (zM_P hMrξ (hYbξ _ (List.mem_of_getElem? (i := 0) rfl))) ((zp_set_ne (Or.inl (zM_ne hMrξ (hYbξ _ (List.mem_of_getElem? (i := 0) rfl)) (hYbξ _ (List.mem_of_getElem? (i := 11) rfl)) (by decide)))).trans (((zM_G hMrξ (hYbξ _ (List.mem_of_getElem? (i := 0) rfl)) 9).trans (zM_F hMrξ (hFbξ _ (List.mem_of_getElem? (i := 7) rfl)))))) ?_
        refine zpn_getf (n := (A 13 : Int)) (pc := 73) hx hb hEξ hwξ (zd_X11_law (73, .getfield 216, 3, 0, []) (List.mem_of_getElem? (i := 36) rfl)) (j := 47) rfl rfl rfl (zM_P hMrξ (hYbξ _ (List.mem_of_getElem? (i := 12) rfl))) ((zp_set_ne (Or.inl (zM_ne hMrξ (hYbξ _ (List.mem_of_getElem? (i := 12) rfl)) (hYbξ _ (List.mem_of_getElem? (i := 11) rfl)) (by decide)))).trans (((zM_G hMrξ (hYbξ _ (List.mem_of_getElem? (i := 12) rfl)) 1).trans (zM_F hMrξ (hFbξ _ (List.mem_of_getElem? (i := 50) rfl)))))) ?_
        refine zpn_call (pc := 76) (how := 0) (idx := 220) (mi := 78) (S := [(0, (V 1 14)), (2, (A 40 : Int))]) hx hb hEξ hwξ heffξ hrmξ (zX_cpx hWξ) rfl (j := 24) rfl rfl (by decide +kernel) (zd_X11_law (76, .invokevirtual 220, 3, 0, []) (List.mem_of_getElem? (i := 37) rfl)) [(A 13 : Int)] rfl ⟨zp_o2 (zM_P hMrξ (hYbξ _ (List.mem_of_getElem? (i := 13) rfl))), trivial⟩ (Nat.le_of_ble_eq_true rfl) trivial (fun al halξ rny Py Gy hextyξ hfryξ hokyξ hcsyξ hpsiyξ => ?_)
        obtain rfl := List.mem_singleton.mp halξ
        obtain ⟨cp, b, rfl, hCpξ⟩ := hpsiyξ
        have hz0ξ : zp_0 [(A 13 : Int)] = A 13 := by show ((A 13 : Int)).toNat = A 13; rw [Int.toNat_natCast]
        rw [hz0ξ] at hCpξ
        have hP5ξ : ∀ i, i < 5 → Gr (A 13) i = (bb i : Int) := fun i hi => (zp_nf hfrrξ (zM_P hMξ (hYbξ _ (List.mem_of_getElem? (i := 13) rfl))) (zERd_8 i hi)).trans (hbbξ i hi).1
        have hNT0ξ : zNT _ Py Gy cp b Lr := zNT_of (bb := bb) (cd := cd) (C := C9) (sz := sz9) hCpξ ((zp_set_ne (Or.inl (zp_pne (zM_P hMrξ (hYbξ _ (List.mem_of_getElem? (i := 13) rfl))) (zM_P hMrξ (hYbξ _ (List.mem_of_getElem? (i := 11) rfl))) (by decide)))).trans hx6ξ) ((zp_set_ne (Or.inl (zp_pne (zM_P hMrξ (hYbξ _ (List.mem_of_getElem? (i := 13) rfl))) (zM_P hMrξ (hYbξ _ (List.mem_of_getElem? (i := 11) rfl))) (by decide)))).trans hx7ξ) hxsξ hxlξ (fun i hi => ((zp_set_ne (Or.inl (zp_pne (zM_P hMrξ (hYbξ _ (List.mem_of_getElem? (i := 13) rfl))) (zM_P hMrξ (hYbξ _ (List.mem_of_getElem? (i := 11) rfl))) (by decide)))).trans (hP5ξ i hi))) ((zp_set_ne (Or.inl (zp_pne (zM_P hMrξ (hYbξ _ (List.mem_of_getElem? (i := 13) rfl))) (zM_P hMrξ (hYbξ _ (List.mem_of_getElem? (i := 11) rfl))) (by decide)))).trans ((zp_nf hfrrξ (zM_P hMξ (hYbξ _ (List.mem_of_getElem? (i := 13) rfl))) rfl).trans hcdξ)) (fun j => ((zp_set_ne (Or.inl (zp_pne qcd (zM_P hMrξ (hYbξ _ (List.mem_of_getElem? (i := 11) rfl))) (by decide)))).trans (hxCξ j))) (zXs_c (Nat.le_refl _) (fun j _ => rfl) hXsξ (fun i j hi _ _ => ((zp_set_ne (Or.inl (zp_pne (hbbξ i hi).2 (zM_P hMrξ (hYbξ _ (List.mem_of_getElem? (i := 11) rfl))) (by omega)))).trans rfl)))
        obtain ⟨My, hMyξ, hMfyξ⟩ := zM_ef2 (eff := []) (zM_set hMrξ (hYbξ _ (List.mem_of_getElem? (i := 11) rfl)) (zFx hFxξ (o := 11) (k := 1) (by decide) (by decide))) hYF0ξ hfryξ hextyξ (by decide) (by decide) (by decide)
        have hVyξ : ∀ o k, zNc o → My o k = (zp_set Mr 11 1 0) o k := fun o k hkξ => (hMfyξ o k (fun q _ _ => Or.inr rfl)).trans ((zV_set hVrξ) o k hkξ)
        obtain ⟨hCnξ, hCp9ξ, hCbξ, -⟩ := hCpξ
        refine zpn_aast (j := (V 1 14).toNat) (pc := 79) hx hb hEξ hwξ heffξ (zd_X11_law (79, .aastore, 1, 0, []) (List.mem_of_getElem? (i := 38) rfl)) (lo := (-1)) (hi := 0) rfl rfl rfl rfl rfl (zM_P hMyξ (hYbξ _ (List.mem_of_getElem? (i := 27) rfl))) hCp9ξ (zp_o2m2 hCp9ξ) (by omega) (show (V 1 14).toNat < 6 by omega) (by omega) ⟨by decide, by decide⟩ rfl ?_
        refine zpn_load (pc := 80) hx hb (zd_X11_law (80, .aload_n 0, 1, 0, []) (List.mem_of_getElem? (i := 39) rfl)) rfl (j := 1) rfl ?_
        refine zpn_getf (n := (A 1 : Int)) (pc := 81) hx hb hEξ hwξ (zd_X11_law (81, .getfield 10, 3, 0, []) (List.mem_of_getElem? (i := 40) rfl)) (j := 50) rfl rfl rfl (zM_P hMyξ (hYbξ _ (List.mem_of_getElem? (i := 0) rfl))) ((zp_set_ne (Or.inl (zM_ne hMyξ (hYbξ _ (List.mem_of_getElem? (i := 0) rfl)) (hYbξ _ (List.mem_of_getElem? (i := 27) rfl)) (by decide)))).trans (((zM_G hMyξ (hYbξ _ (List.mem_of_getElem? (i := 0) rfl)) 0).trans (zM_F hMyξ (hFbξ _ (List.mem_of_getElem? (i := 0) rfl)))))) ?_
        refine zpn_dup (pc := 84) hx hb (zd_X11_law (84, .dup, 1, 0, []) (List.mem_of_getElem? (i := 41) rfl)) (show (2 : Nat) ≠ 1 by decide) ?_
        refine zpn_getf (n := (V 1 14)) (pc := 85) hx hb hEξ hwξ (zd_X11_law (85, .getfield 205, 3, 0, []) (List.mem_of_getElem? (i := 42) rfl)) (j := 20) rfl rfl rfl (zM_P hMyξ (hYbξ _ (List.mem_of_getElem? (i := 1) rfl))) ((zp_set_ne (Or.inl (zM_ne hMyξ (hYbξ _ (List.mem_of_getElem? (i := 1) rfl)) (hYbξ _ (List.mem_of_getElem? (i := 27) rfl)) (by decide)))).trans ((((zM_G hMyξ (hYbξ _ (List.mem_of_getElem? (i := 1) rfl)) 14).trans (hVyξ 1 14 (by decide))).trans ((zp_set_ne (Or.inl (by decide))).trans ((Eq.trans rfl (hVkξ 1 14 (by decide) (by decide) (Or.inl (by decide))))))))) ?_
        refine zpn_const (pc := 88) hx hb (zd_X11_law (88, .iconst 1, 1, 0, []) (List.mem_of_getElem? (i := 43) rfl)) rfl rfl ?_
        refine zpn_add (n := ((V 1 14) + 1)) (pc := 89) hx hb (zd_X11_law (89, .iadd, 1, 0, []) (List.mem_of_getElem? (i := 44) rfl)) (by omega) (zp_r0 (by omega) (by omega)) ?_
        refine zpn_putf (pc := 90) hx hb hEξ hwξ heffξ (zd_X11_law (90, .putfield 205, 3, 0, []) (List.mem_of_getElem? (i := 45) rfl)) (j := 20) rfl rfl rfl (zM_P hMyξ (hYbξ _ (List.mem_of_getElem? (i := 1) rfl))) (zp_o0 (by omega) (by omega) (by omega) (by omega)) ?_
        refine zpn_load (pc := 93) hx hb (zd_X11_law (93, .aload_n 0, 1, 0, []) (List.mem_of_getElem? (i := 46) rfl)) rfl (j := 1) rfl ?_
        refine zpn_load (pc := 94) hx hb (zd_X11_law (94, .aload_n 0, 1, 0, []) (List.mem_of_getElem? (i := 47) rfl)) rfl (j := 1) rfl ?_
        refine zpn_getf (n := (A 1 : Int)) (pc := 95) hx hb hEξ hwξ (zd_X11_law (95, .getfield 10, 3, 0, []) (List.mem_of_getElem? (i := 48) rfl)) (j := 50) rfl rfl rfl (zM_P hMyξ (hYbξ _ (List.mem_of_getElem? (i := 0) rfl))) ((zp_set_ne (Or.inl (zM_ne hMyξ (hYbξ _ (List.mem_of_getElem? (i := 0) rfl)) (hYbξ _ (List.mem_of_getElem? (i := 1) rfl)) (by decide)))).trans ((zp_set_ne (Or.inl (zM_ne hMyξ (hYbξ _ (List.mem_of_getElem? (i := 0) rfl)) (hYbξ _ (List.mem_of_getElem? (i := 27) rfl)) (by decide)))).trans (((zM_G hMyξ (hYbξ _ (List.mem_of_getElem? (i := 0) rfl)) 0).trans (zM_F hMyξ (hFbξ _ (List.mem_of_getElem? (i := 0) rfl))))))) ?_
        refine zpn_getf (n := ((V 1 14) + 1)) (pc := 98) hx hb hEξ hwξ (zd_X11_law (98, .getfield 205, 3, 0, []) (List.mem_of_getElem? (i := 49) rfl)) (j := 20) rfl rfl rfl (zM_P hMyξ (hYbξ _ (List.mem_of_getElem? (i := 1) rfl))) zp_set_self ?_
        refine zpn_const (pc := 101) hx hb (zd_X11_law (101, .iconst 1, 1, 0, []) (List.mem_of_getElem? (i := 50) rfl)) rfl rfl ?_
        refine zpn_sub (n := (((V 1 14) + 1) - 1)) (pc := 102) hx hb (zd_X11_law (102, .isub, 1, 0, []) (List.mem_of_getElem? (i := 51) rfl)) (by omega) (zp_r0 (by omega) (by omega)) ?_
        refine zpn_call (pc := 103) (how := 0) (idx := 118) (mi := 17) (S := []) hx hb hEξ hwξ heffξ hrmξ (zX_ans hWξ A Y F (zp_set (zp_set (zp_set Mr 11 1 0) 40 (2000 + (V 1 14).toNat) (cp : Int)) 1 14 ((V 1 14) + 1))) rfl (j := 12) rfl rfl (by decide +kernel) (zd_X11_law (103, .invokevirtual 118, 3, 0, []) (List.mem_of_getElem? (i := 52) rfl)) [(A 0 : Int), (((V 1 14) + 1) - 1)] rfl ⟨zp_o2 (zM_P hMyξ (hYbξ _ (List.mem_of_getElem? (i := 0) rfl))), zp_o0 (by omega) (by omega) (by omega) (by omega), trivial⟩ (Nat.le_of_ble_eq_true rfl) ⟨⟨(zp_set (zp_set My 40 (2000 + (V 1 14).toNat) (cp : Int)) 1 14 ((V 1 14) + 1)), (zM_set (zM_setE hMyξ (hYbξ _ (List.mem_of_getElem? (i := 27) rfl))) (hYbξ _ (List.mem_of_getElem? (i := 1) rfl)) (zFx hFxξ (o := 1) (k := 14) (by decide) (by decide))), (zV_set (zV_set hVyξ)), trivial⟩, rfl, hYF0ξ⟩ (fun al halξ rna267ξ Pa267 Ga267 hexta267ξ hfra267ξ hoka267ξ hcsa267ξ hpsia267ξ => ?_)
        obtain rfl := List.mem_singleton.mp halξ
        have hra267ξ := zp_int (hoka267ξ _ rfl).1
        obtain ⟨hPea267ξ, ⟨Ma267, hMa267ξ, hVa267ξ, hSba267ξ⟩, hta267ξ⟩ := hpsia267ξ
        subst hPea267ξ
        clear hexta267ξ hcsa267ξ hoka267ξ
        have hVa267ξ : ∀ o k, zNc o → Ma267 o k = (zf_ans (zp_set (zp_set (zp_set Mr 11 1 0) 40 (2000 + (V 1 14).toNat) (cp : Int)) 1 14 ((V 1 14) + 1)) (((V 1 14) + 1) - 1)).2 o k := hVa267ξ
        have hta267ξ : rna267ξ = ((zf_ans (zp_set (zp_set (zp_set Mr 11 1 0) 40 (2000 + (V 1 14).toNat) (cp : Int)) 1 14 ((V 1 14) + 1)) (((V 1 14) + 1) - 1)).1) := hta267ξ
        have hta267ξ := (Eq.symm hta267ξ)
        subst hta267ξ
        have hrvξ : ((zf_ans (zp_set (zp_set (zp_set Mr 11 1 0) 40 (2000 + (V 1 14).toNat) (cp : Int)) 1 14 ((V 1 14) + 1)) (((V 1 14) + 1) - 1)).1) = (V 1 14) := by unfold zf_ans; show ((V 1 14) + 1) - 1 = (V 1 14); omega
        refine zpn_iret (pc := 106) (n := ((zf_ans (zp_set (zp_set (zp_set Mr 11 1 0) 40 (2000 + (V 1 14).toNat) (cp : Int)) 1 14 ((V 1 14) + 1)) (((V 1 14) + 1) - 1)).1)) hx hb hEξ hQξ hU5ξ rfl (by decide) (zd_X11_law (106, .ireturn, 1, 0, []) (List.mem_of_getElem? (i := 53) rfl)) (j := 0) rfl (zp_o0 (by rw [hrvξ]; omega) (by rw [hrvξ]; omega) (by rw [hrvξ]; omega) (by rw [hrvξ]; omega)) (by decide +kernel) (by decide +kernel) ?_
        rw [hpsξ]
        show (6 ≤ V 1 14 ∧ Pa267 = u.1 ∧ ((zf_ans (zp_set (zp_set (zp_set Mr 11 1 0) 40 (2000 + (V 1 14).toNat) (cp : Int)) 1 14 ((V 1 14) + 1)) (((V 1 14) + 1) - 1)).1) = -5 ∧ zMVc A Y F (zf_rfs (zp_set V 11 1 0) (-5)).2 Pa267 Ga267) ∨ (V 1 14 < 6 ∧ ∃ s V1, zVk V V1 ∧ yT (zy_so (fun j => V 71 (2000 + j)) ln) (zy_wo (fun j => V 71 (2000 + j)) ln) (zy_to (fun j => V 71 (2000 + j)) ln) (yt_cl (zy_so (fun j => V 71 (2000 + j)) ln) (zy_wo (fun j => V 71 (2000 + j)) ln) (zy_to (fun j => V 71 (2000 + j)) ln) (ylf false (fun j => V 71 (2000 + j)) ln)) 12 0 0 s ∧ ((∃ q, s = Sum.inl q ∧ V1 12 2 = (zy_fr (fun j => V 71 (2000 + j)) ln q : Int) ∧ Pa267 = u.1 ∧ ((zf_ans (zp_set (zp_set (zp_set Mr 11 1 0) 40 (2000 + (V 1 14).toNat) (cp : Int)) 1 14 ((V 1 14) + 1)) (((V 1 14) + 1) - 1)).1) = -6 ∧ zMVc A Y F (zf_rfs (zp_set V1 11 1 0) (-6)).2 Pa267 Ga267) ∨ ∃ (L : List yK) (cp : Nat) (b : Nat → Nat), s = Sum.inr L ∧ V1 12 2 = -1 ∧ ((zf_ans (zp_set (zp_set (zp_set Mr 11 1 0) 40 (2000 + (V 1 14).toNat) (cp : Int)) 1 14 ((V 1 14) + 1)) (((V 1 14) + 1) - 1)).1) = V 1 14 ∧ (∀ a t, u.1 a = some t → Pa267 a = some t) ∧ zNT u.1 Pa267 Ga267 cp b L ∧ zMVc A Y F (zf_ans (zp_set (zp_set (zp_set V1 11 1 0) 40 (2000 + (V 1 14).toNat) (cp : Int)) 1 14 (V 1 14 + 1)) (V 1 14)).2 Pa267 Ga267))
        refine Or.inr ⟨by omega, _, Mr, hVkξ, hsrξ, Or.inr ⟨Lr, cp, b, rfl, hfr8ξ, hrvξ, hextyξ, ?_, ⟨Ma267, hMa267ξ, hVa267ξ, trivial⟩⟩⟩
        refine zNT_c hNT0ξ (fun k => ?_) (fun i k hi => ?_)
        · rw [zp_nc hfra267ξ hCp9ξ (by decide)]
          exact ((zp_set_ne (Or.inl (zp_pne hCp9ξ (zM_P hMyξ (hYbξ _ (List.mem_of_getElem? (i := 1) rfl))) (by decide)))).trans (zp_set_ne (Or.inl (zp_pne hCp9ξ (zM_P hMyξ (hYbξ _ (List.mem_of_getElem? (i := 27) rfl))) (by decide)))))
        · rw [zp_nc hfra267ξ (hCbξ i hi).2.1 (zUC_36 i hi)]
          exact ((zp_set_ne (Or.inl (zp_pne (hCbξ i hi).2.1 (zM_P hMyξ (hYbξ _ (List.mem_of_getElem? (i := 1) rfl))) (by omega)))).trans (zp_set_ne (Or.inl (zp_pne (hCbξ i hi).2.1 (zM_P hMyξ (hYbξ _ (List.mem_of_getElem? (i := 27) rfl))) (by omega)))))
      · exfalso
        omega
  · refine zpn_load (pc := 12) hx hb (zd_X11_law (12, .aload_n 0, 1, 0, []) (List.mem_of_getElem? (i := 5) rfl)) rfl (j := 0) rfl ?_
    refine zpn_getf (n := (A 11 : Int)) (pc := 13) hx hb hEξ hwξ (zd_X11_law (13, .getfield 67, 3, 0, []) (List.mem_of_getElem? (i := 6) rfl)) (j := 58) rfl rfl rfl (zM_P hMξ (hYbξ _ (List.mem_of_getElem? (i := 0) rfl))) ((zM_G hMξ (hYbξ _ (List.mem_of_getElem? (i := 0) rfl)) 8).trans (zM_F hMξ (hFbξ _ (List.mem_of_getElem? (i := 6) rfl)))) ?_
    refine zpn_const (pc := 16) hx hb (zd_X11_law (16, .iconst 0, 1, 0, []) (List.mem_of_getElem? (i := 7) rfl)) rfl rfl ?_
    refine zpn_putf (pc := 17) hx hb hEξ hwξ heffξ (zd_X11_law (17, .putfield 193, 3, 0, []) (List.mem_of_getElem? (i := 8) rfl)) (j := 39) rfl rfl rfl (zM_P hMξ (hYbξ _ (List.mem_of_getElem? (i := 11) rfl))) (zp_o0 (by decide) (by decide) (by decide) (by decide)) ?_
    refine zpn_load (pc := 20) hx hb (zd_X11_law (20, .aload_n 0, 1, 0, []) (List.mem_of_getElem? (i := 9) rfl)) rfl (j := 0) rfl ?_
    refine zpn_const (pc := 21) hx hb (zd_X11_law (21, .bipush (-5), 2, 0, []) (List.mem_of_getElem? (i := 10) rfl)) rfl rfl ?_
    refine zpn_call (pc := 23) (how := 0) (idx := 111) (mi := 16) (S := []) hx hb hEξ hwξ heffξ hrmξ (zX_rfs hWξ A Y F (zp_set V 11 1 0)) rfl (j := 11) rfl rfl (by decide +kernel) (zd_X11_law (23, .invokevirtual 111, 3, 0, []) (List.mem_of_getElem? (i := 11) rfl)) [(A 0 : Int), (-5)] rfl ⟨zp_o2 (zM_P hMξ (hYbξ _ (List.mem_of_getElem? (i := 0) rfl))), zp_o0 (by omega) (by omega) (by omega) (by omega), trivial⟩ (Nat.le_of_ble_eq_true rfl) ⟨⟨(zp_set M 11 1 0), (zM_set hMξ (hYbξ _ (List.mem_of_getElem? (i := 11) rfl)) (zFx hFxξ (o := 11) (k := 1) (by decide) (by decide))), (zV_set hVξ), trivial⟩, rfl, hYF0ξ⟩ (fun al halξ rna268ξ Pa268 Ga268 hexta268ξ hfra268ξ hoka268ξ hcsa268ξ hpsia268ξ => ?_)
    obtain rfl := List.mem_singleton.mp halξ
    have hra268ξ := zp_int (hoka268ξ _ rfl).1
    obtain ⟨hPea268ξ, ⟨Ma268, hMa268ξ, hVa268ξ, hSba268ξ⟩, hta268ξ⟩ := hpsia268ξ
    subst hPea268ξ
    clear hexta268ξ hfra268ξ hcsa268ξ hoka268ξ
    have hVa268ξ : ∀ o k, zNc o → Ma268 o k = (zf_rfs (zp_set V 11 1 0) (-5)).2 o k := hVa268ξ
    have hta268ξ : rna268ξ = ((zf_rfs (zp_set V 11 1 0) (-5)).1) := hta268ξ
    have hta268ξ := (Eq.symm hta268ξ)
    subst hta268ξ
    have hrvξ : ((zf_rfs (zp_set V 11 1 0) (-5)).1) = -5 := by unfold zf_rfs; rw [if_neg (by decide), if_pos rfl]
    refine zpn_iret (pc := 26) (n := ((zf_rfs (zp_set V 11 1 0) (-5)).1)) hx hb hEξ hQξ hU5ξ rfl (by decide) (zd_X11_law (26, .ireturn, 1, 0, []) (List.mem_of_getElem? (i := 12) rfl)) (j := 0) rfl (zp_o0 (by rw [hrvξ]; omega) (by rw [hrvξ]; omega) (by rw [hrvξ]; omega) (by rw [hrvξ]; omega)) (by decide +kernel) (by decide +kernel) ?_
    rw [hpsξ]
    show (6 ≤ V 1 14 ∧ u.1 = u.1 ∧ ((zf_rfs (zp_set V 11 1 0) (-5)).1) = -5 ∧ zMVc A Y F (zf_rfs (zp_set V 11 1 0) (-5)).2 u.1 Ga268) ∨ (V 1 14 < 6 ∧ ∃ s V1, zVk V V1 ∧ yT (zy_so (fun j => V 71 (2000 + j)) ln) (zy_wo (fun j => V 71 (2000 + j)) ln) (zy_to (fun j => V 71 (2000 + j)) ln) (yt_cl (zy_so (fun j => V 71 (2000 + j)) ln) (zy_wo (fun j => V 71 (2000 + j)) ln) (zy_to (fun j => V 71 (2000 + j)) ln) (ylf false (fun j => V 71 (2000 + j)) ln)) 12 0 0 s ∧ ((∃ q, s = Sum.inl q ∧ V1 12 2 = (zy_fr (fun j => V 71 (2000 + j)) ln q : Int) ∧ u.1 = u.1 ∧ ((zf_rfs (zp_set V 11 1 0) (-5)).1) = -6 ∧ zMVc A Y F (zf_rfs (zp_set V1 11 1 0) (-6)).2 u.1 Ga268) ∨ ∃ (L : List yK) (cp : Nat) (b : Nat → Nat), s = Sum.inr L ∧ V1 12 2 = -1 ∧ ((zf_rfs (zp_set V 11 1 0) (-5)).1) = V 1 14 ∧ (∀ a t, u.1 a = some t → u.1 a = some t) ∧ zNT u.1 u.1 Ga268 cp b L ∧ zMVc A Y F (zf_ans (zp_set (zp_set (zp_set V1 11 1 0) 40 (2000 + (V 1 14).toNat) (cp : Int)) 1 14 (V 1 14 + 1)) (V 1 14)).2 u.1 Ga268))
    exact Or.inl ⟨by omega, rfl, hrvξ, ⟨Ma268, hMa268ξ, hVa268ξ, trivial⟩⟩
