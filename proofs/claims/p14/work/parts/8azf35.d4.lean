/-! part d4: the class's reader: clauses, the whole text -/
/-- a piece of code with its end: worth x -/
noncomputable def zXp (C : Nat → Int) (N : Nat) (w : Bool) (s : Int) (x : yD) : Prop := ∃ (b e k f : Nat), s = (b : Int) ∧ e + 2 ≤ N ∧ k ≤ 50 ∧ yG w C f b e k x ∧ C e = 0
theorem zXp_c {C C' : Nat → Int} {N N' : Nat} {w : Bool} {s : Int} {x : yD} (h : zXp C N w s x) (hN : N ≤ N') (hc : ∀ j, j < N → C' j = C j) : zXp C' N' w s x := by
  obtain ⟨b, e, k, f, h1, h2, h3, h4, h5⟩ := h
  exact ⟨b, e, k, f, h1, by omega, h3, yG_c (fun j j1 j2 => hc j (by omega)) h4, (hc e (by omega)).trans h5⟩
theorem zXp_m {w : Bool} {b e k : Nat} {C0 C : Nat → Int} {v : Int} {x : yD} (h : yH w b C0 C e k x) (hk : k ≤ 50) : zXp (yh C e 0 v) (e + 2) w (b : Int) x := by
  obtain ⟨h1, f, h2⟩ := h
  exact ⟨b, e, k, f, rfl, Nat.le_refl _, hk, yG_c (fun j j1 j2 => yh_ne j2) h2, yh_0⟩
/-- a clause: kinds, sums, seconds, times, tests -/
noncomputable def zXc (A : Nat → Nat → Int) (C : Nat → Int) (N : Nat) (w : Bool) (c : Nat) (K : yK) : Prop := (A 0 c = K.1 ∧ 0 ≤ K.1 ∧ K.1 ≤ 4) ∧ ((K.2.1 = none ∧ A 1 c = -1) ∨ ∃ x, K.2.1 = some x ∧ zXp C N w (A 1 c) x) ∧ ((K.2.2.1 = none ∧ A 2 c = -1) ∨ ∃ x, K.2.2.1 = some x ∧ zXp C N w (A 2 c) x) ∧ A 3 c = K.2.2.2.1 ∧ ((K.2.2.2.2 = none ∧ A 4 c = -1) ∨ ∃ x, K.2.2.2.2 = some x ∧ zXp C N w (A 4 c) x ∧ yd_T x)
theorem zXc_c {A A' : Nat → Nat → Int} {C C' : Nat → Int} {N N' : Nat} {w : Bool} {c : Nat} {K : yK} (h : zXc A C N w c K) (hA : ∀ i, i < 5 → A' i c = A i c) (hN : N ≤ N') (hc : ∀ j, j < N → C' j = C j) : zXc A' C' N' w c K := by
  obtain ⟨h1, h2, h3, h4, h5⟩ := h
  unfold zXc
  rw [hA 0 (by decide), hA 1 (by decide), hA 2 (by decide), hA 3 (by decide), hA 4 (by decide)]
  refine ⟨h1, ?_, ?_, h4, ?_⟩
  · rcases h2 with h | ⟨x, g1, g2⟩
    · exact Or.inl h
    · exact Or.inr ⟨x, g1, zXp_c g2 hN hc⟩
  · rcases h3 with h | ⟨x, g1, g2⟩
    · exact Or.inl h
    · exact Or.inr ⟨x, g1, zXp_c g2 hN hc⟩
  · rcases h5 with h | ⟨x, g1, g2, g3⟩
    · exact Or.inl h
    · exact Or.inr ⟨x, g1, zXp_c g2 hN hc, g3⟩
noncomputable def zXs (A : Nat → Nat → Int) (C : Nat → Int) (N : Nat) (w : Bool) : Nat → List yK → Prop
  | _, [] => True
  | c, K :: r => zXc A C N w c K ∧ zXs A C N w (c + 1) r
theorem zXs_c {A A' : Nat → Nat → Int} {C C' : Nat → Int} {N N' : Nat} {w : Bool} (hN : N ≤ N') (hc : ∀ j, j < N → C' j = C j) : ∀ {L : List yK} {c : Nat}, zXs A C N w c L → (∀ i j, i < 5 → c ≤ j → j < c + L.length → A' i j = A i j) → zXs A' C' N' w c L
  | [], _, _, _ => trivial
  | K :: r, c, h, hA => by
    have e : (K :: r).length = r.length + 1 := rfl
    exact ⟨zXc_c h.1 (fun i hi => hA i c hi (Nat.le_refl _) (by omega)) hN hc, zXs_c hN hc h.2 (fun i j hi j1 j2 => hA i j hi (by omega) (by omega))⟩
theorem zXs_app {A : Nat → Nat → Int} {C : Nat → Int} {N : Nat} {w : Bool} {K : yK} : ∀ {L : List yK} {c : Nat}, zXs A C N w c L → zXc A C N w (c + L.length) K → zXs A C N w c (L ++ [K])
  | [], c, _, h => ⟨h, trivial⟩
  | K' :: r, c, h, hK => by
    have e : (K' :: r).length = r.length + 1 := rfl
    refine ⟨h.1, zXs_app h.2 ?_⟩
    rw [show c + 1 + r.length = c + (K' :: r).length by omega]
    exact hK
/-- the clauses' arrays of the text x -/
noncomputable def zU (P : Nat → Option Nat) (x : Nat) (G : Nat → Nat → Int) (bb : Nat → Nat) (cl : Nat) : Prop := G x 6 = (cl : Int) ∧ cl ≤ 12 ∧ ∀ i : Nat, i < 5 → G x i = (bb i : Int) ∧ P (bb i) = some (30 + i)
theorem zU_fr {P : Nat → Option Nat} {x : Nat} {G G' : Nat → Nat → Int} {bb : Nat → Nat} {cl cl' : Nat} {E : List (Nat × Nat × Nat)} {ps : List Int} (h : zU P x G bb cl) (px : P x = some 8) (hfr : zp_fr E ps P G G') (he : (zp_nfb E 8 0 && (zp_nfb E 8 1 && (zp_nfb E 8 2 && (zp_nfb E 8 3 && zp_nfb E 8 4)))) = true) (h6 : G' x 6 = (cl' : Int)) (hc : cl' ≤ 12) : zU P x G' bb cl' := by
  simp only [Bool.and_eq_true] at he
  obtain ⟨f0, f1, f2, f3, f4⟩ := he
  refine ⟨h6, hc, fun i hi => ⟨?_, (h.2.2 i hi).2⟩⟩
  have hi5 : i = 0 ∨ i = 1 ∨ i = 2 ∨ i = 3 ∨ i = 4 := by omega
  rcases hi5 with rfl | rfl | rfl | rfl | rfl
  · exact (zp_nf hfr px f0).trans (h.2.2 0 hi).1
  · exact (zp_nf hfr px f1).trans (h.2.2 1 hi).1
  · exact (zp_nf hfr px f2).trans (h.2.2 2 hi).1
  · exact (zp_nf hfr px f3).trans (h.2.2 3 hi).1
  · exact (zp_nf hfr px f4).trans (h.2.2 4 hi).1
noncomputable def zφ_ws1 (t x b cd : Nat) (B : Nat → Int) (ln tk nl : Nat) (C : Nat → Int) (sz uu : Nat) (ord : Bool) (bb : Nat → Nat) (cl : Nat) : (Nat → Option Nat) → (Nat → Nat → Int) → List Int → Prop := fun P G ps => zT P (zp_0 ps) t x b cd G B ln tk nl C sz ord ∧ zU P x G bb (cl + 1) ∧ sz + (uu + 2) ≤ 2 * zy_fr B ln tk + 72 ∧ ps.getD 1 0 = (bb 1 : Int)
noncomputable def zψ_ws1 (t x b cd : Nat) (B : Nat → Int) (ln tk nl : Nat) (C : Nat → Int) (sz uu : Nat) (ord : Bool) (bb : Nat → Nat) (cl : Nat) : (Nat → Option Nat) → (Nat → Nat → Int) → List Int → (Nat → Option Nat) → (Nat → Nat → Int) → Int → Prop := fun P G ps P' G' rn => P' = P ∧ ∃ s, yt_su (zy_so B ln) (zy_wo B ln) (zy_to B ln) (ylf ord B ln) tk nl s ∧ ((∃ q, s = Sum.inl q ∧ rn = 0 ∧ ∃ (nl' : Nat) (C' : Nat → Int) (sz' : Nat), zT P (zp_0 ps) t x b cd G' B ln q nl' C' sz' ord) ∨ ∃ (p1 n1 : Nat) (y : yD) (C' : Nat → Int) (sz' : Nat), s = Sum.inr (p1, n1, some y) ∧ rn = 1 ∧ zT P (zp_0 ps) t x b cd G' B ln p1 n1 C' sz' ord ∧ zU P x G' bb (cl + 1) ∧ sz' + uu ≤ 2 * zy_fr B ln p1 + 72 ∧ zy_fr B ln tk + 1 ≤ zy_fr B ln p1 ∧ sz ≤ sz' ∧ (∀ j, j < sz → C' j = C j) ∧ (∀ j, j ≠ cl → G' (bb 1) (2000 + j) = G (bb 1) (2000 + j)) ∧ zXp C' sz' ord (G' (bb 1) (2000 + cl)) y)
noncomputable def zK_ws1 : zk_K := (zt_mn 59, prog_7_method_7_code, 2, (Option.some Jvm.ClassFile.FieldType.boolean), 1, 5, [(2, 5, 0, 0), (2, 31, 0, 0)], [(some (0, 0, 0, 1), [])], [(5, 4, 0), (7, 3, 0), (7, 5, 0), (7, 2, 0), (7, 4, 0), (35, 1001, 0), (8, 7, 0), (31, 1001, 0)], (37, 885, 0, 0))
theorem zX_ws1 {l : Launch} {w : zk_W} (hW : zh_W w) (t x b cd : Nat) (B : Nat → Int) (ln tk nl : Nat) (C : Nat → Int) (sz uu : Nat) (ord : Bool) (bb : Nat → Nat) (cl : Nat) : zk_metX l w zt_dv zt_TB zK_ws1 (zp_A (zφ_ws1 t x b cd B ln tk nl C sz uu ord bb cl)) (zp_B (zψ_ws1 t x b cd B ln tk nl C sz uu ord bb cl)) ∧ zk_cok w zt_TB zK_ws1 := by
  refine zp_methX (cn := "WoundTown$Reader") zp_lkallRd hW (pl := 790) rfl (by decide +kernel) (fun p e R s m args below meth c Q u hx hb hE hQ hU5 heff hnL hok hφ => ?_)
  have hw := hW.1
  obtain ⟨p0, p1, hps, k0, k1⟩ := zp_ps2 hok
  obtain ⟨a, rfl, hp⟩ := zp_this k0
  have hrm : zk_Kr (zk_ev (zt_types, zp_lkRd, zt_dv, [], [], zp_lcRd, zK_ws1)) = zk_Kr zK_ws1 := rfl
  rw [hps] at hφ ⊢
  show zp_J p l e R s m args below meth c Q w u [] 0 [(0, 2, (a : Int)), (1, 2, p1)] [] u.1 (zp_n u.2.1)
  have hφ : zT u.1 a t x b cd (zp_n u.2.1) B ln tk nl C sz ord ∧ zU u.1 x (zp_n u.2.1) bb (cl + 1) ∧ sz + (uu + 2) ≤ 2 * zy_fr B ln tk + 72 ∧ p1 = (bb 1 : Int) := hφ
  obtain ⟨hT, hU0, hu, hr9⟩ := hφ
  subst hr9
  have hX := hT
  obtain ⟨⟨⟨pa, pt, px, pb, pc⟩, -, -, -⟩, -⟩ := hX
  have hT0 : zT u.1 a t x b cd (zp_n u.2.1) B ln tk nl C sz ord := hT
  have hX0 := hT0
  obtain ⟨⟨-, ga00, ga10, gx50⟩, hTt0, ⟨ga30, ga40, hnl0⟩, gx70, hsz0, hC0⟩ := hX0
  have hf0 := zTt_f hTt0
  obtain ⟨r1, hr1⟩ : ∃ y : Nat, y = bb 1 := ⟨_, rfl⟩
  have qr1 : u.1 r1 = some 31 := by
    rw [hr1]
    exact (hU0.2.2 1 (by decide)).2
  rw [← hr1]
  have hcl : cl < 12 := by have := hU0.2.1; omega
  refine zp_load (pc := 0) hx hb (zd_X5_wholeSum (0, .aload_n 0, 1, 0, []) (List.mem_of_getElem? (i := 0) rfl)) rfl (j := 0) rfl ?_
  refine zp_getf (n := (x : Int)) (pc := 1) hx hb hE hw (zd_X5_wholeSum (1, .getfield 16, 3, 0, []) (List.mem_of_getElem? (i := 1) rfl)) (j := 10) rfl rfl rfl hp ga10 ?_
  refine zp_load (pc := 4) hx hb (zd_X5_wholeSum (4, .aload_n 1, 1, 0, []) (List.mem_of_getElem? (i := 2) rfl)) rfl (j := 1) rfl ?_
  refine zp_load (pc := 5) hx hb (zd_X5_wholeSum (5, .aload_n 0, 1, 0, []) (List.mem_of_getElem? (i := 3) rfl)) rfl (j := 0) rfl ?_
  refine zp_getf (n := (x : Int)) (pc := 6) hx hb hE hw (zd_X5_wholeSum (6, .getfield 16, 3, 0, []) (List.mem_of_getElem? (i := 4) rfl)) (j := 10) rfl rfl rfl hp ga10 ?_
  refine zp_getf (n := (sz : Int)) (pc := 9) hx hb hE hw (zd_X5_wholeSum (9, .getfield 117, 3, 0, []) (List.mem_of_getElem? (i := 5) rfl)) (j := 8) rfl rfl rfl px gx70 ?_
  refine zp_call (pc := 12) (how := 0) (idx := 108) (mi := 60) (S := []) hx hb hE hw heff hrm (zX_vt31 hW r1 cl) rfl (j := 8) rfl rfl (by decide +kernel) (zd_X5_wholeSum (12, .invokevirtual 108, 3, 0, []) (List.mem_of_getElem? (i := 6) rfl)) [(x : Int), (r1 : Int), (sz : Int)] rfl ⟨zp_o2 px, zp_o2 qr1, zp_o0 (by omega) (by omega) (by omega) (by omega), trivial⟩ (Nat.le_of_ble_eq_true rfl) ⟨rfl, hU0.1, by omega⟩ (fun al hal rnt27 Pt27 Gt27 hextt27 hfrt27 hokt27 hcst27 hpsit27 => ?_)
  obtain rfl := List.mem_singleton.mp hal
  obtain ⟨rfl, htvt27, htot27⟩ := hpsit27
  have hTt27 : zT u.1 a t x b cd Gt27 B ln tk nl C sz ord := zT_fr hT0 hfrt27 rfl
  have hXt27 := hTt27
  obtain ⟨⟨-, ga0t27, ga1t27, gx5t27⟩, hTtt27, ⟨ga3t27, ga4t27, hnlt27⟩, gx7t27, hszt27, hCt27⟩ := hXt27
  have hft27 := zTt_f hTtt27
  have hUt27 : zU u.1 x Gt27 bb (cl + 1) := zU_fr hU0 px hfrt27 rfl ((zp_nf hfrt27 px rfl).trans hU0.1) (by omega)
  refine zp_load (pc := 15) hx hb (zd_X5_wholeSum (15, .aload_n 0, 1, 0, []) (List.mem_of_getElem? (i := 7) rfl)) rfl (j := 0) rfl ?_
  refine zp_const (pc := 16) hx hb (zd_X5_wholeSum (16, .iconst 0, 1, 0, []) (List.mem_of_getElem? (i := 8) rfl)) rfl rfl ?_
  refine zp_call (pc := 17) (how := 0) (idx := 126) (mi := 61) (S := []) hx hb hE hw heff hrm ((zX_uall hW 8 0 rfl).1 t x b cd B ln tk nl C sz (uu + 2) ord yx0) rfl (j := 9) rfl rfl (by decide +kernel) (zd_X5_wholeSum (17, .invokevirtual 126, 3, 0, []) (List.mem_of_getElem? (i := 9) rfl)) [(a : Int), 0] rfl ⟨zp_o2 hp, zp_o0 (by decide) (by decide) (by decide) (by decide), trivial⟩ (Nat.le_of_ble_eq_true rfl) ⟨hTt27, rfl, by omega⟩ (fun al hal rnr28 Pr28 Gr28 hextr28 hfrr28 hokr28 hcsr28 hpsir28 => ?_)
  obtain rfl := List.mem_singleton.mp hal
  have hrr28 := zp_int (hokr28 _ rfl).1
  obtain ⟨rfl, sr28, hsr28, htr28⟩ := hpsir28
  rcases sr28 with qr28 | ⟨pr28, nr28, yr28⟩
  · obtain ⟨hzr28, nlr28, Cr28, szr28, hTr28⟩ : rnr28 = 0 ∧ ∃ (nl' : Nat) (C' : Nat → Int) (sz' : Nat), zT u.1 a t x b cd Gr28 B ln qr28 nl' C' sz' ord := htr28
    subst hzr28
    refine zp_if (pc := 20) (tgt := 25) hx hb (zd_X5_wholeSum (20, .ifCond .ne 5, 3, 0, []) (List.mem_of_getElem? (i := 10) rfl)) rfl (fun (hc29 : ¬ 0 = 0) => ?_) (fun (hc29 : ¬ (¬ 0 = 0)) => ?_)
    · exfalso
      omega
    · refine zp_const (pc := 23) hx hb (zd_X5_wholeSum (23, .iconst 0, 1, 0, []) (List.mem_of_getElem? (i := 11) rfl)) rfl rfl ?_
      refine zp_zret (pc := 24) (n := 0) hx hb hE hQ hU5 rfl (by decide) (zd_X5_wholeSum (24, .ireturn, 1, 0, []) (List.mem_of_getElem? (i := 12) rfl)) (j := 0) rfl (zp_o0 (by omega) (by omega) (by omega) (by omega)) ?_
      rw [hps]
      exact ⟨rfl, Sum.inl qr28, ⟨_, hsr28, Or.inl ⟨_, rfl, rfl⟩⟩, Or.inl ⟨_, rfl, rfl, _, _, _, hTr28⟩⟩
  · obtain ⟨hzr28, hyr28, kr28, Cr28, szr28, hnr28, hTTr28, hHr28, hur28, hf9r28⟩ : rnr28 = 1 ∧ (_ → yd_T yr28) ∧ ∃ (k : Nat) (C' : Nat → Int) (sz' : Nat), nr28 = nl + k ∧ zT u.1 a t x b cd Gr28 B ln pr28 nr28 C' sz' ord ∧ yH ord sz C C' sz' k yr28 ∧ sz' + (uu + 2) ≤ 2 * zy_fr B ln pr28 + 72 ∧ zy_fr B ln tk + 1 ≤ zy_fr B ln pr28 := htr28
    subst hzr28
    obtain rfl : nr28 = nl + kr28 := by omega
    have hTr28 : zT u.1 a t x b cd Gr28 B ln pr28 (nl + kr28) Cr28 szr28 ord := hTTr28
    have hXr28 := hTr28
    obtain ⟨⟨-, ga0r28, ga1r28, gx5r28⟩, hTtr28, ⟨ga3r28, ga4r28, hnlr28⟩, gx7r28, hszr28, hCr28⟩ := hXr28
    have hfr28 := zTt_f hTtr28
    have hUr28 : zU u.1 x Gr28 bb (cl + 1) := zU_fr hUt27 px hfrr28 rfl ((zp_nf hfrr28 px rfl).trans hUt27.1) (by omega)
    refine zp_if (pc := 20) (tgt := 25) hx hb (zd_X5_wholeSum (20, .ifCond .ne 5, 3, 0, []) (List.mem_of_getElem? (i := 10) rfl)) rfl (fun (hc30 : ¬ 1 = 0) => ?_) (fun (hc30 : ¬ (¬ 1 = 0)) => ?_)
    · refine zp_load (pc := 25) hx hb (zd_X5_wholeSum (25, .aload_n 0, 1, 0, []) (List.mem_of_getElem? (i := 13) rfl)) rfl (j := 0) rfl ?_
      refine zp_getf (n := (x : Int)) (pc := 26) hx hb hE hw (zd_X5_wholeSum (26, .getfield 16, 3, 0, []) (List.mem_of_getElem? (i := 14) rfl)) (j := 10) rfl rfl rfl hp ga1r28 ?_
      refine zp_const (pc := 29) hx hb (zd_X5_wholeSum (29, .iconst 0, 1, 0, []) (List.mem_of_getElem? (i := 15) rfl)) rfl rfl ?_
      refine zp_const (pc := 30) hx hb (zd_X5_wholeSum (30, .iconst 0, 1, 0, []) (List.mem_of_getElem? (i := 16) rfl)) rfl rfl ?_
      refine zp_call (pc := 31) (how := 0) (idx := 123) (mi := 66) (S := []) hx hb hE hw heff hrm (zX_vad hW cd szr28 Cr28) rfl (j := 14) rfl rfl (by decide +kernel) (zd_X5_wholeSum (31, .invokevirtual 123, 3, 0, []) (List.mem_of_getElem? (i := 17) rfl)) [(x : Int), 0, 0] rfl ⟨zp_o2 px, zp_o0 (by decide) (by decide) (by decide) (by decide), zp_o0 (by decide) (by decide) (by decide) (by decide), trivial⟩ (Nat.le_of_ble_eq_true rfl) ⟨⟨gx7r28, by omega⟩, gx5r28, pc, hCr28⟩ (fun al hal rna31 Pa31 Ga31 hexta31 hfra31 hoka31 hcsa31 hpsia31 => ?_)
      obtain rfl := List.mem_singleton.mp hal
      have hra31 := zp_int (hoka31 _ rfl).1
      obtain ⟨rfl, htra31, ht7a31, htca31⟩ := hpsia31
      have hTa31 : zT u.1 a t x b cd Ga31 B ln pr28 (nl + kr28) (yh Cr28 szr28 0 0) (szr28 + 2) ord := zT_ad hTr28 hfra31 ht7a31 (by omega) htca31
      have hXa31 := hTa31
      obtain ⟨⟨-, ga0a31, ga1a31, gx5a31⟩, hTta31, ⟨ga3a31, ga4a31, hnla31⟩, gx7a31, hsza31, hCa31⟩ := hXa31
      have hfa31 := zTt_f hTta31
      have hUa31 : zU u.1 x Ga31 bb (cl + 1) := zU_fr hUr28 px hfra31 rfl ((zp_nf hfra31 px rfl).trans hUr28.1) (by omega)
      refine zp_pop (pc := 34) hx hb (zd_X5_wholeSum (34, .pop, 1, 0, []) (List.mem_of_getElem? (i := 18) rfl)) (show (0 : Nat) ≠ 1 by decide) ?_
      refine zp_const (pc := 35) hx hb (zd_X5_wholeSum (35, .iconst 1, 1, 0, []) (List.mem_of_getElem? (i := 19) rfl)) rfl rfl ?_
      refine zp_zret (pc := 36) (n := 1) hx hb hE hQ hU5 rfl (by decide) (zd_X5_wholeSum (36, .ireturn, 1, 0, []) (List.mem_of_getElem? (i := 20) rfl)) (j := 0) rfl (zp_o0 (by omega) (by omega) (by omega) (by omega)) ?_
      rw [hps]
      have hk50 : kr28 ≤ 50 := by have := hnlr28; omega
      have hrow : ∀ j, Ga31 r1 (2000 + j) = Gt27 r1 (2000 + j) := fun j => (zp_nc hfra31 qr1 rfl _).trans (zp_nc hfrr28 qr1 rfl _)
      refine ⟨rfl, Sum.inr (pr28, _, some yr28), ⟨_, hsr28, Or.inr ⟨_, _, _, rfl, rfl⟩⟩, Or.inr ⟨_, _, yr28, _, _, rfl, rfl, hTa31, hUa31, by omega, by omega, by have := yH_lt hHr28; omega, fun j hj => ?_, fun j hj => ?_, ?_⟩⟩
      · exact (yh_ne (by have := yH_lt hHr28; omega)).trans (hHr28.1 j hj)
      · rw [← hr1]
        exact (hrow j).trans (htot27 j hj)
      · rw [← hr1, hrow cl, show Gt27 r1 (2000 + cl) = (sz : Int) from htvt27]
        exact zXp_m hHr28 hk50
    · exfalso
      omega
noncomputable def zφ_ws2 (t x b cd : Nat) (B : Nat → Int) (ln tk nl : Nat) (C : Nat → Int) (sz uu : Nat) (ord : Bool) (bb : Nat → Nat) (cl : Nat) : (Nat → Option Nat) → (Nat → Nat → Int) → List Int → Prop := fun P G ps => zT P (zp_0 ps) t x b cd G B ln tk nl C sz ord ∧ zU P x G bb (cl + 1) ∧ sz + (uu + 2) ≤ 2 * zy_fr B ln tk + 72 ∧ ps.getD 1 0 = (bb 2 : Int)
noncomputable def zψ_ws2 (t x b cd : Nat) (B : Nat → Int) (ln tk nl : Nat) (C : Nat → Int) (sz uu : Nat) (ord : Bool) (bb : Nat → Nat) (cl : Nat) : (Nat → Option Nat) → (Nat → Nat → Int) → List Int → (Nat → Option Nat) → (Nat → Nat → Int) → Int → Prop := fun P G ps P' G' rn => P' = P ∧ ∃ s, yt_su (zy_so B ln) (zy_wo B ln) (zy_to B ln) (ylf ord B ln) tk nl s ∧ ((∃ q, s = Sum.inl q ∧ rn = 0 ∧ ∃ (nl' : Nat) (C' : Nat → Int) (sz' : Nat), zT P (zp_0 ps) t x b cd G' B ln q nl' C' sz' ord) ∨ ∃ (p1 n1 : Nat) (y : yD) (C' : Nat → Int) (sz' : Nat), s = Sum.inr (p1, n1, some y) ∧ rn = 1 ∧ zT P (zp_0 ps) t x b cd G' B ln p1 n1 C' sz' ord ∧ zU P x G' bb (cl + 1) ∧ sz' + uu ≤ 2 * zy_fr B ln p1 + 72 ∧ zy_fr B ln tk + 1 ≤ zy_fr B ln p1 ∧ sz ≤ sz' ∧ (∀ j, j < sz → C' j = C j) ∧ (∀ j, j ≠ cl → G' (bb 2) (2000 + j) = G (bb 2) (2000 + j)) ∧ zXp C' sz' ord (G' (bb 2) (2000 + cl)) y)
noncomputable def zK_ws2 : zk_K := (zt_mn 59, prog_7_method_7_code, 2, (Option.some Jvm.ClassFile.FieldType.boolean), 1, 5, [(2, 5, 0, 0), (2, 32, 0, 0)], [(some (0, 0, 0, 1), [])], [(5, 4, 0), (7, 3, 0), (7, 5, 0), (7, 2, 0), (7, 4, 0), (35, 1001, 0), (8, 7, 0), (32, 1001, 0)], (37, 885, 0, 0))
theorem zX_ws2 {l : Launch} {w : zk_W} (hW : zh_W w) (t x b cd : Nat) (B : Nat → Int) (ln tk nl : Nat) (C : Nat → Int) (sz uu : Nat) (ord : Bool) (bb : Nat → Nat) (cl : Nat) : zk_metX l w zt_dv zt_TB zK_ws2 (zp_A (zφ_ws2 t x b cd B ln tk nl C sz uu ord bb cl)) (zp_B (zψ_ws2 t x b cd B ln tk nl C sz uu ord bb cl)) ∧ zk_cok w zt_TB zK_ws2 := by
  refine zp_methX (cn := "WoundTown$Reader") zp_lkallRd hW (pl := 790) rfl (by decide +kernel) (fun p e R s m args below meth c Q u hx hb hE hQ hU5 heff hnL hok hφ => ?_)
  have hw := hW.1
  obtain ⟨p0, p1, hps, k0, k1⟩ := zp_ps2 hok
  obtain ⟨a, rfl, hp⟩ := zp_this k0
  have hrm : zk_Kr (zk_ev (zt_types, zp_lkRd, zt_dv, [], [], zp_lcRd, zK_ws2)) = zk_Kr zK_ws2 := rfl
  rw [hps] at hφ ⊢
  show zp_J p l e R s m args below meth c Q w u [] 0 [(0, 2, (a : Int)), (1, 2, p1)] [] u.1 (zp_n u.2.1)
  have hφ : zT u.1 a t x b cd (zp_n u.2.1) B ln tk nl C sz ord ∧ zU u.1 x (zp_n u.2.1) bb (cl + 1) ∧ sz + (uu + 2) ≤ 2 * zy_fr B ln tk + 72 ∧ p1 = (bb 2 : Int) := hφ
  obtain ⟨hT, hU0, hu, hr9⟩ := hφ
  subst hr9
  have hX := hT
  obtain ⟨⟨⟨pa, pt, px, pb, pc⟩, -, -, -⟩, -⟩ := hX
  have hT0 : zT u.1 a t x b cd (zp_n u.2.1) B ln tk nl C sz ord := hT
  have hX0 := hT0
  obtain ⟨⟨-, ga00, ga10, gx50⟩, hTt0, ⟨ga30, ga40, hnl0⟩, gx70, hsz0, hC0⟩ := hX0
  have hf0 := zTt_f hTt0
  obtain ⟨r2, hr2⟩ : ∃ y : Nat, y = bb 2 := ⟨_, rfl⟩
  have qr2 : u.1 r2 = some 32 := by
    rw [hr2]
    exact (hU0.2.2 2 (by decide)).2
  rw [← hr2]
  have hcl : cl < 12 := by have := hU0.2.1; omega
  refine zp_load (pc := 0) hx hb (zd_X5_wholeSum (0, .aload_n 0, 1, 0, []) (List.mem_of_getElem? (i := 0) rfl)) rfl (j := 0) rfl ?_
  refine zp_getf (n := (x : Int)) (pc := 1) hx hb hE hw (zd_X5_wholeSum (1, .getfield 16, 3, 0, []) (List.mem_of_getElem? (i := 1) rfl)) (j := 10) rfl rfl rfl hp ga10 ?_
  refine zp_load (pc := 4) hx hb (zd_X5_wholeSum (4, .aload_n 1, 1, 0, []) (List.mem_of_getElem? (i := 2) rfl)) rfl (j := 1) rfl ?_
  refine zp_load (pc := 5) hx hb (zd_X5_wholeSum (5, .aload_n 0, 1, 0, []) (List.mem_of_getElem? (i := 3) rfl)) rfl (j := 0) rfl ?_
  refine zp_getf (n := (x : Int)) (pc := 6) hx hb hE hw (zd_X5_wholeSum (6, .getfield 16, 3, 0, []) (List.mem_of_getElem? (i := 4) rfl)) (j := 10) rfl rfl rfl hp ga10 ?_
  refine zp_getf (n := (sz : Int)) (pc := 9) hx hb hE hw (zd_X5_wholeSum (9, .getfield 117, 3, 0, []) (List.mem_of_getElem? (i := 5) rfl)) (j := 8) rfl rfl rfl px gx70 ?_
  refine zp_call (pc := 12) (how := 0) (idx := 108) (mi := 60) (S := []) hx hb hE hw heff hrm (zX_vt32 hW r2 cl) rfl (j := 8) rfl rfl (by decide +kernel) (zd_X5_wholeSum (12, .invokevirtual 108, 3, 0, []) (List.mem_of_getElem? (i := 6) rfl)) [(x : Int), (r2 : Int), (sz : Int)] rfl ⟨zp_o2 px, zp_o2 qr2, zp_o0 (by omega) (by omega) (by omega) (by omega), trivial⟩ (Nat.le_of_ble_eq_true rfl) ⟨rfl, hU0.1, by omega⟩ (fun al hal rnt32 Pt32 Gt32 hextt32 hfrt32 hokt32 hcst32 hpsit32 => ?_)
  obtain rfl := List.mem_singleton.mp hal
  obtain ⟨rfl, htvt32, htot32⟩ := hpsit32
  have hTt32 : zT u.1 a t x b cd Gt32 B ln tk nl C sz ord := zT_fr hT0 hfrt32 rfl
  have hXt32 := hTt32
  obtain ⟨⟨-, ga0t32, ga1t32, gx5t32⟩, hTtt32, ⟨ga3t32, ga4t32, hnlt32⟩, gx7t32, hszt32, hCt32⟩ := hXt32
  have hft32 := zTt_f hTtt32
  have hUt32 : zU u.1 x Gt32 bb (cl + 1) := zU_fr hU0 px hfrt32 rfl ((zp_nf hfrt32 px rfl).trans hU0.1) (by omega)
  refine zp_load (pc := 15) hx hb (zd_X5_wholeSum (15, .aload_n 0, 1, 0, []) (List.mem_of_getElem? (i := 7) rfl)) rfl (j := 0) rfl ?_
  refine zp_const (pc := 16) hx hb (zd_X5_wholeSum (16, .iconst 0, 1, 0, []) (List.mem_of_getElem? (i := 8) rfl)) rfl rfl ?_
  refine zp_call (pc := 17) (how := 0) (idx := 126) (mi := 61) (S := []) hx hb hE hw heff hrm ((zX_uall hW 8 0 rfl).1 t x b cd B ln tk nl C sz (uu + 2) ord yx0) rfl (j := 9) rfl rfl (by decide +kernel) (zd_X5_wholeSum (17, .invokevirtual 126, 3, 0, []) (List.mem_of_getElem? (i := 9) rfl)) [(a : Int), 0] rfl ⟨zp_o2 hp, zp_o0 (by decide) (by decide) (by decide) (by decide), trivial⟩ (Nat.le_of_ble_eq_true rfl) ⟨hTt32, rfl, by omega⟩ (fun al hal rnr33 Pr33 Gr33 hextr33 hfrr33 hokr33 hcsr33 hpsir33 => ?_)
  obtain rfl := List.mem_singleton.mp hal
  have hrr33 := zp_int (hokr33 _ rfl).1
  obtain ⟨rfl, sr33, hsr33, htr33⟩ := hpsir33
  rcases sr33 with qr33 | ⟨pr33, nr33, yr33⟩
  · obtain ⟨hzr33, nlr33, Cr33, szr33, hTr33⟩ : rnr33 = 0 ∧ ∃ (nl' : Nat) (C' : Nat → Int) (sz' : Nat), zT u.1 a t x b cd Gr33 B ln qr33 nl' C' sz' ord := htr33
    subst hzr33
    refine zp_if (pc := 20) (tgt := 25) hx hb (zd_X5_wholeSum (20, .ifCond .ne 5, 3, 0, []) (List.mem_of_getElem? (i := 10) rfl)) rfl (fun (hc34 : ¬ 0 = 0) => ?_) (fun (hc34 : ¬ (¬ 0 = 0)) => ?_)
    · exfalso
      omega
    · refine zp_const (pc := 23) hx hb (zd_X5_wholeSum (23, .iconst 0, 1, 0, []) (List.mem_of_getElem? (i := 11) rfl)) rfl rfl ?_
      refine zp_zret (pc := 24) (n := 0) hx hb hE hQ hU5 rfl (by decide) (zd_X5_wholeSum (24, .ireturn, 1, 0, []) (List.mem_of_getElem? (i := 12) rfl)) (j := 0) rfl (zp_o0 (by omega) (by omega) (by omega) (by omega)) ?_
      rw [hps]
      exact ⟨rfl, Sum.inl qr33, ⟨_, hsr33, Or.inl ⟨_, rfl, rfl⟩⟩, Or.inl ⟨_, rfl, rfl, _, _, _, hTr33⟩⟩
  · obtain ⟨hzr33, hyr33, kr33, Cr33, szr33, hnr33, hTTr33, hHr33, hur33, hf9r33⟩ : rnr33 = 1 ∧ (_ → yd_T yr33) ∧ ∃ (k : Nat) (C' : Nat → Int) (sz' : Nat), nr33 = nl + k ∧ zT u.1 a t x b cd Gr33 B ln pr33 nr33 C' sz' ord ∧ yH ord sz C C' sz' k yr33 ∧ sz' + (uu + 2) ≤ 2 * zy_fr B ln pr33 + 72 ∧ zy_fr B ln tk + 1 ≤ zy_fr B ln pr33 := htr33
    subst hzr33
    obtain rfl : nr33 = nl + kr33 := by omega
    have hTr33 : zT u.1 a t x b cd Gr33 B ln pr33 (nl + kr33) Cr33 szr33 ord := hTTr33
    have hXr33 := hTr33
    obtain ⟨⟨-, ga0r33, ga1r33, gx5r33⟩, hTtr33, ⟨ga3r33, ga4r33, hnlr33⟩, gx7r33, hszr33, hCr33⟩ := hXr33
    have hfr33 := zTt_f hTtr33
    have hUr33 : zU u.1 x Gr33 bb (cl + 1) := zU_fr hUt32 px hfrr33 rfl ((zp_nf hfrr33 px rfl).trans hUt32.1) (by omega)
    refine zp_if (pc := 20) (tgt := 25) hx hb (zd_X5_wholeSum (20, .ifCond .ne 5, 3, 0, []) (List.mem_of_getElem? (i := 10) rfl)) rfl (fun (hc35 : ¬ 1 = 0) => ?_) (fun (hc35 : ¬ (¬ 1 = 0)) => ?_)
    · refine zp_load (pc := 25) hx hb (zd_X5_wholeSum (25, .aload_n 0, 1, 0, []) (List.mem_of_getElem? (i := 13) rfl)) rfl (j := 0) rfl ?_
      refine zp_getf (n := (x : Int)) (pc := 26) hx hb hE hw (zd_X5_wholeSum (26, .getfield 16, 3, 0, []) (List.mem_of_getElem? (i := 14) rfl)) (j := 10) rfl rfl rfl hp ga1r33 ?_
      refine zp_const (pc := 29) hx hb (zd_X5_wholeSum (29, .iconst 0, 1, 0, []) (List.mem_of_getElem? (i := 15) rfl)) rfl rfl ?_
      refine zp_const (pc := 30) hx hb (zd_X5_wholeSum (30, .iconst 0, 1, 0, []) (List.mem_of_getElem? (i := 16) rfl)) rfl rfl ?_
      refine zp_call (pc := 31) (how := 0) (idx := 123) (mi := 66) (S := []) hx hb hE hw heff hrm (zX_vad hW cd szr33 Cr33) rfl (j := 14) rfl rfl (by decide +kernel) (zd_X5_wholeSum (31, .invokevirtual 123, 3, 0, []) (List.mem_of_getElem? (i := 17) rfl)) [(x : Int), 0, 0] rfl ⟨zp_o2 px, zp_o0 (by decide) (by decide) (by decide) (by decide), zp_o0 (by decide) (by decide) (by decide) (by decide), trivial⟩ (Nat.le_of_ble_eq_true rfl) ⟨⟨gx7r33, by omega⟩, gx5r33, pc, hCr33⟩ (fun al hal rna36 Pa36 Ga36 hexta36 hfra36 hoka36 hcsa36 hpsia36 => ?_)
      obtain rfl := List.mem_singleton.mp hal
      have hra36 := zp_int (hoka36 _ rfl).1
      obtain ⟨rfl, htra36, ht7a36, htca36⟩ := hpsia36
      have hTa36 : zT u.1 a t x b cd Ga36 B ln pr33 (nl + kr33) (yh Cr33 szr33 0 0) (szr33 + 2) ord := zT_ad hTr33 hfra36 ht7a36 (by omega) htca36
      have hXa36 := hTa36
      obtain ⟨⟨-, ga0a36, ga1a36, gx5a36⟩, hTta36, ⟨ga3a36, ga4a36, hnla36⟩, gx7a36, hsza36, hCa36⟩ := hXa36
      have hfa36 := zTt_f hTta36
      have hUa36 : zU u.1 x Ga36 bb (cl + 1) := zU_fr hUr33 px hfra36 rfl ((zp_nf hfra36 px rfl).trans hUr33.1) (by omega)
      refine zp_pop (pc := 34) hx hb (zd_X5_wholeSum (34, .pop, 1, 0, []) (List.mem_of_getElem? (i := 18) rfl)) (show (0 : Nat) ≠ 1 by decide) ?_
      refine zp_const (pc := 35) hx hb (zd_X5_wholeSum (35, .iconst 1, 1, 0, []) (List.mem_of_getElem? (i := 19) rfl)) rfl rfl ?_
      refine zp_zret (pc := 36) (n := 1) hx hb hE hQ hU5 rfl (by decide) (zd_X5_wholeSum (36, .ireturn, 1, 0, []) (List.mem_of_getElem? (i := 20) rfl)) (j := 0) rfl (zp_o0 (by omega) (by omega) (by omega) (by omega)) ?_
      rw [hps]
      have hk50 : kr33 ≤ 50 := by have := hnlr33; omega
      have hrow : ∀ j, Ga36 r2 (2000 + j) = Gt32 r2 (2000 + j) := fun j => (zp_nc hfra36 qr2 rfl _).trans (zp_nc hfrr33 qr2 rfl _)
      refine ⟨rfl, Sum.inr (pr33, _, some yr33), ⟨_, hsr33, Or.inr ⟨_, _, _, rfl, rfl⟩⟩, Or.inr ⟨_, _, yr33, _, _, rfl, rfl, hTa36, hUa36, by omega, by omega, by have := yH_lt hHr33; omega, fun j hj => ?_, fun j hj => ?_, ?_⟩⟩
      · exact (yh_ne (by have := yH_lt hHr33; omega)).trans (hHr33.1 j hj)
      · rw [← hr2]
        exact (hrow j).trans (htot32 j hj)
      · rw [← hr2, hrow cl, show Gt32 r2 (2000 + cl) = (sz : Int) from htvt32]
        exact zXp_m hHr33 hk50
    · exfalso
      omega
noncomputable def zφ_cnd (t x b cd : Nat) (B : Nat → Int) (ln tk nl : Nat) (C : Nat → Int) (sz uu : Nat) (ord : Bool) (bb : Nat → Nat) (cl : Nat) : (Nat → Option Nat) → (Nat → Nat → Int) → List Int → Prop := fun P G ps => zT P (zp_0 ps) t x b cd G B ln tk nl C sz ord ∧ zU P x G bb (cl + 1) ∧ sz + (uu + 2) ≤ 2 * zy_fr B ln tk + 72
noncomputable def zψ_cnd (t x b cd : Nat) (B : Nat → Int) (ln tk nl : Nat) (C : Nat → Int) (sz uu : Nat) (ord : Bool) (bb : Nat → Nat) (cl : Nat) : (Nat → Option Nat) → (Nat → Nat → Int) → List Int → (Nat → Option Nat) → (Nat → Nat → Int) → Int → Prop := fun P G ps P' G' rn => P' = P ∧ ∃ s, yt_if (zy_so B ln) (zy_wo B ln) (zy_to B ln) (ylf ord B ln) tk nl s ∧ ((∃ q, s = Sum.inl q ∧ rn = 0 ∧ ∃ (nl' : Nat) (C' : Nat → Int) (sz' : Nat), zT P (zp_0 ps) t x b cd G' B ln q nl' C' sz' ord) ∨ ∃ (p1 n1 : Nat) (oy : Option yD) (C' : Nat → Int) (sz' : Nat), s = Sum.inr (p1, n1, oy) ∧ rn = 1 ∧ zT P (zp_0 ps) t x b cd G' B ln p1 n1 C' sz' ord ∧ zU P x G' bb (cl + 1) ∧ sz' + uu ≤ 2 * zy_fr B ln p1 + 72 ∧ zy_fr B ln tk ≤ zy_fr B ln p1 ∧ sz ≤ sz' ∧ (∀ j, j < sz → C' j = C j) ∧ (∀ j, j ≠ cl → G' (bb 4) (2000 + j) = G (bb 4) (2000 + j)) ∧ ((oy = none ∧ G' (bb 4) (2000 + cl) = G (bb 4) (2000 + cl)) ∨ ∃ y, oy = some y ∧ zXp C' sz' ord (G' (bb 4) (2000 + cl)) y ∧ yd_T y))
noncomputable def zK_cnd : zk_K := (zt_mn 70, prog_7_method_6_code, 1, (Option.some Jvm.ClassFile.FieldType.boolean), 1, 5, [(2, 5, 0, 0)], [(some (0, 0, 0, 1), [])], [(5, 4, 0), (7, 3, 0), (7, 5, 0), (7, 2, 0), (7, 4, 0), (35, 1001, 0), (8, 7, 0), (34, 1001, 0)], (48, 1106, 0, 0))
theorem zX_cnd {l : Launch} {w : zk_W} (hW : zh_W w) (t x b cd : Nat) (B : Nat → Int) (ln tk nl : Nat) (C : Nat → Int) (sz uu : Nat) (ord : Bool) (bb : Nat → Nat) (cl : Nat) : zk_metX l w zt_dv zt_TB zK_cnd (zp_A (zφ_cnd t x b cd B ln tk nl C sz uu ord bb cl)) (zp_B (zψ_cnd t x b cd B ln tk nl C sz uu ord bb cl)) ∧ zk_cok w zt_TB zK_cnd := by
  refine zp_methX (cn := "WoundTown$Reader") zp_lkallRd hW (pl := 841) rfl (by decide +kernel) (fun p e R s m args below meth c Q u hx hb hE hQ hU5 heff hnL hok hφ => ?_)
  have hw := hW.1
  obtain ⟨p0, hps, k0⟩ := zp_ps1 hok
  obtain ⟨a, rfl, hp⟩ := zp_this k0
  have hrm : zk_Kr (zk_ev (zt_types, zp_lkRd, zt_dv, [], [], zp_lcRd, zK_cnd)) = zk_Kr zK_cnd := rfl
  rw [hps] at hφ ⊢
  show zp_J p l e R s m args below meth c Q w u [] 0 [(0, 2, (a : Int))] [] u.1 (zp_n u.2.1)
  have hφ : zT u.1 a t x b cd (zp_n u.2.1) B ln tk nl C sz ord ∧ zU u.1 x (zp_n u.2.1) bb (cl + 1) ∧ sz + (uu + 2) ≤ 2 * zy_fr B ln tk + 72 := hφ
  obtain ⟨hT, hU0, hu⟩ := hφ
  have hX := hT
  obtain ⟨⟨⟨pa, pt, px, pb, pc⟩, -, -, -⟩, -⟩ := hX
  have hT0 : zT u.1 a t x b cd (zp_n u.2.1) B ln tk nl C sz ord := hT
  have hX0 := hT0
  obtain ⟨⟨-, ga00, ga10, gx50⟩, hTt0, ⟨ga30, ga40, hnl0⟩, gx70, hsz0, hC0⟩ := hX0
  have hf0 := zTt_f hTt0
  obtain ⟨r4, hr4⟩ : ∃ y : Nat, y = bb 4 := ⟨_, rfl⟩
  have qr4 : u.1 r4 = some 34 := by
    rw [hr4]
    exact (hU0.2.2 4 (by decide)).2
  have hcl : cl < 12 := by have := hU0.2.1; omega
  refine zp_load (pc := 0) hx hb (zd_X5_condition (0, .aload_n 0, 1, 0, []) (List.mem_of_getElem? (i := 0) rfl)) rfl (j := 0) rfl ?_
  refine zp_getf (n := (t : Int)) (pc := 1) hx hb hE hw (zd_X5_condition (1, .getfield 24, 3, 0, []) (List.mem_of_getElem? (i := 1) rfl)) (j := 9) rfl rfl rfl hp ga00 ?_
  refine zp_ldS (pc := 4) hx hb hE (zd_X5_condition (4, .ldc 112, 2, 0, []) (List.mem_of_getElem? (i := 2) rfl)) (j := 22) rfl (fun tx37 qtx37 => ?_)
  refine zp_call (pc := 6) (how := 0) (idx := 90) (mi := 68) (S := []) hx hb hE hw heff hrm (zX_viif hW b B ln tk) rfl (j := 16) rfl rfl (by decide +kernel) (zd_X5_condition (6, .invokevirtual 90, 3, 0, []) (List.mem_of_getElem? (i := 3) rfl)) [(t : Int), (tx37 : Int)] rfl ⟨zp_o2 pt, zp_o2 qtx37, trivial⟩ (Nat.le_of_ble_eq_true rfl) hTt0 (fun al hal rnd38 Pd38 Gd38 hextd38 hfrd38 hokd38 hcsd38 hpsid38 => ?_)
  obtain rfl := List.mem_singleton.mp hal
  have hrd38 := zp_int (hokd38 _ rfl).1
  obtain ⟨hPed38, hGed38, htd38⟩ := hpsid38
  rw [hPed38, hGed38]
  by_cases hkd38 : yr_w (zy_so B ln) (zy_wo B ln) 294 tk = true
  · obtain rfl : rnd38 = 1 := htd38.mpr hkd38
    refine zp_if (pc := 9) (tgt := 14) hx hb (zd_X5_condition (9, .ifCond .ne 5, 3, 0, []) (List.mem_of_getElem? (i := 4) rfl)) rfl (fun (hc39 : ¬ 1 = 0) => ?_) (fun (hc39 : ¬ (¬ 1 = 0)) => ?_)
    · refine zp_load (pc := 14) hx hb (zd_X5_condition (14, .aload_n 0, 1, 0, []) (List.mem_of_getElem? (i := 7) rfl)) rfl (j := 0) rfl ?_
      refine zp_getf (n := (t : Int)) (pc := 15) hx hb hE hw (zd_X5_condition (15, .getfield 24, 3, 0, []) (List.mem_of_getElem? (i := 8) rfl)) (j := 9) rfl rfl rfl hp ga00 ?_
      have hs9 := (zTt_go hTt0).1
      refine zp_call (pc := 18) (how := 0) (idx := 60) (mi := 43) (S := []) hx hb hE hw heff hrm (zX_cnx hW) rfl (j := 6) rfl rfl (by decide +kernel) (zd_X5_condition (18, .invokevirtual 60, 3, 0, []) (List.mem_of_getElem? (i := 9) rfl)) [(t : Int)] rfl ⟨zp_o2 pt, trivial⟩ (Nat.le_of_ble_eq_true rfl) (zTt_q hTt0) (fun al hal rnn40 Pn40 Gn40 hextn40 hfrn40 hokn40 hcsn40 hpsin40 => ?_)
      obtain rfl := List.mem_singleton.mp hal
      obtain ⟨rfl, htn40⟩ := hpsin40
      have hgon40 := zTt_go hTt0
      have hTn40 : zT u.1 a t x b cd Gn40 B ln (zy_to B ln tk) nl C sz ord := zT_nx hT0 hfrn40 htn40
      have hXn40 := hTn40
      obtain ⟨⟨-, ga0n40, ga1n40, gx5n40⟩, hTtn40, ⟨ga3n40, ga4n40, hnln40⟩, gx7n40, hszn40, hCn40⟩ := hXn40
      have hfn40 := zTt_f hTtn40
      have hUn40 : zU u.1 x Gn40 bb (cl + 1) := zU_fr hU0 px hfrn40 rfl ((zp_nf hfrn40 px rfl).trans hU0.1) (by omega)
      refine zp_load (pc := 21) hx hb (zd_X5_condition (21, .aload_n 0, 1, 0, []) (List.mem_of_getElem? (i := 10) rfl)) rfl (j := 0) rfl ?_
      refine zp_getf (n := (x : Int)) (pc := 22) hx hb hE hw (zd_X5_condition (22, .getfield 16, 3, 0, []) (List.mem_of_getElem? (i := 11) rfl)) (j := 10) rfl rfl rfl hp ga1n40 ?_
      refine zp_load (pc := 25) hx hb (zd_X5_condition (25, .aload_n 0, 1, 0, []) (List.mem_of_getElem? (i := 12) rfl)) rfl (j := 0) rfl ?_
      refine zp_getf (n := (x : Int)) (pc := 26) hx hb hE hw (zd_X5_condition (26, .getfield 16, 3, 0, []) (List.mem_of_getElem? (i := 13) rfl)) (j := 10) rfl rfl rfl hp ga1n40 ?_
      refine zp_getf (n := (r4 : Int)) (pc := 29) hx hb hE hw (zd_X5_condition (29, .getfield 114, 3, 0, []) (List.mem_of_getElem? (i := 14) rfl)) (j := 7) rfl rfl rfl px ((hUn40.2.2 4 (by decide)).1.trans (by rw [hr4])) ?_
      refine zp_load (pc := 32) hx hb (zd_X5_condition (32, .aload_n 0, 1, 0, []) (List.mem_of_getElem? (i := 15) rfl)) rfl (j := 0) rfl ?_
      refine zp_getf (n := (x : Int)) (pc := 33) hx hb hE hw (zd_X5_condition (33, .getfield 16, 3, 0, []) (List.mem_of_getElem? (i := 16) rfl)) (j := 10) rfl rfl rfl hp ga1n40 ?_
      refine zp_getf (n := (sz : Int)) (pc := 36) hx hb hE hw (zd_X5_condition (36, .getfield 117, 3, 0, []) (List.mem_of_getElem? (i := 17) rfl)) (j := 8) rfl rfl rfl px gx7n40 ?_
      refine zp_call (pc := 39) (how := 0) (idx := 108) (mi := 60) (S := []) hx hb hE hw heff hrm (zX_vt34 hW r4 cl) rfl (j := 8) rfl rfl (by decide +kernel) (zd_X5_condition (39, .invokevirtual 108, 3, 0, []) (List.mem_of_getElem? (i := 18) rfl)) [(x : Int), (r4 : Int), (sz : Int)] rfl ⟨zp_o2 px, zp_o2 qr4, zp_o0 (by omega) (by omega) (by omega) (by omega), trivial⟩ (Nat.le_of_ble_eq_true rfl) ⟨rfl, hUn40.1, by omega⟩ (fun al hal rnt41 Pt41 Gt41 hextt41 hfrt41 hokt41 hcst41 hpsit41 => ?_)
      obtain rfl := List.mem_singleton.mp hal
      obtain ⟨rfl, htvt41, htot41⟩ := hpsit41
      have hTt41 : zT u.1 a t x b cd Gt41 B ln (zy_to B ln tk) nl C sz ord := zT_fr hTn40 hfrt41 rfl
      have hXt41 := hTt41
      obtain ⟨⟨-, ga0t41, ga1t41, gx5t41⟩, hTtt41, ⟨ga3t41, ga4t41, hnlt41⟩, gx7t41, hszt41, hCt41⟩ := hXt41
      have hft41 := zTt_f hTtt41
      have hUt41 : zU u.1 x Gt41 bb (cl + 1) := zU_fr hUn40 px hfrt41 rfl ((zp_nf hfrt41 px rfl).trans hUn40.1) (by omega)
      refine zp_load (pc := 42) hx hb (zd_X5_condition (42, .aload_n 0, 1, 0, []) (List.mem_of_getElem? (i := 19) rfl)) rfl (j := 0) rfl ?_
      refine zp_const (pc := 43) hx hb (zd_X5_condition (43, .iconst 0, 1, 0, []) (List.mem_of_getElem? (i := 20) rfl)) rfl rfl ?_
      refine zp_call (pc := 44) (how := 0) (idx := 120) (mi := 71) (S := []) hx hb hE hw heff hrm ((zX_uall hW 8 0 rfl).2 t x b cd B ln (zy_to B ln tk) nl C sz (uu + 2) ord yx0) rfl (j := 19) rfl rfl (by decide +kernel) (zd_X5_condition (44, .invokevirtual 120, 3, 0, []) (List.mem_of_getElem? (i := 21) rfl)) [(a : Int), 0] rfl ⟨zp_o2 hp, zp_o0 (by decide) (by decide) (by decide) (by decide), trivial⟩ (Nat.le_of_ble_eq_true rfl) ⟨hTt41, rfl, by omega⟩ (fun al hal rnr42 Pr42 Gr42 hextr42 hfrr42 hokr42 hcsr42 hpsir42 => ?_)
      obtain rfl := List.mem_singleton.mp hal
      have hrr42 := zp_int (hokr42 _ rfl).1
      obtain ⟨rfl, sr42, hsr42, htr42⟩ := hpsir42
      rcases sr42 with qr42 | ⟨pr42, nr42, yr42⟩
      · obtain ⟨hzr42, nlr42, Cr42, szr42, hTr42⟩ : rnr42 = 0 ∧ ∃ (nl' : Nat) (C' : Nat → Int) (sz' : Nat), zT u.1 a t x b cd Gr42 B ln qr42 nl' C' sz' ord := htr42
        subst hzr42
        refine zp_if (pc := 47) (tgt := 52) hx hb (zd_X5_condition (47, .ifCond .ne 5, 3, 0, []) (List.mem_of_getElem? (i := 22) rfl)) rfl (fun (hc43 : ¬ 0 = 0) => ?_) (fun (hc43 : ¬ (¬ 0 = 0)) => ?_)
        · exfalso
          omega
        · refine zp_const (pc := 50) hx hb (zd_X5_condition (50, .iconst 0, 1, 0, []) (List.mem_of_getElem? (i := 23) rfl)) rfl rfl ?_
          refine zp_zret (pc := 51) (n := 0) hx hb hE hQ hU5 rfl (by decide) (zd_X5_condition (51, .ireturn, 1, 0, []) (List.mem_of_getElem? (i := 24) rfl)) (j := 0) rfl (zp_o0 (by omega) (by omega) (by omega) (by omega)) ?_
          rw [hps]
          refine ⟨rfl, Sum.inl qr42, ?_, Or.inl ⟨_, rfl, rfl, _, _, _, hTr42⟩⟩
          unfold yt_if
          rw [if_pos hkd38]
          exact ⟨_, hsr42, Or.inl ⟨_, rfl, rfl⟩⟩
      · obtain ⟨hzr42, hyr42, kr42, Cr42, szr42, hnr42, hTTr42, hHr42, hur42, hf9r42⟩ : rnr42 = 1 ∧ (_ → yd_T yr42) ∧ ∃ (k : Nat) (C' : Nat → Int) (sz' : Nat), nr42 = nl + k ∧ zT u.1 a t x b cd Gr42 B ln pr42 nr42 C' sz' ord ∧ yH ord sz C C' sz' k yr42 ∧ sz' + (uu + 2) ≤ 2 * zy_fr B ln pr42 + 72 ∧ zy_fr B ln (zy_to B ln tk) + 1 ≤ zy_fr B ln pr42 := htr42
        subst hzr42
        obtain rfl : nr42 = nl + kr42 := by omega
        have hTr42 : zT u.1 a t x b cd Gr42 B ln pr42 (nl + kr42) Cr42 szr42 ord := hTTr42
        have hXr42 := hTr42
        obtain ⟨⟨-, ga0r42, ga1r42, gx5r42⟩, hTtr42, ⟨ga3r42, ga4r42, hnlr42⟩, gx7r42, hszr42, hCr42⟩ := hXr42
        have hfr42 := zTt_f hTtr42
        have hUr42 : zU u.1 x Gr42 bb (cl + 1) := zU_fr hUt41 px hfrr42 rfl ((zp_nf hfrr42 px rfl).trans hUt41.1) (by omega)
        refine zp_if (pc := 47) (tgt := 52) hx hb (zd_X5_condition (47, .ifCond .ne 5, 3, 0, []) (List.mem_of_getElem? (i := 22) rfl)) rfl (fun (hc44 : ¬ 1 = 0) => ?_) (fun (hc44 : ¬ (¬ 1 = 0)) => ?_)
        · refine zp_load (pc := 52) hx hb (zd_X5_condition (52, .aload_n 0, 1, 0, []) (List.mem_of_getElem? (i := 25) rfl)) rfl (j := 0) rfl ?_
          refine zp_getf (n := (x : Int)) (pc := 53) hx hb hE hw (zd_X5_condition (53, .getfield 16, 3, 0, []) (List.mem_of_getElem? (i := 26) rfl)) (j := 10) rfl rfl rfl hp ga1r42 ?_
          refine zp_const (pc := 56) hx hb (zd_X5_condition (56, .iconst 0, 1, 0, []) (List.mem_of_getElem? (i := 27) rfl)) rfl rfl ?_
          refine zp_const (pc := 57) hx hb (zd_X5_condition (57, .iconst 0, 1, 0, []) (List.mem_of_getElem? (i := 28) rfl)) rfl rfl ?_
          refine zp_call (pc := 58) (how := 0) (idx := 123) (mi := 66) (S := []) hx hb hE hw heff hrm (zX_vad hW cd szr42 Cr42) rfl (j := 14) rfl rfl (by decide +kernel) (zd_X5_condition (58, .invokevirtual 123, 3, 0, []) (List.mem_of_getElem? (i := 29) rfl)) [(x : Int), 0, 0] rfl ⟨zp_o2 px, zp_o0 (by decide) (by decide) (by decide) (by decide), zp_o0 (by decide) (by decide) (by decide) (by decide), trivial⟩ (Nat.le_of_ble_eq_true rfl) ⟨⟨gx7r42, by omega⟩, gx5r42, pc, hCr42⟩ (fun al hal rna45 Pa45 Ga45 hexta45 hfra45 hoka45 hcsa45 hpsia45 => ?_)
          obtain rfl := List.mem_singleton.mp hal
          have hra45 := zp_int (hoka45 _ rfl).1
          obtain ⟨rfl, htra45, ht7a45, htca45⟩ := hpsia45
          have hTa45 : zT u.1 a t x b cd Ga45 B ln pr42 (nl + kr42) (yh Cr42 szr42 0 0) (szr42 + 2) ord := zT_ad hTr42 hfra45 ht7a45 (by omega) htca45
          have hXa45 := hTa45
          obtain ⟨⟨-, ga0a45, ga1a45, gx5a45⟩, hTta45, ⟨ga3a45, ga4a45, hnla45⟩, gx7a45, hsza45, hCa45⟩ := hXa45
          have hfa45 := zTt_f hTta45
          have hUa45 : zU u.1 x Ga45 bb (cl + 1) := zU_fr hUr42 px hfra45 rfl ((zp_nf hfra45 px rfl).trans hUr42.1) (by omega)
          refine zp_pop (pc := 61) hx hb (zd_X5_condition (61, .pop, 1, 0, []) (List.mem_of_getElem? (i := 30) rfl)) (show (0 : Nat) ≠ 1 by decide) ?_
          refine zp_const (pc := 62) hx hb (zd_X5_condition (62, .iconst 1, 1, 0, []) (List.mem_of_getElem? (i := 31) rfl)) rfl rfl ?_
          refine zp_zret (pc := 63) (n := 1) hx hb hE hQ hU5 rfl (by decide) (zd_X5_condition (63, .ireturn, 1, 0, []) (List.mem_of_getElem? (i := 32) rfl)) (j := 0) rfl (zp_o0 (by omega) (by omega) (by omega) (by omega)) ?_
          rw [hps]
          have hk50 : kr42 ≤ 50 := by have := hnlr42; omega
          have hrow : ∀ j, Ga45 r4 (2000 + j) = Gt41 r4 (2000 + j) := fun j => (zp_nc hfra45 qr4 rfl _).trans (zp_nc hfrr42 qr4 rfl _)
          have hrow0 : ∀ j, Gn40 r4 (2000 + j) = zp_n u.2.1 r4 (2000 + j) := fun j => zp_nc hfrn40 qr4 rfl _
          refine ⟨rfl, Sum.inr (pr42, _, some yr42), ?_, Or.inr ⟨_, _, some yr42, _, _, rfl, rfl, hTa45, hUa45, by omega, by omega, by have := yH_lt hHr42; omega, fun j hj => ?_, fun j hj => ?_, Or.inr ⟨_, rfl, ?_, hyr42 rfl⟩⟩⟩
          · unfold yt_if
            rw [if_pos hkd38]
            exact ⟨_, hsr42, Or.inr ⟨_, _, _, rfl, rfl⟩⟩
          · exact (yh_ne (by have := yH_lt hHr42; omega)).trans (hHr42.1 j hj)
          · rw [← hr4]
            exact (hrow j).trans ((htot41 j hj).trans (hrow0 j))
          · rw [← hr4, hrow cl, show Gt41 r4 (2000 + cl) = (sz : Int) from htvt41]
            exact zXp_m hHr42 hk50
        · exfalso
          omega
    · exfalso
      omega
  · have zd38 : ¬ rnd38 = 1 := fun z => hkd38 (htd38.mp z)
    obtain rfl : rnd38 = 0 := by omega
    refine zp_if (pc := 9) (tgt := 14) hx hb (zd_X5_condition (9, .ifCond .ne 5, 3, 0, []) (List.mem_of_getElem? (i := 4) rfl)) rfl (fun (hc46 : ¬ 0 = 0) => ?_) (fun (hc46 : ¬ (¬ 0 = 0)) => ?_)
    · exfalso
      omega
    · refine zp_const (pc := 12) hx hb (zd_X5_condition (12, .iconst 1, 1, 0, []) (List.mem_of_getElem? (i := 5) rfl)) rfl rfl ?_
      refine zp_zret (pc := 13) (n := 1) hx hb hE hQ hU5 rfl (by decide) (zd_X5_condition (13, .ireturn, 1, 0, []) (List.mem_of_getElem? (i := 6) rfl)) (j := 0) rfl (zp_o0 (by omega) (by omega) (by omega) (by omega)) ?_
      rw [hps]
      refine ⟨rfl, Sum.inr (tk, nl, none), ?_, Or.inr ⟨tk, nl, none, C, sz, rfl, rfl, hT0, hU0, by omega, Nat.le_refl _, Nat.le_refl _, fun j hj => rfl, fun j hj => rfl, Or.inl ⟨rfl, rfl⟩⟩⟩
      unfold yt_if
      rw [if_neg hkd38]
