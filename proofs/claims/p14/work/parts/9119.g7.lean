/-! part g7: the class: what the law in force tells of wears, snaps, runs, speeds, bars -/
noncomputable def zg_wh (Wd : Nat → Int) (h pw : Int) : Nat → Int := fun j => if j = 1 then pw else if j = 2 then h else Wd j
noncomputable def zg_wp (Wd : Nat → Int) (p o l : Int) : Nat → Int := fun j => if j = 5 then l else if j = 4 then o else if j = 3 then p else Wd j
noncomputable def zg_eo (en : Int → Int → Int) (W : Nat → Int) : Prop := ∀ s v, yl_ok false s v → en (yl_o false s v) (yl_a false s v) = if s = 1 then v else W v.toNat
/-- what the law tells, bounded; its defaults -/
noncomputable def zy_we (en : Int → Int → Int) (M : List yK) (t : Int) : Int := match yw en 2 M with
  | none => t * t
  | some v => max 0 (min 999 v)
noncomputable def zy_sn (en : Int → Int → Int) (M : List yK) (t : Int) : Int := match yw en 3 M with
  | none => max 0 (min 100 (10 * (t - 9)))
  | some v => max 0 (min 100 v)
noncomputable def zy_ru (en : Int → Int → Int) (M : List yK) : Int := match yw en 0 M with
  | none => 60
  | some v => max 0 (min 999 v)
noncomputable def zy_sp (en : Int → Int → Int) (M : List yK) (pw li : Int) : Int := match yw en 1 M with
  | none => max 0 (min 60 (pw / 10 + 5 * li))
  | some v => max 0 (min 60 v)
noncomputable def zy_ba (en : Int → Int → Int) (M : List yK) : Int := match yw en 4 M with
  | none => 0
  | some _ => 1
theorem zy_we_n {en : Int → Int → Int} {M : List yK} {t : Int} (h : yw en 2 M = none) : zy_we en M t = t * t := by
  unfold zy_we
  simp only [h]
theorem zy_we_s {en : Int → Int → Int} {M : List yK} {v : Int} {t : Int} (h : yw en 2 M = some v) : zy_we en M t = max 0 (min 999 v) := by
  unfold zy_we
  simp only [h]
theorem zy_sn_n {en : Int → Int → Int} {M : List yK} {t : Int} (h : yw en 3 M = none) : zy_sn en M t = max 0 (min 100 (10 * (t - 9))) := by
  unfold zy_sn
  simp only [h]
theorem zy_sn_s {en : Int → Int → Int} {M : List yK} {v : Int} {t : Int} (h : yw en 3 M = some v) : zy_sn en M t = max 0 (min 100 v) := by
  unfold zy_sn
  simp only [h]
theorem zy_ru_n {en : Int → Int → Int} {M : List yK} (h : yw en 0 M = none) : zy_ru en M = 60 := by
  unfold zy_ru
  simp only [h]
theorem zy_ru_s {en : Int → Int → Int} {M : List yK} {v : Int} (h : yw en 0 M = some v) : zy_ru en M = max 0 (min 999 v) := by
  unfold zy_ru
  simp only [h]
theorem zy_sp_n {en : Int → Int → Int} {M : List yK} {pw li : Int} (h : yw en 1 M = none) : zy_sp en M pw li = max 0 (min 60 (pw / 10 + 5 * li)) := by
  unfold zy_sp
  simp only [h]
theorem zy_sp_s {en : Int → Int → Int} {M : List yK} {v : Int} {pw li : Int} (h : yw en 1 M = some v) : zy_sp en M pw li = max 0 (min 60 v) := by
  unfold zy_sp
  simp only [h]
theorem zy_ba_n {en : Int → Int → Int} {M : List yK} (h : yw en 4 M = none) : zy_ba en M = 0 := by
  unfold zy_ba
  simp only [h]
theorem zy_ba_s {en : Int → Int → Int} {M : List yK} {v : Int} (h : yw en 4 M = some v) : zy_ba en M = 1 := by
  unfold zy_ba
  simp only [h]
theorem zg_sq {t : Int} (h : 0 ≤ t ∧ t ≤ 1000) : 0 ≤ t * t ∧ t * t ≤ 1000000 := ⟨Int.mul_nonneg h.1 h.1, Int.le_trans (Int.mul_le_mul h.2 h.2 h.1 (by decide)) (by decide)⟩
/-- the law in force as the rules hold it: none, or a text -/
noncomputable def zg_law (a wd : Nat) (Wd W1 : Nat → Int) (en : Int → Int → Int) (M : List yK) (P : Nat → Option Nat) (G : Nat → Nat → Int) : Prop := (P a = some 6 ∧ P wd = some 27 ∧ G a 0 = (wd : Int) ∧ (∀ j, G wd (2000 + j) = Wd j) ∧ (∀ j, j < 9 → -2147483648 ≤ W1 j ∧ W1 j ≤ 2147483648) ∧ zg_eo en W1) ∧ ((G a 2 = -1 ∧ M = []) ∨ ∃ (lw b0 b1 b4 cd st N n0 n1 n4 nc : Nat) (A : Nat → Nat → Int) (C : Nat → Int), zgW a lw b0 b1 b4 cd st wd N n0 n1 n4 nc A C Wd G ∧ zgP P a lw b0 b1 b4 cd st wd ∧ (nc ≤ n0 ∧ nc ≤ n1 ∧ nc ≤ n4 ∧ N ≤ 872 ∧ nc ≤ 12 ∧ M.length = nc) ∧ zXs A C N false 0 M)
theorem zgW_w {a lw b0 b1 b4 cd st wd N n0 n1 n4 nc : Nat} {A : Nat → Nat → Int} {C Wd Wd' : Nat → Int} {G G' : Nat → Nat → Int} {P : Nat → Option Nat} {eff : List (Nat × Nat × Nat)} {ps : List Int} (h : zgW a lw b0 b1 b4 cd st wd N n0 n1 n4 nc A C Wd G) (hP : zgP P a lw b0 b1 b4 cd st wd) (hfr : zp_fr eff ps P G G') (hw' : ∀ j, G' wd (2000 + j) = Wd' j) (he : (zp_nfb eff 6 0 && (zp_nfb eff 6 1 && (zp_nfb eff 6 2 && (zp_nfb eff 9 0 && (zp_nfb eff 9 1 && (zp_nfb eff 9 4 && (zp_nfb eff 9 5 && (zp_nfb eff 9 6 && (zp_ncb eff 36 && (zp_ncb eff 37 && (zp_ncb eff 40 && zp_ncb eff 41))))))))))) = true) : zgW a lw b0 b1 b4 cd st wd N n0 n1 n4 nc A C Wd' G' := by
  simp only [Bool.and_eq_true] at he
  obtain ⟨e1, e2, e3, e4, e5, e6, e7, e8, c0, c1, c4, cc⟩ := he
  obtain ⟨p1, p2, p3, p4, p5, p6, p7, p8⟩ := hP
  obtain ⟨⟨m1, m2, m3⟩, ⟨m4, m5, m6, m7, m8⟩, ⟨k0, k1, k4, kc⟩, q0, q1, q4, qc, qw⟩ := h
  exact ⟨⟨(zp_nf hfr p1 e1).trans m1, (zp_nf hfr p1 e2).trans m2, (zp_nf hfr p1 e3).trans m3⟩, ⟨(zp_nf hfr p2 e4).trans m4, (zp_nf hfr p2 e5).trans m5, (zp_nf hfr p2 e6).trans m6, (zp_nf hfr p2 e7).trans m7, (zp_nf hfr p2 e8).trans m8⟩, ⟨(zp_nc hfr p3 c0 _).trans k0, (zp_nc hfr p4 c1 _).trans k1, (zp_nc hfr p5 c4 _).trans k4, (zp_nc hfr p6 cc _).trans kc⟩, fun j => (zp_nc hfr p3 c0 _).trans (q0 j), fun j => (zp_nc hfr p4 c1 _).trans (q1 j), fun j => (zp_nc hfr p5 c4 _).trans (q4 j), fun j => (zp_nc hfr p6 cc _).trans (qc j), hw'⟩
noncomputable def zK_nea : zk_K := (zt_mn 96, prog_8_method_10_code, 3, (Option.some Jvm.ClassFile.FieldType.int), 0, 6, [(1, 0, (-9223372036854775808), 9223372036854775807), (0, 0, 0, 999)], [(some (0, 0, (-2147483648), 2147483647), [])], [], (1, 20, 0, 0))
noncomputable def zψ_nea : (Nat → Option Nat) → (Nat → Nat → Int) → List Int → (Nat → Option Nat) → (Nat → Nat → Int) → Int → Prop := fun P G ps P' G' rn => P' = P ∧ G' = G ∧ rn = max 0 (min (ps.getD 1 0) (ps.getD 0 0))
theorem zX_nea {l : Launch} {w : zk_W} (hW : zh_W w) : zk_metX l w zt_dv zt_TB zK_nea (zp_A zp_tA) (zp_B zψ_nea) ∧ zk_cok w zt_TB zK_nea := by
  refine zp_methX (cn := "WoundTown$Rules") zp_lkallRu hW (pl := 961) rfl (by decide +kernel) (fun p e R s m args below meth c Q u hx hb hE hQ hU5 heff hnL hok hφ => ?_)
  have hw := hW.1
  obtain ⟨p0, p1, hps, k0, k1⟩ := zp_ps2 hok
  have hrm : zk_Kr (zk_ev (zt_types, zp_lkRu, zt_dv, [], [], zp_lcRu, zK_nea)) = zk_Kr zK_nea := rfl
  rw [hps] at hφ ⊢
  have hi1 := zp_int k1
  show zp_J p l e R s m args below meth c Q w u [] 0 [(0, 1, p0), (2, 0, p1)] [] u.1 (zp_n u.2.1)
  refine zp_const (pc := 0) hx hb (zd_X6_nearest (0, .lconst 0, 1, 0, []) (List.mem_of_getElem? (i := 0) rfl)) rfl rfl ?_
  refine zp_load (pc := 1) hx hb (zd_X6_nearest (1, .iload_n 2, 1, 0, []) (List.mem_of_getElem? (i := 1) rfl)) rfl (j := 1) rfl ?_
  refine zp_i2l (pc := 2) hx hb (zd_X6_nearest (2, .i2l, 1, 0, []) (List.mem_of_getElem? (i := 2) rfl)) ?_
  refine zp_load (pc := 3) hx hb (zd_X6_nearest (3, .lload_n 0, 1, 0, []) (List.mem_of_getElem? (i := 3) rfl)) rfl (j := 0) rfl ?_
  refine zp_minl (pc := 4) (n := (min p1 p0)) hx hb hE hrm (zd_X6_nearest (4, .invokestatic 59, 3, 0, []) (List.mem_of_getElem? (i := 4) rfl)) (j := 15) rfl (by decide) (Nat.le_of_ble_eq_true rfl) rfl ?_
  refine zp_maxl (pc := 7) (n := (max 0 (min p1 p0))) hx hb hE hrm (zd_X6_nearest (7, .invokestatic 65, 3, 0, []) (List.mem_of_getElem? (i := 5) rfl)) (j := 16) rfl (by decide) (Nat.le_of_ble_eq_true rfl) rfl ?_
  refine zp_l2i (pc := 10) hx hb (zd_X6_nearest (10, .l2i, 1, 0, []) (List.mem_of_getElem? (i := 6) rfl)) (fun x21 r_x21 e_x21 => ?_)
  have i_x21 := zp_rg0 r_x21
  have e9 := e_x21 (zp_r0 (by omega) (by omega))
  refine zp_iret (pc := 11) (n := x21) hx hb hE hQ hU5 rfl (by decide) (zd_X6_nearest (11, .ireturn, 1, 0, []) (List.mem_of_getElem? (i := 7) rfl)) (j := 0) rfl (zp_o0 (by omega) (by omega) (by omega) (by omega)) ?_
  rw [hps]
  exact ⟨rfl, rfl, e9⟩
noncomputable def zK_thr : zk_K := (zt_mn 93, prog_8_method_3_code, 3, (Option.none : Option Jvm.ClassFile.FieldType), 1, 6, [(2, 6, 0, 0), (0, 0, (-2147483648), 2147483647), (0, 0, (-2147483648), 2147483647)], [(none, [])], [(27, 1001, 0)], (0, 0, 0, 0))
noncomputable def zφ_thr (wd : Nat) (Wd : Nat → Int) : (Nat → Option Nat) → (Nat → Nat → Int) → List Int → Prop := fun P G ps => G (zp_0 ps) 0 = (wd : Int) ∧ P wd = some 27 ∧ ∀ j, G wd (2000 + j) = Wd j
noncomputable def zψ_thr (wd : Nat) (Wd : Nat → Int) : (Nat → Option Nat) → (Nat → Nat → Int) → List Int → (Nat → Option Nat) → (Nat → Nat → Int) → Int → Prop := fun P G ps P' G' rn => P' = P ∧ ∀ j, G' wd (2000 + j) = zg_wh Wd (ps.getD 1 0) (ps.getD 2 0) j
theorem zX_thr {l : Launch} {w : zk_W} (hW : zh_W w) (wd : Nat) (Wd : Nat → Int) : zk_metX l w zt_dv zt_TB zK_thr (zp_A (zφ_thr wd Wd)) (zp_B (zψ_thr wd Wd)) ∧ zk_cok w zt_TB zK_thr := by
  refine zp_methX (cn := "WoundTown$Rules") zp_lkallRu hW (pl := 949) rfl (by decide +kernel) (fun p e R s m args below meth c Q u hx hb hE hQ hU5 heff hnL hok hφ => ?_)
  have hw := hW.1
  obtain ⟨p0, p1, p2, hps, k0, k1, k2⟩ := zp_ps3 hok
  obtain ⟨a, rfl, hp⟩ := zp_this k0
  have hrm : zk_Kr (zk_ev (zt_types, zp_lkRu, zt_dv, [], [], zp_lcRu, zK_thr)) = zk_Kr zK_thr := rfl
  rw [hps] at hφ ⊢
  have hi1 := zp_int k1
  have hi2 := zp_int k2
  have hφ : zp_n u.2.1 a 0 = (wd : Int) ∧ u.1 wd = some 27 ∧ ∀ j, zp_n u.2.1 wd (2000 + j) = Wd j := hφ
  obtain ⟨e0, qw, eW⟩ := hφ
  show zp_J p l e R s m args below meth c Q w u [] 0 [(0, 2, (a : Int)), (1, 0, p1), (2, 0, p2)] [] u.1 (zp_n u.2.1)
  refine zp_load (pc := 0) hx hb (zd_X6_tellHour (0, .aload_n 0, 1, 0, []) (List.mem_of_getElem? (i := 0) rfl)) rfl (j := 0) rfl ?_
  refine zp_getf (n := (wd : Int)) (pc := 1) hx hb hE hw (zd_X6_tellHour (1, .getfield 11, 3, 0, []) (List.mem_of_getElem? (i := 1) rfl)) (j := 4) rfl rfl rfl hp e0 ?_
  refine zp_const (pc := 4) hx hb (zd_X6_tellHour (4, .iconst 2, 1, 0, []) (List.mem_of_getElem? (i := 2) rfl)) rfl rfl ?_
  refine zp_load (pc := 5) hx hb (zd_X6_tellHour (5, .iload_n 1, 1, 0, []) (List.mem_of_getElem? (i := 3) rfl)) rfl (j := 1) rfl ?_
  refine zp_iast (j := 2) (pc := 6) hx hb hw heff (zd_X6_tellHour (6, .iastore, 1, 0, []) (List.mem_of_getElem? (i := 4) rfl)) (show zp_ia 1 27 = some (9, 0, 0, (-2147483648), 2147483647) from rfl) qw (by omega) (by omega) (zp_o0 (by omega) (by omega) (by omega) (by omega)) rfl ?_
  refine zp_load (pc := 7) hx hb (zd_X6_tellHour (7, .aload_n 0, 1, 0, []) (List.mem_of_getElem? (i := 5) rfl)) rfl (j := 0) rfl ?_
  refine zp_getf (n := (wd : Int)) (pc := 8) hx hb hE hw (zd_X6_tellHour (8, .getfield 11, 3, 0, []) (List.mem_of_getElem? (i := 6) rfl)) (j := 4) rfl rfl rfl hp ((zp_set_ne (Or.inl (zp_pne hp qw (by decide)))).trans (e0)) ?_
  refine zp_const (pc := 11) hx hb (zd_X6_tellHour (11, .iconst 1, 1, 0, []) (List.mem_of_getElem? (i := 7) rfl)) rfl rfl ?_
  refine zp_load (pc := 12) hx hb (zd_X6_tellHour (12, .iload_n 2, 1, 0, []) (List.mem_of_getElem? (i := 8) rfl)) rfl (j := 2) rfl ?_
  refine zp_iast (j := 1) (pc := 13) hx hb hw heff (zd_X6_tellHour (13, .iastore, 1, 0, []) (List.mem_of_getElem? (i := 9) rfl)) (show zp_ia 1 27 = some (9, 0, 0, (-2147483648), 2147483647) from rfl) qw (by omega) (by omega) (zp_o0 (by omega) (by omega) (by omega) (by omega)) rfl ?_
  refine zp_vret (pc := 14) hx hb hE hQ hU5 rfl (by decide) (zd_X6_tellHour (14, .return_, 1, 0, []) (List.mem_of_getElem? (i := 10) rfl)) (j := 0) rfl ?_
  rw [hps]
  refine ⟨rfl, fun j => ?_⟩
  show (zp_set (zp_set (zp_n u.2.1) wd (2000 + 2) p1) wd (2000 + 1) p2) wd (2000 + j) = zg_wh Wd p1 p2 j
  rw [zp_set_el, zp_set_el, eW]
  rfl
noncomputable def zK_tpn : zk_K := (zt_mn 94, prog_8_method_4_code, 4, (Option.none : Option Jvm.ClassFile.FieldType), 1, 6, [(2, 6, 0, 0), (0, 0, (-2147483648), 2147483647), (0, 0, (-2147483648), 2147483647), (0, 0, (-2147483648), 2147483647)], [(none, [])], [(27, 1001, 0)], (0, 0, 0, 0))
noncomputable def zφ_tpn (wd : Nat) (Wd : Nat → Int) : (Nat → Option Nat) → (Nat → Nat → Int) → List Int → Prop := fun P G ps => G (zp_0 ps) 0 = (wd : Int) ∧ P wd = some 27 ∧ ∀ j, G wd (2000 + j) = Wd j
noncomputable def zψ_tpn (wd : Nat) (Wd : Nat → Int) : (Nat → Option Nat) → (Nat → Nat → Int) → List Int → (Nat → Option Nat) → (Nat → Nat → Int) → Int → Prop := fun P G ps P' G' rn => P' = P ∧ ∀ j, G' wd (2000 + j) = zg_wp Wd (ps.getD 1 0) (ps.getD 2 0) (ps.getD 3 0) j
theorem zX_tpn {l : Launch} {w : zk_W} (hW : zh_W w) (wd : Nat) (Wd : Nat → Int) : zk_metX l w zt_dv zt_TB zK_tpn (zp_A (zφ_tpn wd Wd)) (zp_B (zψ_tpn wd Wd)) ∧ zk_cok w zt_TB zK_tpn := by
  refine zp_methX (cn := "WoundTown$Rules") zp_lkallRu hW (pl := 953) rfl (by decide +kernel) (fun p e R s m args below meth c Q u hx hb hE hQ hU5 heff hnL hok hφ => ?_)
  have hw := hW.1
  obtain ⟨p0, p1, p2, p3, hps, k0, k1, k2, k3⟩ := zp_ps4 hok
  obtain ⟨a, rfl, hp⟩ := zp_this k0
  have hrm : zk_Kr (zk_ev (zt_types, zp_lkRu, zt_dv, [], [], zp_lcRu, zK_tpn)) = zk_Kr zK_tpn := rfl
  rw [hps] at hφ ⊢
  have hi1 := zp_int k1
  have hi2 := zp_int k2
  have hi3 := zp_int k3
  have hφ : zp_n u.2.1 a 0 = (wd : Int) ∧ u.1 wd = some 27 ∧ ∀ j, zp_n u.2.1 wd (2000 + j) = Wd j := hφ
  obtain ⟨e0, qw, eW⟩ := hφ
  show zp_J p l e R s m args below meth c Q w u [] 0 [(0, 2, (a : Int)), (1, 0, p1), (2, 0, p2), (3, 0, p3)] [] u.1 (zp_n u.2.1)
  refine zp_load (pc := 0) hx hb (zd_X6_tellPerson (0, .aload_n 0, 1, 0, []) (List.mem_of_getElem? (i := 0) rfl)) rfl (j := 0) rfl ?_
  refine zp_getf (n := (wd : Int)) (pc := 1) hx hb hE hw (zd_X6_tellPerson (1, .getfield 11, 3, 0, []) (List.mem_of_getElem? (i := 1) rfl)) (j := 4) rfl rfl rfl hp e0 ?_
  refine zp_const (pc := 4) hx hb (zd_X6_tellPerson (4, .iconst 3, 1, 0, []) (List.mem_of_getElem? (i := 2) rfl)) rfl rfl ?_
  refine zp_load (pc := 5) hx hb (zd_X6_tellPerson (5, .iload_n 1, 1, 0, []) (List.mem_of_getElem? (i := 3) rfl)) rfl (j := 1) rfl ?_
  refine zp_iast (j := 3) (pc := 6) hx hb hw heff (zd_X6_tellPerson (6, .iastore, 1, 0, []) (List.mem_of_getElem? (i := 4) rfl)) (show zp_ia 1 27 = some (9, 0, 0, (-2147483648), 2147483647) from rfl) qw (by omega) (by omega) (zp_o0 (by omega) (by omega) (by omega) (by omega)) rfl ?_
  refine zp_load (pc := 7) hx hb (zd_X6_tellPerson (7, .aload_n 0, 1, 0, []) (List.mem_of_getElem? (i := 5) rfl)) rfl (j := 0) rfl ?_
  refine zp_getf (n := (wd : Int)) (pc := 8) hx hb hE hw (zd_X6_tellPerson (8, .getfield 11, 3, 0, []) (List.mem_of_getElem? (i := 6) rfl)) (j := 4) rfl rfl rfl hp ((zp_set_ne (Or.inl (zp_pne hp qw (by decide)))).trans (e0)) ?_
  refine zp_const (pc := 11) hx hb (zd_X6_tellPerson (11, .iconst 4, 1, 0, []) (List.mem_of_getElem? (i := 7) rfl)) rfl rfl ?_
  refine zp_load (pc := 12) hx hb (zd_X6_tellPerson (12, .iload_n 2, 1, 0, []) (List.mem_of_getElem? (i := 8) rfl)) rfl (j := 2) rfl ?_
  refine zp_iast (j := 4) (pc := 13) hx hb hw heff (zd_X6_tellPerson (13, .iastore, 1, 0, []) (List.mem_of_getElem? (i := 9) rfl)) (show zp_ia 1 27 = some (9, 0, 0, (-2147483648), 2147483647) from rfl) qw (by omega) (by omega) (zp_o0 (by omega) (by omega) (by omega) (by omega)) rfl ?_
  refine zp_load (pc := 14) hx hb (zd_X6_tellPerson (14, .aload_n 0, 1, 0, []) (List.mem_of_getElem? (i := 10) rfl)) rfl (j := 0) rfl ?_
  refine zp_getf (n := (wd : Int)) (pc := 15) hx hb hE hw (zd_X6_tellPerson (15, .getfield 11, 3, 0, []) (List.mem_of_getElem? (i := 11) rfl)) (j := 4) rfl rfl rfl hp ((zp_set_ne (Or.inl (zp_pne hp qw (by decide)))).trans ((zp_set_ne (Or.inl (zp_pne hp qw (by decide)))).trans (e0))) ?_
  refine zp_const (pc := 18) hx hb (zd_X6_tellPerson (18, .iconst 5, 1, 0, []) (List.mem_of_getElem? (i := 12) rfl)) rfl rfl ?_
  refine zp_load (pc := 19) hx hb (zd_X6_tellPerson (19, .iload_n 3, 1, 0, []) (List.mem_of_getElem? (i := 13) rfl)) rfl (j := 3) rfl ?_
  refine zp_iast (j := 5) (pc := 20) hx hb hw heff (zd_X6_tellPerson (20, .iastore, 1, 0, []) (List.mem_of_getElem? (i := 14) rfl)) (show zp_ia 1 27 = some (9, 0, 0, (-2147483648), 2147483647) from rfl) qw (by omega) (by omega) (zp_o0 (by omega) (by omega) (by omega) (by omega)) rfl ?_
  refine zp_vret (pc := 21) hx hb hE hQ hU5 rfl (by decide) (zd_X6_tellPerson (21, .return_, 1, 0, []) (List.mem_of_getElem? (i := 15) rfl)) (j := 0) rfl ?_
  rw [hps]
  refine ⟨rfl, fun j => ?_⟩
  show (zp_set (zp_set (zp_set (zp_n u.2.1) wd (2000 + 3) p1) wd (2000 + 4) p2) wd (2000 + 5) p3) wd (2000 + j) = zg_wp Wd p1 p2 p3 j
  rw [zp_set_el, zp_set_el, zp_set_el, eW]
  rfl
noncomputable def zK_to0 : zk_K := (zt_mn 95, prog_8_method_11_code, 5, (Option.some Jvm.ClassFile.FieldType.long), 1, 6, [(2, 6, 0, 0), (0, 0, 0, 4)], [(some (1, 0, (-9223372036854775808), 9223372036854775807), [])], [], (1, 60, 0, 0))
noncomputable def zφ_to0 : (Nat → Option Nat) → (Nat → Nat → Int) → List Int → Prop := fun P G ps => G (zp_0 ps) 2 = -1
noncomputable def zψ_to0 : (Nat → Option Nat) → (Nat → Nat → Int) → List Int → (Nat → Option Nat) → (Nat → Nat → Int) → Int → Prop := fun P G ps P' G' rn => P' = P ∧ G' = G ∧ rn = (-9000000000)
theorem zX_to0 {l : Launch} {w : zk_W} (hW : zh_W w) : zk_metX l w zt_dv zt_TB zK_to0 (zp_A zφ_to0) (zp_B zψ_to0) ∧ zk_cok w zt_TB zK_to0 := by
  refine zp_methX (cn := "WoundTown$Rules") zp_lkallRu hW (pl := 957) rfl (by decide +kernel) (fun p e R s m args below meth c Q u hx hb hE hQ hU5 heff hnL hok hφ => ?_)
  have hw := hW.1
  obtain ⟨p0, p1, hps, k0, k1⟩ := zp_ps2 hok
  obtain ⟨a, rfl, hp⟩ := zp_this k0
  have hrm : zk_Kr (zk_ev (zt_types, zp_lkRu, zt_dv, [], [], zp_lcRu, zK_to0)) = zk_Kr zK_to0 := rfl
  rw [hps] at hφ ⊢
  have hi1 := zp_int k1
  have e2 : zp_n u.2.1 a 2 = -1 := hφ
  show zp_J p l e R s m args below meth c Q w u [] 0 [(0, 2, (a : Int)), (1, 0, p1)] [] u.1 (zp_n u.2.1)
  refine zp_load (pc := 0) hx hb (zd_X6_told (0, .aload_n 0, 1, 0, []) (List.mem_of_getElem? (i := 0) rfl)) rfl (j := 0) rfl ?_
  refine zp_getf (n := (-1)) (pc := 1) hx hb hE hw (zd_X6_told (1, .getfield 25, 3, 0, []) (List.mem_of_getElem? (i := 1) rfl)) (j := 6) rfl rfl rfl hp e2 ?_
  refine zp_nnn (pc := 4) hx hb (by decide) (zd_X6_told (4, .ifnonnull 7, 3, 0, []) (List.mem_of_getElem? (i := 2) rfl)) ?_
  refine zp_ldc2 (pc := 7) hx hb hE (zd_X6_told (7, .ldc2_w 53, 3, 0, []) (List.mem_of_getElem? (i := 3) rfl)) (j := 12) rfl ?_
  have h99 : zk_rg 1 (-9000000000) := ⟨by decide, by decide⟩
  refine zp_lret (pc := 10) (n := (-9000000000)) hx hb hE hQ hU5 rfl (by decide) (zd_X6_told (10, .lreturn, 1, 0, []) (List.mem_of_getElem? (i := 4) rfl)) (j := 0) rfl (zp_o1 (by first | assumption | exact zp_r1 (by omega) (by omega))) ?_
  rw [hps]
  exact ⟨rfl, rfl, rfl⟩
noncomputable def zK_we_ : zk_K := (zt_mn 92, prog_8_method_8_code, 3, (Option.some Jvm.ClassFile.FieldType.int), 1, 6, [(2, 6, 0, 0)], [(some (0, 0, (-2147483648), 2147483647), [])], [(27, 1001, 0), (28, 1001, 0)], (2, 120, 0, 0))
noncomputable def zφ_we_ (wd : Nat) (Wd : Nat → Int) (en : Int → Int → Int) (M : List yK) : (Nat → Option Nat) → (Nat → Nat → Int) → List Int → Prop := fun P G ps => zg_law (zp_0 ps) wd Wd (zg_wp (zg_wh Wd (-1) (-1)) (-1) (-1) (-1)) en M P G ∧ 0 ≤ Wd 0 ∧ Wd 0 ≤ 1000
noncomputable def zψ_we_ (wd : Nat) (Wd : Nat → Int) (en : Int → Int → Int) (M : List yK) : (Nat → Option Nat) → (Nat → Nat → Int) → List Int → (Nat → Option Nat) → (Nat → Nat → Int) → Int → Prop := fun P G ps P' G' rn => P' = P ∧ (∀ j, G' wd (2000 + j) = (zg_wp (zg_wh Wd (-1) (-1)) (-1) (-1) (-1)) j) ∧ rn = zy_we en M (Wd 0)
theorem zX_we_ {l : Launch} {w : zk_W} (hW : zh_W w) (wd : Nat) (Wd : Nat → Int) (en : Int → Int → Int) (M : List yK) : zk_metX l w zt_dv zt_TB zK_we_ (zp_A (zφ_we_ wd Wd en M)) (zp_B (zψ_we_ wd Wd en M)) ∧ zk_cok w zt_TB zK_we_ := by
  refine zp_methX (cn := "WoundTown$Rules") zp_lkallRu hW (pl := 945) rfl (by decide +kernel) (fun p e R s m args below meth c Q u hx hb hE hQ hU5 heff hnL hok hφ => ?_)
  have hw := hW.1
  obtain ⟨p0, hps, k0⟩ := zp_ps1 hok
  obtain ⟨a, rfl, hp⟩ := zp_this k0
  have hrm : zk_Kr (zk_ev (zt_types, zp_lkRu, zt_dv, [], [], zp_lcRu, zK_we_)) = zk_Kr zK_we_ := rfl
  rw [hps] at hφ ⊢
  have hφ : zg_law a wd Wd (zg_wp (zg_wh Wd (-1) (-1)) (-1) (-1) (-1)) en M u.1 (zp_n u.2.1) ∧ 0 ≤ Wd 0 ∧ Wd 0 ≤ 1000 := hφ
  obtain ⟨⟨⟨-, qw, e0, eW, hWd, hen⟩, hlaw⟩, hT0⟩ := hφ
  have hsq := zg_sq hT0
  show zp_J p l e R s m args below meth c Q w u [] 0 [(0, 2, (a : Int))] [] u.1 (zp_n u.2.1)
  rcases hlaw with ⟨e2, hM0⟩ | ⟨lw, b0, b1, b4, cd, st, N, n0, n1, n4, nc, A, C, hm, hP, ⟨l0, l1, l4, lN, lc, lM⟩, hX⟩
  · subst hM0
    refine zp_load (pc := 0) hx hb (zd_X6_wears (0, .aload_n 0, 1, 0, []) (List.mem_of_getElem? (i := 0) rfl)) rfl (j := 0) rfl ?_
    refine zp_const (pc := 1) hx hb (zd_X6_wears (1, .iconst (-1), 1, 0, []) (List.mem_of_getElem? (i := 1) rfl)) rfl rfl ?_
    refine zp_const (pc := 2) hx hb (zd_X6_wears (2, .iconst (-1), 1, 0, []) (List.mem_of_getElem? (i := 2) rfl)) rfl rfl ?_
    refine zp_call (pc := 3) (how := 0) (idx := 41) (mi := 93) (S := []) hx hb hE hw heff hrm (zX_thr hW wd Wd) rfl (j := 1) rfl rfl (by decide +kernel) (zd_X6_wears (3, .invokevirtual 41, 3, 0, []) (List.mem_of_getElem? (i := 3) rfl)) [(a : Int), (-1), (-1)] rfl ⟨zp_o2 hp, zp_o0 (by omega) (by omega) (by omega) (by omega), zp_o0 (by omega) (by omega) (by omega) (by omega), trivial⟩ (Nat.le_of_ble_eq_true rfl) ⟨e0, qw, eW⟩ (fun al hal rnh Ph Gh hexth hfrh hokh hcsh hpsih => ?_)
    obtain rfl := List.mem_singleton.mp hal
    have yah := hexth _ _ hp
    have ywdh := hexth _ _ qw
    obtain ⟨hPh, hWh⟩ := hpsih
    have hWh : ∀ j, Gh wd (2000 + j) = (zg_wh Wd (-1) (-1)) j := hWh
    have e0h : Gh a 0 = (wd : Int) := (zp_nf hfrh hp rfl).trans e0
    have e2h : Gh a 2 = -1 := (zp_nf hfrh hp rfl).trans e2
    subst hPh
    refine zp_load (pc := 6) hx hb (zd_X6_wears (6, .aload_n 0, 1, 0, []) (List.mem_of_getElem? (i := 4) rfl)) rfl (j := 0) rfl ?_
    refine zp_const (pc := 7) hx hb (zd_X6_wears (7, .iconst (-1), 1, 0, []) (List.mem_of_getElem? (i := 5) rfl)) rfl rfl ?_
    refine zp_const (pc := 8) hx hb (zd_X6_wears (8, .iconst (-1), 1, 0, []) (List.mem_of_getElem? (i := 6) rfl)) rfl rfl ?_
    refine zp_const (pc := 9) hx hb (zd_X6_wears (9, .iconst (-1), 1, 0, []) (List.mem_of_getElem? (i := 7) rfl)) rfl rfl ?_
    refine zp_call (pc := 10) (how := 0) (idx := 45) (mi := 94) (S := []) hx hb hE hw heff hrm (zX_tpn hW wd (zg_wh Wd (-1) (-1))) rfl (j := 2) rfl rfl (by decide +kernel) (zd_X6_wears (10, .invokevirtual 45, 3, 0, []) (List.mem_of_getElem? (i := 8) rfl)) [(a : Int), (-1), (-1), (-1)] rfl ⟨zp_o2 hp, zp_o0 (by omega) (by omega) (by omega) (by omega), zp_o0 (by omega) (by omega) (by omega) (by omega), zp_o0 (by omega) (by omega) (by omega) (by omega), trivial⟩ (Nat.le_of_ble_eq_true rfl) ⟨e0h, qw, hWh⟩ (fun al hal rnp Pp Gp hextp hfrp hokp hcsp hpsip => ?_)
    obtain rfl := List.mem_singleton.mp hal
    have yap := hextp _ _ hp
    have ywdp := hextp _ _ qw
    obtain ⟨hPp, hWp⟩ := hpsip
    have hWp : ∀ j, Gp wd (2000 + j) = (zg_wp (zg_wh Wd (-1) (-1)) (-1) (-1) (-1)) j := hWp
    have e0p : Gp a 0 = (wd : Int) := (zp_nf hfrp hp rfl).trans e0h
    have e2p : Gp a 2 = -1 := (zp_nf hfrp hp rfl).trans e2h
    subst hPp
    refine zp_load (pc := 13) hx hb (zd_X6_wears (13, .aload_n 0, 1, 0, []) (List.mem_of_getElem? (i := 9) rfl)) rfl (j := 0) rfl ?_
    refine zp_const (pc := 14) hx hb (zd_X6_wears (14, .iconst 2, 1, 0, []) (List.mem_of_getElem? (i := 10) rfl)) rfl rfl ?_
    refine zp_call (pc := 15) (how := 0) (idx := 49) (mi := 95) (S := []) hx hb hE hw heff hrm (zX_to0 hW) rfl (j := 3) rfl rfl (by decide +kernel) (zd_X6_wears (15, .invokevirtual 49, 3, 0, []) (List.mem_of_getElem? (i := 11) rfl)) [(a : Int), 2] rfl ⟨zp_o2 hp, zp_o0 (by decide) (by decide) (by decide) (by decide), trivial⟩ (Nat.le_of_ble_eq_true rfl) e2p (fun al hal rnt Pt Gt hextt hfrt hokt hcst hpsit => ?_)
    obtain rfl := List.mem_singleton.mp hal
    have yat := hextt _ _ hp
    have ywdt := hextt _ _ qw
    obtain ⟨hPt, hGt, hrt⟩ := hpsit
    subst hPt
    subst hGt
    have hrt : rnt = -9000000000 := hrt
    refine zp_store (L' := [(1, 1, rnt), (0, 2, (a : Int))]) (pc := 18) hx hb hnL (zd_X6_wears (18, .lstore_n 1, 1, 0, []) (List.mem_of_getElem? (i := 12) rfl)) rfl rfl rfl ?_
    refine zp_load (pc := 19) hx hb (zd_X6_wears (19, .lload_n 1, 1, 0, []) (List.mem_of_getElem? (i := 13) rfl)) rfl (j := 0) rfl ?_
    refine zp_ldc2 (pc := 20) hx hb hE (zd_X6_wears (20, .ldc2_w 53, 3, 0, []) (List.mem_of_getElem? (i := 14) rfl)) (j := 12) rfl ?_
    refine zp_lcmp (pc := 23) (tgt := 43) hx hb (zd_X6_wears (23, .lcmp, 1, 0, []) (List.mem_of_getElem? (i := 15) rfl)) (zd_X6_wears (24, .ifCond .ne 19, 3, 0, []) (List.mem_of_getElem? (i := 16) rfl)) rfl (fun (hc22 : ¬ rnt = (-9000000000)) => ?_) (fun (hc22 : ¬ (¬ rnt = (-9000000000))) => ?_)
    · exfalso
      omega
    · refine zp_load (pc := 27) hx hb (zd_X6_wears (27, .aload_n 0, 1, 0, []) (List.mem_of_getElem? (i := 17) rfl)) rfl (j := 1) rfl ?_
      refine zp_getf (n := (wd : Int)) (pc := 28) hx hb hE hw (zd_X6_wears (28, .getfield 11, 3, 0, []) (List.mem_of_getElem? (i := 18) rfl)) (j := 4) rfl rfl rfl hp e0p ?_
      refine zp_const (pc := 31) hx hb (zd_X6_wears (31, .iconst 0, 1, 0, []) (List.mem_of_getElem? (i := 19) rfl)) rfl rfl ?_
      refine zp_iald (j := 0) (v := (Wd 0)) (pc := 32) hx hb hw (zd_X6_wears (32, .iaload, 1, 0, []) (List.mem_of_getElem? (i := 20) rfl)) (show zp_ia 1 27 = some (9, 0, 0, (-2147483648), 2147483647) from rfl) qw (by omega) (by omega) ((hWp 0).trans rfl) (fun hk23 => ?_)
      have hk23b := zp_int hk23
      refine zp_load (pc := 33) hx hb (zd_X6_wears (33, .aload_n 0, 1, 0, []) (List.mem_of_getElem? (i := 21) rfl)) rfl (j := 1) rfl ?_
      refine zp_getf (n := (wd : Int)) (pc := 34) hx hb hE hw (zd_X6_wears (34, .getfield 11, 3, 0, []) (List.mem_of_getElem? (i := 22) rfl)) (j := 4) rfl rfl rfl hp e0p ?_
      refine zp_const (pc := 37) hx hb (zd_X6_wears (37, .iconst 0, 1, 0, []) (List.mem_of_getElem? (i := 23) rfl)) rfl rfl ?_
      refine zp_iald (j := 0) (v := (Wd 0)) (pc := 38) hx hb hw (zd_X6_wears (38, .iaload, 1, 0, []) (List.mem_of_getElem? (i := 24) rfl)) (show zp_ia 1 27 = some (9, 0, 0, (-2147483648), 2147483647) from rfl) qw (by omega) (by omega) ((hWp 0).trans rfl) (fun hk24 => ?_)
      have hk24b := zp_int hk24
      refine zp_mul (n := ((Wd 0) * (Wd 0))) (pc := 39) hx hb (zd_X6_wears (39, .imul, 1, 0, []) (List.mem_of_getElem? (i := 25) rfl)) (by omega) (zp_r0 (by omega) (by omega)) ?_
      refine zp_goto (tgt := 50) (pc := 40) hx hb (zd_X6_wears (40, .goto 10, 3, 0, []) (List.mem_of_getElem? (i := 26) rfl)) rfl ?_
      refine zp_iret (pc := 50) (n := ((Wd 0) * (Wd 0))) hx hb hE hQ hU5 rfl (by decide) (zd_X6_wears (50, .ireturn, 1, 0, []) (List.mem_of_getElem? (i := 30) rfl)) (j := 0) rfl (zp_o0 (by omega) (by omega) (by omega) (by omega)) ?_
      rw [hps]
      refine ⟨rfl, hWp, ?_⟩
      show ((Wd 0) * (Wd 0)) = zy_we en [] (Wd 0)
      exact (zy_we_n (show yw en 2 [] = none from rfl)).symm
  · have hP2 := hP
    obtain ⟨-, qlw, qb0, qb1, qb4, qcd, qst, -⟩ := hP2
    refine zp_load (pc := 0) hx hb (zd_X6_wears (0, .aload_n 0, 1, 0, []) (List.mem_of_getElem? (i := 0) rfl)) rfl (j := 0) rfl ?_
    refine zp_const (pc := 1) hx hb (zd_X6_wears (1, .iconst (-1), 1, 0, []) (List.mem_of_getElem? (i := 1) rfl)) rfl rfl ?_
    refine zp_const (pc := 2) hx hb (zd_X6_wears (2, .iconst (-1), 1, 0, []) (List.mem_of_getElem? (i := 2) rfl)) rfl rfl ?_
    refine zp_call (pc := 3) (how := 0) (idx := 41) (mi := 93) (S := []) hx hb hE hw heff hrm (zX_thr hW wd Wd) rfl (j := 1) rfl rfl (by decide +kernel) (zd_X6_wears (3, .invokevirtual 41, 3, 0, []) (List.mem_of_getElem? (i := 3) rfl)) [(a : Int), (-1), (-1)] rfl ⟨zp_o2 hp, zp_o0 (by omega) (by omega) (by omega) (by omega), zp_o0 (by omega) (by omega) (by omega) (by omega), trivial⟩ (Nat.le_of_ble_eq_true rfl) ⟨e0, qw, eW⟩ (fun al hal rnh Ph Gh hexth hfrh hokh hcsh hpsih => ?_)
    obtain rfl := List.mem_singleton.mp hal
    have yah := hexth _ _ hp
    have ywdh := hexth _ _ qw
    obtain ⟨hPh, hWh⟩ := hpsih
    have hWh : ∀ j, Gh wd (2000 + j) = (zg_wh Wd (-1) (-1)) j := hWh
    have e0h : Gh a 0 = (wd : Int) := (zp_nf hfrh hp rfl).trans e0
    have hmh := zgW_w hm hP hfrh hWh (by decide +kernel)
    subst hPh
    refine zp_load (pc := 6) hx hb (zd_X6_wears (6, .aload_n 0, 1, 0, []) (List.mem_of_getElem? (i := 4) rfl)) rfl (j := 0) rfl ?_
    refine zp_const (pc := 7) hx hb (zd_X6_wears (7, .iconst (-1), 1, 0, []) (List.mem_of_getElem? (i := 5) rfl)) rfl rfl ?_
    refine zp_const (pc := 8) hx hb (zd_X6_wears (8, .iconst (-1), 1, 0, []) (List.mem_of_getElem? (i := 6) rfl)) rfl rfl ?_
    refine zp_const (pc := 9) hx hb (zd_X6_wears (9, .iconst (-1), 1, 0, []) (List.mem_of_getElem? (i := 7) rfl)) rfl rfl ?_
    refine zp_call (pc := 10) (how := 0) (idx := 45) (mi := 94) (S := []) hx hb hE hw heff hrm (zX_tpn hW wd (zg_wh Wd (-1) (-1))) rfl (j := 2) rfl rfl (by decide +kernel) (zd_X6_wears (10, .invokevirtual 45, 3, 0, []) (List.mem_of_getElem? (i := 8) rfl)) [(a : Int), (-1), (-1), (-1)] rfl ⟨zp_o2 hp, zp_o0 (by omega) (by omega) (by omega) (by omega), zp_o0 (by omega) (by omega) (by omega) (by omega), zp_o0 (by omega) (by omega) (by omega) (by omega), trivial⟩ (Nat.le_of_ble_eq_true rfl) ⟨e0h, qw, hWh⟩ (fun al hal rnp Pp Gp hextp hfrp hokp hcsp hpsip => ?_)
    obtain rfl := List.mem_singleton.mp hal
    have yap := hextp _ _ hp
    have ywdp := hextp _ _ qw
    obtain ⟨hPp, hWp⟩ := hpsip
    have hWp : ∀ j, Gp wd (2000 + j) = (zg_wp (zg_wh Wd (-1) (-1)) (-1) (-1) (-1)) j := hWp
    have e0p : Gp a 0 = (wd : Int) := (zp_nf hfrp hp rfl).trans e0h
    have hmp := zgW_w hmh hP hfrp hWp (by decide +kernel)
    subst hPp
    refine zp_load (pc := 13) hx hb (zd_X6_wears (13, .aload_n 0, 1, 0, []) (List.mem_of_getElem? (i := 9) rfl)) rfl (j := 0) rfl ?_
    refine zp_const (pc := 14) hx hb (zd_X6_wears (14, .iconst 2, 1, 0, []) (List.mem_of_getElem? (i := 10) rfl)) rfl rfl ?_
    refine zp_call (pc := 15) (how := 0) (idx := 49) (mi := 95) (S := []) hx hb hE hw heff hrm (zX_tod hW lw b0 b1 b4 cd st wd N n0 n1 n4 nc A C (zg_wp (zg_wh Wd (-1) (-1)) (-1) (-1) (-1)) en M) rfl (j := 3) rfl rfl (by decide +kernel) (zd_X6_wears (15, .invokevirtual 49, 3, 0, []) (List.mem_of_getElem? (i := 11) rfl)) [(a : Int), 2] rfl ⟨zp_o2 hp, zp_o0 (by decide) (by decide) (by decide) (by decide), trivial⟩ (Nat.le_of_ble_eq_true rfl) ⟨hmp, hP, ⟨l0, l1, l4, lN, lc, lM⟩, hX, hWd, hen⟩ (fun al hal rnt Pt Gt hextt hfrt hokt hcst hpsit => ?_)
    obtain rfl := List.mem_singleton.mp hal
    have yat := hextt _ _ hp
    have ywdt := hextt _ _ qw
    obtain ⟨hPt, hvt, hnt⟩ := hpsit
    have hvt : ∀ v, yw en 2 M = some v → (-2147483648 ≤ v ∧ v ≤ 2147483648) ∧ rnt = v := hvt
    have hnt : yw en 2 M = none → rnt = -9000000000 := hnt
    have hWt : ∀ j, Gt wd (2000 + j) = (zg_wp (zg_wh Wd (-1) (-1)) (-1) (-1) (-1)) j := fun j => (zp_nc hfrt qw rfl _).trans (hWp j)
    have e0t : Gt a 0 = (wd : Int) := (zp_nf hfrt hp rfl).trans e0p
    subst hPt
    cases hy : yw en 2 M with
    | none =>
      have hrt := hnt hy
      refine zp_store (L' := [(1, 1, rnt), (0, 2, (a : Int))]) (pc := 18) hx hb hnL (zd_X6_wears (18, .lstore_n 1, 1, 0, []) (List.mem_of_getElem? (i := 12) rfl)) rfl rfl rfl ?_
      refine zp_load (pc := 19) hx hb (zd_X6_wears (19, .lload_n 1, 1, 0, []) (List.mem_of_getElem? (i := 13) rfl)) rfl (j := 0) rfl ?_
      refine zp_ldc2 (pc := 20) hx hb hE (zd_X6_wears (20, .ldc2_w 53, 3, 0, []) (List.mem_of_getElem? (i := 14) rfl)) (j := 12) rfl ?_
      refine zp_lcmp (pc := 23) (tgt := 43) hx hb (zd_X6_wears (23, .lcmp, 1, 0, []) (List.mem_of_getElem? (i := 15) rfl)) (zd_X6_wears (24, .ifCond .ne 19, 3, 0, []) (List.mem_of_getElem? (i := 16) rfl)) rfl (fun (hc25 : ¬ rnt = (-9000000000)) => ?_) (fun (hc25 : ¬ (¬ rnt = (-9000000000))) => ?_)
      · exfalso
        omega
      · refine zp_load (pc := 27) hx hb (zd_X6_wears (27, .aload_n 0, 1, 0, []) (List.mem_of_getElem? (i := 17) rfl)) rfl (j := 1) rfl ?_
        refine zp_getf (n := (wd : Int)) (pc := 28) hx hb hE hw (zd_X6_wears (28, .getfield 11, 3, 0, []) (List.mem_of_getElem? (i := 18) rfl)) (j := 4) rfl rfl rfl hp e0t ?_
        refine zp_const (pc := 31) hx hb (zd_X6_wears (31, .iconst 0, 1, 0, []) (List.mem_of_getElem? (i := 19) rfl)) rfl rfl ?_
        refine zp_iald (j := 0) (v := (Wd 0)) (pc := 32) hx hb hw (zd_X6_wears (32, .iaload, 1, 0, []) (List.mem_of_getElem? (i := 20) rfl)) (show zp_ia 1 27 = some (9, 0, 0, (-2147483648), 2147483647) from rfl) qw (by omega) (by omega) ((hWt 0).trans rfl) (fun hk26 => ?_)
        have hk26b := zp_int hk26
        refine zp_load (pc := 33) hx hb (zd_X6_wears (33, .aload_n 0, 1, 0, []) (List.mem_of_getElem? (i := 21) rfl)) rfl (j := 1) rfl ?_
        refine zp_getf (n := (wd : Int)) (pc := 34) hx hb hE hw (zd_X6_wears (34, .getfield 11, 3, 0, []) (List.mem_of_getElem? (i := 22) rfl)) (j := 4) rfl rfl rfl hp e0t ?_
        refine zp_const (pc := 37) hx hb (zd_X6_wears (37, .iconst 0, 1, 0, []) (List.mem_of_getElem? (i := 23) rfl)) rfl rfl ?_
        refine zp_iald (j := 0) (v := (Wd 0)) (pc := 38) hx hb hw (zd_X6_wears (38, .iaload, 1, 0, []) (List.mem_of_getElem? (i := 24) rfl)) (show zp_ia 1 27 = some (9, 0, 0, (-2147483648), 2147483647) from rfl) qw (by omega) (by omega) ((hWt 0).trans rfl) (fun hk27 => ?_)
        have hk27b := zp_int hk27
        refine zp_mul (n := ((Wd 0) * (Wd 0))) (pc := 39) hx hb (zd_X6_wears (39, .imul, 1, 0, []) (List.mem_of_getElem? (i := 25) rfl)) (by omega) (zp_r0 (by omega) (by omega)) ?_
        refine zp_goto (tgt := 50) (pc := 40) hx hb (zd_X6_wears (40, .goto 10, 3, 0, []) (List.mem_of_getElem? (i := 26) rfl)) rfl ?_
        refine zp_iret (pc := 50) (n := ((Wd 0) * (Wd 0))) hx hb hE hQ hU5 rfl (by decide) (zd_X6_wears (50, .ireturn, 1, 0, []) (List.mem_of_getElem? (i := 30) rfl)) (j := 0) rfl (zp_o0 (by omega) (by omega) (by omega) (by omega)) ?_
        rw [hps]
        refine ⟨rfl, hWt, ?_⟩
        show ((Wd 0) * (Wd 0)) = zy_we en M (Wd 0)
        exact (zy_we_n hy).symm
    | some v9 =>
      obtain ⟨hb9, hrt⟩ := hvt v9 hy
      refine zp_store (L' := [(1, 1, rnt), (0, 2, (a : Int))]) (pc := 18) hx hb hnL (zd_X6_wears (18, .lstore_n 1, 1, 0, []) (List.mem_of_getElem? (i := 12) rfl)) rfl rfl rfl ?_
      refine zp_load (pc := 19) hx hb (zd_X6_wears (19, .lload_n 1, 1, 0, []) (List.mem_of_getElem? (i := 13) rfl)) rfl (j := 0) rfl ?_
      refine zp_ldc2 (pc := 20) hx hb hE (zd_X6_wears (20, .ldc2_w 53, 3, 0, []) (List.mem_of_getElem? (i := 14) rfl)) (j := 12) rfl ?_
      refine zp_lcmp (pc := 23) (tgt := 43) hx hb (zd_X6_wears (23, .lcmp, 1, 0, []) (List.mem_of_getElem? (i := 15) rfl)) (zd_X6_wears (24, .ifCond .ne 19, 3, 0, []) (List.mem_of_getElem? (i := 16) rfl)) rfl (fun (hc28 : ¬ rnt = (-9000000000)) => ?_) (fun (hc28 : ¬ (¬ rnt = (-9000000000))) => ?_)
      · refine zp_load (pc := 43) hx hb (zd_X6_wears (43, .lload_n 1, 1, 0, []) (List.mem_of_getElem? (i := 27) rfl)) rfl (j := 0) rfl ?_
        refine zp_const (pc := 44) hx hb (zd_X6_wears (44, .sipush 999, 3, 0, []) (List.mem_of_getElem? (i := 28) rfl)) rfl rfl ?_
        refine zp_call (pc := 47) (how := 1) (idx := 55) (mi := 96) (S := []) hx hb hE hw heff hrm (zX_nea hW) rfl (j := 5) rfl rfl (by decide +kernel) (zd_X6_wears (47, .invokestatic 55, 3, 0, []) (List.mem_of_getElem? (i := 29) rfl)) [rnt, 999] rfl ⟨zp_o1 (by first | assumption | exact zp_r1 (by omega) (by omega)), zp_o0 (by decide) (by decide) (by decide) (by decide), trivial⟩ (Nat.le_of_ble_eq_true rfl) trivial (fun al hal rnn Pn Gn hextn hfrn hokn hcsn hpsin => ?_)
        obtain rfl := List.mem_singleton.mp hal
        have hrn := zp_int (hokn _ rfl).1
        have yan := hextn _ _ hp
        have ywdn := hextn _ _ qw
        obtain ⟨hPn, hGn, hrnn⟩ := hpsin
        subst hPn
        subst hGn
        have hrnn : rnn = max 0 (min 999 rnt) := hrnn
        refine zp_iret (pc := 50) (n := rnn) hx hb hE hQ hU5 rfl (by decide) (zd_X6_wears (50, .ireturn, 1, 0, []) (List.mem_of_getElem? (i := 30) rfl)) (j := 0) rfl (zp_o0 (by omega) (by omega) (by omega) (by omega)) ?_
        rw [hps]
        refine ⟨rfl, hWt, ?_⟩
        show rnn = zy_we en M (Wd 0)
        exact (hrnn.trans (by rw [hrt])).trans (zy_we_s hy).symm
      · exfalso
        omega
noncomputable def zK_sn_ : zk_K := (zt_mn 119, prog_8_method_9_code, 3, (Option.some Jvm.ClassFile.FieldType.int), 1, 6, [(2, 6, 0, 0)], [(some (0, 0, (-2147483648), 2147483647), [])], [(27, 1001, 0), (28, 1001, 0)], (2, 120, 0, 0))
noncomputable def zφ_sn_ (wd : Nat) (Wd : Nat → Int) (en : Int → Int → Int) (M : List yK) : (Nat → Option Nat) → (Nat → Nat → Int) → List Int → Prop := fun P G ps => zg_law (zp_0 ps) wd Wd (zg_wp (zg_wh Wd (-1) (-1)) (-1) (-1) (-1)) en M P G ∧ 0 ≤ Wd 0 ∧ Wd 0 ≤ 1000
noncomputable def zψ_sn_ (wd : Nat) (Wd : Nat → Int) (en : Int → Int → Int) (M : List yK) : (Nat → Option Nat) → (Nat → Nat → Int) → List Int → (Nat → Option Nat) → (Nat → Nat → Int) → Int → Prop := fun P G ps P' G' rn => P' = P ∧ (∀ j, G' wd (2000 + j) = (zg_wp (zg_wh Wd (-1) (-1)) (-1) (-1) (-1)) j) ∧ rn = zy_sn en M (Wd 0)
theorem zX_sn_ {l : Launch} {w : zk_W} (hW : zh_W w) (wd : Nat) (Wd : Nat → Int) (en : Int → Int → Int) (M : List yK) : zk_metX l w zt_dv zt_TB zK_sn_ (zp_A (zφ_sn_ wd Wd en M)) (zp_B (zψ_sn_ wd Wd en M)) ∧ zk_cok w zt_TB zK_sn_ := by
  refine zp_methX (cn := "WoundTown$Rules") zp_lkallRu hW (pl := 1058) rfl (by decide +kernel) (fun p e R s m args below meth c Q u hx hb hE hQ hU5 heff hnL hok hφ => ?_)
  have hw := hW.1
  obtain ⟨p0, hps, k0⟩ := zp_ps1 hok
  obtain ⟨a, rfl, hp⟩ := zp_this k0
  have hrm : zk_Kr (zk_ev (zt_types, zp_lkRu, zt_dv, [], [], zp_lcRu, zK_sn_)) = zk_Kr zK_sn_ := rfl
  rw [hps] at hφ ⊢
  have hφ : zg_law a wd Wd (zg_wp (zg_wh Wd (-1) (-1)) (-1) (-1) (-1)) en M u.1 (zp_n u.2.1) ∧ 0 ≤ Wd 0 ∧ Wd 0 ≤ 1000 := hφ
  obtain ⟨⟨⟨-, qw, e0, eW, hWd, hen⟩, hlaw⟩, hT0⟩ := hφ
  have hsq := zg_sq hT0
  show zp_J p l e R s m args below meth c Q w u [] 0 [(0, 2, (a : Int))] [] u.1 (zp_n u.2.1)
  rcases hlaw with ⟨e2, hM0⟩ | ⟨lw, b0, b1, b4, cd, st, N, n0, n1, n4, nc, A, C, hm, hP, ⟨l0, l1, l4, lN, lc, lM⟩, hX⟩
  · subst hM0
    refine zp_load (pc := 0) hx hb (zd_X6_snaps (0, .aload_n 0, 1, 0, []) (List.mem_of_getElem? (i := 0) rfl)) rfl (j := 0) rfl ?_
    refine zp_const (pc := 1) hx hb (zd_X6_snaps (1, .iconst (-1), 1, 0, []) (List.mem_of_getElem? (i := 1) rfl)) rfl rfl ?_
    refine zp_const (pc := 2) hx hb (zd_X6_snaps (2, .iconst (-1), 1, 0, []) (List.mem_of_getElem? (i := 2) rfl)) rfl rfl ?_
    refine zp_call (pc := 3) (how := 0) (idx := 41) (mi := 93) (S := []) hx hb hE hw heff hrm (zX_thr hW wd Wd) rfl (j := 1) rfl rfl (by decide +kernel) (zd_X6_snaps (3, .invokevirtual 41, 3, 0, []) (List.mem_of_getElem? (i := 3) rfl)) [(a : Int), (-1), (-1)] rfl ⟨zp_o2 hp, zp_o0 (by omega) (by omega) (by omega) (by omega), zp_o0 (by omega) (by omega) (by omega) (by omega), trivial⟩ (Nat.le_of_ble_eq_true rfl) ⟨e0, qw, eW⟩ (fun al hal rnh Ph Gh hexth hfrh hokh hcsh hpsih => ?_)
    obtain rfl := List.mem_singleton.mp hal
    have yah := hexth _ _ hp
    have ywdh := hexth _ _ qw
    obtain ⟨hPh, hWh⟩ := hpsih
    have hWh : ∀ j, Gh wd (2000 + j) = (zg_wh Wd (-1) (-1)) j := hWh
    have e0h : Gh a 0 = (wd : Int) := (zp_nf hfrh hp rfl).trans e0
    have e2h : Gh a 2 = -1 := (zp_nf hfrh hp rfl).trans e2
    subst hPh
    refine zp_load (pc := 6) hx hb (zd_X6_snaps (6, .aload_n 0, 1, 0, []) (List.mem_of_getElem? (i := 4) rfl)) rfl (j := 0) rfl ?_
    refine zp_const (pc := 7) hx hb (zd_X6_snaps (7, .iconst (-1), 1, 0, []) (List.mem_of_getElem? (i := 5) rfl)) rfl rfl ?_
    refine zp_const (pc := 8) hx hb (zd_X6_snaps (8, .iconst (-1), 1, 0, []) (List.mem_of_getElem? (i := 6) rfl)) rfl rfl ?_
    refine zp_const (pc := 9) hx hb (zd_X6_snaps (9, .iconst (-1), 1, 0, []) (List.mem_of_getElem? (i := 7) rfl)) rfl rfl ?_
    refine zp_call (pc := 10) (how := 0) (idx := 45) (mi := 94) (S := []) hx hb hE hw heff hrm (zX_tpn hW wd (zg_wh Wd (-1) (-1))) rfl (j := 2) rfl rfl (by decide +kernel) (zd_X6_snaps (10, .invokevirtual 45, 3, 0, []) (List.mem_of_getElem? (i := 8) rfl)) [(a : Int), (-1), (-1), (-1)] rfl ⟨zp_o2 hp, zp_o0 (by omega) (by omega) (by omega) (by omega), zp_o0 (by omega) (by omega) (by omega) (by omega), zp_o0 (by omega) (by omega) (by omega) (by omega), trivial⟩ (Nat.le_of_ble_eq_true rfl) ⟨e0h, qw, hWh⟩ (fun al hal rnp Pp Gp hextp hfrp hokp hcsp hpsip => ?_)
    obtain rfl := List.mem_singleton.mp hal
    have yap := hextp _ _ hp
    have ywdp := hextp _ _ qw
    obtain ⟨hPp, hWp⟩ := hpsip
    have hWp : ∀ j, Gp wd (2000 + j) = (zg_wp (zg_wh Wd (-1) (-1)) (-1) (-1) (-1)) j := hWp
    have e0p : Gp a 0 = (wd : Int) := (zp_nf hfrp hp rfl).trans e0h
    have e2p : Gp a 2 = -1 := (zp_nf hfrp hp rfl).trans e2h
    subst hPp
    refine zp_load (pc := 13) hx hb (zd_X6_snaps (13, .aload_n 0, 1, 0, []) (List.mem_of_getElem? (i := 9) rfl)) rfl (j := 0) rfl ?_
    refine zp_const (pc := 14) hx hb (zd_X6_snaps (14, .iconst 3, 1, 0, []) (List.mem_of_getElem? (i := 10) rfl)) rfl rfl ?_
    refine zp_call (pc := 15) (how := 0) (idx := 49) (mi := 95) (S := []) hx hb hE hw heff hrm (zX_to0 hW) rfl (j := 3) rfl rfl (by decide +kernel) (zd_X6_snaps (15, .invokevirtual 49, 3, 0, []) (List.mem_of_getElem? (i := 11) rfl)) [(a : Int), 3] rfl ⟨zp_o2 hp, zp_o0 (by decide) (by decide) (by decide) (by decide), trivial⟩ (Nat.le_of_ble_eq_true rfl) e2p (fun al hal rnt Pt Gt hextt hfrt hokt hcst hpsit => ?_)
    obtain rfl := List.mem_singleton.mp hal
    have yat := hextt _ _ hp
    have ywdt := hextt _ _ qw
    obtain ⟨hPt, hGt, hrt⟩ := hpsit
    subst hPt
    subst hGt
    have hrt : rnt = -9000000000 := hrt
    refine zp_store (L' := [(1, 1, rnt), (0, 2, (a : Int))]) (pc := 18) hx hb hnL (zd_X6_snaps (18, .lstore_n 1, 1, 0, []) (List.mem_of_getElem? (i := 12) rfl)) rfl rfl rfl ?_
    refine zp_load (pc := 19) hx hb (zd_X6_snaps (19, .lload_n 1, 1, 0, []) (List.mem_of_getElem? (i := 13) rfl)) rfl (j := 0) rfl ?_
    refine zp_ldc2 (pc := 20) hx hb hE (zd_X6_snaps (20, .ldc2_w 53, 3, 0, []) (List.mem_of_getElem? (i := 14) rfl)) (j := 12) rfl ?_
    refine zp_lcmp (pc := 23) (tgt := 43) hx hb (zd_X6_snaps (23, .lcmp, 1, 0, []) (List.mem_of_getElem? (i := 15) rfl)) (zd_X6_snaps (24, .ifCond .ne 19, 3, 0, []) (List.mem_of_getElem? (i := 16) rfl)) rfl (fun (hc29 : ¬ rnt = (-9000000000)) => ?_) (fun (hc29 : ¬ (¬ rnt = (-9000000000))) => ?_)
    · exfalso
      omega
    · refine zp_const (pc := 27) hx hb (zd_X6_snaps (27, .bipush 10, 2, 0, []) (List.mem_of_getElem? (i := 17) rfl)) rfl rfl ?_
      refine zp_load (pc := 29) hx hb (zd_X6_snaps (29, .aload_n 0, 1, 0, []) (List.mem_of_getElem? (i := 18) rfl)) rfl (j := 1) rfl ?_
      refine zp_getf (n := (wd : Int)) (pc := 30) hx hb hE hw (zd_X6_snaps (30, .getfield 11, 3, 0, []) (List.mem_of_getElem? (i := 19) rfl)) (j := 4) rfl rfl rfl hp e0p ?_
      refine zp_const (pc := 33) hx hb (zd_X6_snaps (33, .iconst 0, 1, 0, []) (List.mem_of_getElem? (i := 20) rfl)) rfl rfl ?_
      refine zp_iald (j := 0) (v := (Wd 0)) (pc := 34) hx hb hw (zd_X6_snaps (34, .iaload, 1, 0, []) (List.mem_of_getElem? (i := 21) rfl)) (show zp_ia 1 27 = some (9, 0, 0, (-2147483648), 2147483647) from rfl) qw (by omega) (by omega) ((hWp 0).trans rfl) (fun hk30 => ?_)
      have hk30b := zp_int hk30
      refine zp_const (pc := 35) hx hb (zd_X6_snaps (35, .bipush 9, 2, 0, []) (List.mem_of_getElem? (i := 22) rfl)) rfl rfl ?_
      refine zp_sub (n := ((Wd 0) - 9)) (pc := 37) hx hb (zd_X6_snaps (37, .isub, 1, 0, []) (List.mem_of_getElem? (i := 23) rfl)) (by omega) (zp_r0 (by omega) (by omega)) ?_
      refine zp_mul (n := (10 * ((Wd 0) - 9))) (pc := 38) hx hb (zd_X6_snaps (38, .imul, 1, 0, []) (List.mem_of_getElem? (i := 24) rfl)) (by omega) (zp_r0 (by omega) (by omega)) ?_
      refine zp_i2l (pc := 39) hx hb (zd_X6_snaps (39, .i2l, 1, 0, []) (List.mem_of_getElem? (i := 25) rfl)) ?_
      refine zp_goto (tgt := 44) (pc := 40) hx hb (zd_X6_snaps (40, .goto 4, 3, 0, []) (List.mem_of_getElem? (i := 26) rfl)) rfl ?_
      refine zp_const (pc := 44) hx hb (zd_X6_snaps (44, .bipush 100, 2, 0, []) (List.mem_of_getElem? (i := 28) rfl)) rfl rfl ?_
      refine zp_call (pc := 46) (how := 1) (idx := 55) (mi := 96) (S := []) hx hb hE hw heff hrm (zX_nea hW) rfl (j := 5) rfl rfl (by decide +kernel) (zd_X6_snaps (46, .invokestatic 55, 3, 0, []) (List.mem_of_getElem? (i := 29) rfl)) [(10 * ((Wd 0) - 9)), 100] rfl ⟨zp_o1 (by first | assumption | exact zp_r1 (by omega) (by omega)), zp_o0 (by decide) (by decide) (by decide) (by decide), trivial⟩ (Nat.le_of_ble_eq_true rfl) trivial (fun al hal rnn Pn Gn hextn hfrn hokn hcsn hpsin => ?_)
      obtain rfl := List.mem_singleton.mp hal
      have hrn := zp_int (hokn _ rfl).1
      have yan := hextn _ _ hp
      have ywdn := hextn _ _ qw
      obtain ⟨hPn, hGn, hrnn⟩ := hpsin
      subst hPn
      subst hGn
      have hrnn : rnn = max 0 (min 100 (10 * ((Wd 0) - 9))) := hrnn
      refine zp_iret (pc := 49) (n := rnn) hx hb hE hQ hU5 rfl (by decide) (zd_X6_snaps (49, .ireturn, 1, 0, []) (List.mem_of_getElem? (i := 30) rfl)) (j := 0) rfl (zp_o0 (by omega) (by omega) (by omega) (by omega)) ?_
      rw [hps]
      refine ⟨rfl, hWp, ?_⟩
      show rnn = zy_sn en [] (Wd 0)
      exact hrnn.trans (zy_sn_n (show yw en 3 [] = none from rfl)).symm
  · have hP2 := hP
    obtain ⟨-, qlw, qb0, qb1, qb4, qcd, qst, -⟩ := hP2
    refine zp_load (pc := 0) hx hb (zd_X6_snaps (0, .aload_n 0, 1, 0, []) (List.mem_of_getElem? (i := 0) rfl)) rfl (j := 0) rfl ?_
    refine zp_const (pc := 1) hx hb (zd_X6_snaps (1, .iconst (-1), 1, 0, []) (List.mem_of_getElem? (i := 1) rfl)) rfl rfl ?_
    refine zp_const (pc := 2) hx hb (zd_X6_snaps (2, .iconst (-1), 1, 0, []) (List.mem_of_getElem? (i := 2) rfl)) rfl rfl ?_
    refine zp_call (pc := 3) (how := 0) (idx := 41) (mi := 93) (S := []) hx hb hE hw heff hrm (zX_thr hW wd Wd) rfl (j := 1) rfl rfl (by decide +kernel) (zd_X6_snaps (3, .invokevirtual 41, 3, 0, []) (List.mem_of_getElem? (i := 3) rfl)) [(a : Int), (-1), (-1)] rfl ⟨zp_o2 hp, zp_o0 (by omega) (by omega) (by omega) (by omega), zp_o0 (by omega) (by omega) (by omega) (by omega), trivial⟩ (Nat.le_of_ble_eq_true rfl) ⟨e0, qw, eW⟩ (fun al hal rnh Ph Gh hexth hfrh hokh hcsh hpsih => ?_)
    obtain rfl := List.mem_singleton.mp hal
    have yah := hexth _ _ hp
    have ywdh := hexth _ _ qw
    obtain ⟨hPh, hWh⟩ := hpsih
    have hWh : ∀ j, Gh wd (2000 + j) = (zg_wh Wd (-1) (-1)) j := hWh
    have e0h : Gh a 0 = (wd : Int) := (zp_nf hfrh hp rfl).trans e0
    have hmh := zgW_w hm hP hfrh hWh (by decide +kernel)
    subst hPh
    refine zp_load (pc := 6) hx hb (zd_X6_snaps (6, .aload_n 0, 1, 0, []) (List.mem_of_getElem? (i := 4) rfl)) rfl (j := 0) rfl ?_
    refine zp_const (pc := 7) hx hb (zd_X6_snaps (7, .iconst (-1), 1, 0, []) (List.mem_of_getElem? (i := 5) rfl)) rfl rfl ?_
    refine zp_const (pc := 8) hx hb (zd_X6_snaps (8, .iconst (-1), 1, 0, []) (List.mem_of_getElem? (i := 6) rfl)) rfl rfl ?_
    refine zp_const (pc := 9) hx hb (zd_X6_snaps (9, .iconst (-1), 1, 0, []) (List.mem_of_getElem? (i := 7) rfl)) rfl rfl ?_
    refine zp_call (pc := 10) (how := 0) (idx := 45) (mi := 94) (S := []) hx hb hE hw heff hrm (zX_tpn hW wd (zg_wh Wd (-1) (-1))) rfl (j := 2) rfl rfl (by decide +kernel) (zd_X6_snaps (10, .invokevirtual 45, 3, 0, []) (List.mem_of_getElem? (i := 8) rfl)) [(a : Int), (-1), (-1), (-1)] rfl ⟨zp_o2 hp, zp_o0 (by omega) (by omega) (by omega) (by omega), zp_o0 (by omega) (by omega) (by omega) (by omega), zp_o0 (by omega) (by omega) (by omega) (by omega), trivial⟩ (Nat.le_of_ble_eq_true rfl) ⟨e0h, qw, hWh⟩ (fun al hal rnp Pp Gp hextp hfrp hokp hcsp hpsip => ?_)
    obtain rfl := List.mem_singleton.mp hal
    have yap := hextp _ _ hp
    have ywdp := hextp _ _ qw
    obtain ⟨hPp, hWp⟩ := hpsip
    have hWp : ∀ j, Gp wd (2000 + j) = (zg_wp (zg_wh Wd (-1) (-1)) (-1) (-1) (-1)) j := hWp
    have e0p : Gp a 0 = (wd : Int) := (zp_nf hfrp hp rfl).trans e0h
    have hmp := zgW_w hmh hP hfrp hWp (by decide +kernel)
    subst hPp
    refine zp_load (pc := 13) hx hb (zd_X6_snaps (13, .aload_n 0, 1, 0, []) (List.mem_of_getElem? (i := 9) rfl)) rfl (j := 0) rfl ?_
    refine zp_const (pc := 14) hx hb (zd_X6_snaps (14, .iconst 3, 1, 0, []) (List.mem_of_getElem? (i := 10) rfl)) rfl rfl ?_
    refine zp_call (pc := 15) (how := 0) (idx := 49) (mi := 95) (S := []) hx hb hE hw heff hrm (zX_tod hW lw b0 b1 b4 cd st wd N n0 n1 n4 nc A C (zg_wp (zg_wh Wd (-1) (-1)) (-1) (-1) (-1)) en M) rfl (j := 3) rfl rfl (by decide +kernel) (zd_X6_snaps (15, .invokevirtual 49, 3, 0, []) (List.mem_of_getElem? (i := 11) rfl)) [(a : Int), 3] rfl ⟨zp_o2 hp, zp_o0 (by decide) (by decide) (by decide) (by decide), trivial⟩ (Nat.le_of_ble_eq_true rfl) ⟨hmp, hP, ⟨l0, l1, l4, lN, lc, lM⟩, hX, hWd, hen⟩ (fun al hal rnt Pt Gt hextt hfrt hokt hcst hpsit => ?_)
    obtain rfl := List.mem_singleton.mp hal
    have yat := hextt _ _ hp
    have ywdt := hextt _ _ qw
    obtain ⟨hPt, hvt, hnt⟩ := hpsit
    have hvt : ∀ v, yw en 3 M = some v → (-2147483648 ≤ v ∧ v ≤ 2147483648) ∧ rnt = v := hvt
    have hnt : yw en 3 M = none → rnt = -9000000000 := hnt
    have hWt : ∀ j, Gt wd (2000 + j) = (zg_wp (zg_wh Wd (-1) (-1)) (-1) (-1) (-1)) j := fun j => (zp_nc hfrt qw rfl _).trans (hWp j)
    have e0t : Gt a 0 = (wd : Int) := (zp_nf hfrt hp rfl).trans e0p
    subst hPt
    cases hy : yw en 3 M with
    | none =>
      have hrt := hnt hy
      refine zp_store (L' := [(1, 1, rnt), (0, 2, (a : Int))]) (pc := 18) hx hb hnL (zd_X6_snaps (18, .lstore_n 1, 1, 0, []) (List.mem_of_getElem? (i := 12) rfl)) rfl rfl rfl ?_
      refine zp_load (pc := 19) hx hb (zd_X6_snaps (19, .lload_n 1, 1, 0, []) (List.mem_of_getElem? (i := 13) rfl)) rfl (j := 0) rfl ?_
      refine zp_ldc2 (pc := 20) hx hb hE (zd_X6_snaps (20, .ldc2_w 53, 3, 0, []) (List.mem_of_getElem? (i := 14) rfl)) (j := 12) rfl ?_
      refine zp_lcmp (pc := 23) (tgt := 43) hx hb (zd_X6_snaps (23, .lcmp, 1, 0, []) (List.mem_of_getElem? (i := 15) rfl)) (zd_X6_snaps (24, .ifCond .ne 19, 3, 0, []) (List.mem_of_getElem? (i := 16) rfl)) rfl (fun (hc31 : ¬ rnt = (-9000000000)) => ?_) (fun (hc31 : ¬ (¬ rnt = (-9000000000))) => ?_)
      · exfalso
        omega
      · refine zp_const (pc := 27) hx hb (zd_X6_snaps (27, .bipush 10, 2, 0, []) (List.mem_of_getElem? (i := 17) rfl)) rfl rfl ?_
        refine zp_load (pc := 29) hx hb (zd_X6_snaps (29, .aload_n 0, 1, 0, []) (List.mem_of_getElem? (i := 18) rfl)) rfl (j := 1) rfl ?_
        refine zp_getf (n := (wd : Int)) (pc := 30) hx hb hE hw (zd_X6_snaps (30, .getfield 11, 3, 0, []) (List.mem_of_getElem? (i := 19) rfl)) (j := 4) rfl rfl rfl hp e0t ?_
        refine zp_const (pc := 33) hx hb (zd_X6_snaps (33, .iconst 0, 1, 0, []) (List.mem_of_getElem? (i := 20) rfl)) rfl rfl ?_
        refine zp_iald (j := 0) (v := (Wd 0)) (pc := 34) hx hb hw (zd_X6_snaps (34, .iaload, 1, 0, []) (List.mem_of_getElem? (i := 21) rfl)) (show zp_ia 1 27 = some (9, 0, 0, (-2147483648), 2147483647) from rfl) qw (by omega) (by omega) ((hWt 0).trans rfl) (fun hk32 => ?_)
        have hk32b := zp_int hk32
        refine zp_const (pc := 35) hx hb (zd_X6_snaps (35, .bipush 9, 2, 0, []) (List.mem_of_getElem? (i := 22) rfl)) rfl rfl ?_
        refine zp_sub (n := ((Wd 0) - 9)) (pc := 37) hx hb (zd_X6_snaps (37, .isub, 1, 0, []) (List.mem_of_getElem? (i := 23) rfl)) (by omega) (zp_r0 (by omega) (by omega)) ?_
        refine zp_mul (n := (10 * ((Wd 0) - 9))) (pc := 38) hx hb (zd_X6_snaps (38, .imul, 1, 0, []) (List.mem_of_getElem? (i := 24) rfl)) (by omega) (zp_r0 (by omega) (by omega)) ?_
        refine zp_i2l (pc := 39) hx hb (zd_X6_snaps (39, .i2l, 1, 0, []) (List.mem_of_getElem? (i := 25) rfl)) ?_
        refine zp_goto (tgt := 44) (pc := 40) hx hb (zd_X6_snaps (40, .goto 4, 3, 0, []) (List.mem_of_getElem? (i := 26) rfl)) rfl ?_
        refine zp_const (pc := 44) hx hb (zd_X6_snaps (44, .bipush 100, 2, 0, []) (List.mem_of_getElem? (i := 28) rfl)) rfl rfl ?_
        refine zp_call (pc := 46) (how := 1) (idx := 55) (mi := 96) (S := []) hx hb hE hw heff hrm (zX_nea hW) rfl (j := 5) rfl rfl (by decide +kernel) (zd_X6_snaps (46, .invokestatic 55, 3, 0, []) (List.mem_of_getElem? (i := 29) rfl)) [(10 * ((Wd 0) - 9)), 100] rfl ⟨zp_o1 (by first | assumption | exact zp_r1 (by omega) (by omega)), zp_o0 (by decide) (by decide) (by decide) (by decide), trivial⟩ (Nat.le_of_ble_eq_true rfl) trivial (fun al hal rnn Pn Gn hextn hfrn hokn hcsn hpsin => ?_)
        obtain rfl := List.mem_singleton.mp hal
        have hrn := zp_int (hokn _ rfl).1
        have yan := hextn _ _ hp
        have ywdn := hextn _ _ qw
        obtain ⟨hPn, hGn, hrnn⟩ := hpsin
        subst hPn
        subst hGn
        have hrnn : rnn = max 0 (min 100 (10 * ((Wd 0) - 9))) := hrnn
        refine zp_iret (pc := 49) (n := rnn) hx hb hE hQ hU5 rfl (by decide) (zd_X6_snaps (49, .ireturn, 1, 0, []) (List.mem_of_getElem? (i := 30) rfl)) (j := 0) rfl (zp_o0 (by omega) (by omega) (by omega) (by omega)) ?_
        rw [hps]
        refine ⟨rfl, hWt, ?_⟩
        show rnn = zy_sn en M (Wd 0)
        exact hrnn.trans (zy_sn_n hy).symm
    | some v9 =>
      obtain ⟨hb9, hrt⟩ := hvt v9 hy
      refine zp_store (L' := [(1, 1, rnt), (0, 2, (a : Int))]) (pc := 18) hx hb hnL (zd_X6_snaps (18, .lstore_n 1, 1, 0, []) (List.mem_of_getElem? (i := 12) rfl)) rfl rfl rfl ?_
      refine zp_load (pc := 19) hx hb (zd_X6_snaps (19, .lload_n 1, 1, 0, []) (List.mem_of_getElem? (i := 13) rfl)) rfl (j := 0) rfl ?_
      refine zp_ldc2 (pc := 20) hx hb hE (zd_X6_snaps (20, .ldc2_w 53, 3, 0, []) (List.mem_of_getElem? (i := 14) rfl)) (j := 12) rfl ?_
      refine zp_lcmp (pc := 23) (tgt := 43) hx hb (zd_X6_snaps (23, .lcmp, 1, 0, []) (List.mem_of_getElem? (i := 15) rfl)) (zd_X6_snaps (24, .ifCond .ne 19, 3, 0, []) (List.mem_of_getElem? (i := 16) rfl)) rfl (fun (hc33 : ¬ rnt = (-9000000000)) => ?_) (fun (hc33 : ¬ (¬ rnt = (-9000000000))) => ?_)
      · refine zp_load (pc := 43) hx hb (zd_X6_snaps (43, .lload_n 1, 1, 0, []) (List.mem_of_getElem? (i := 27) rfl)) rfl (j := 0) rfl ?_
        refine zp_const (pc := 44) hx hb (zd_X6_snaps (44, .bipush 100, 2, 0, []) (List.mem_of_getElem? (i := 28) rfl)) rfl rfl ?_
        refine zp_call (pc := 46) (how := 1) (idx := 55) (mi := 96) (S := []) hx hb hE hw heff hrm (zX_nea hW) rfl (j := 5) rfl rfl (by decide +kernel) (zd_X6_snaps (46, .invokestatic 55, 3, 0, []) (List.mem_of_getElem? (i := 29) rfl)) [rnt, 100] rfl ⟨zp_o1 (by first | assumption | exact zp_r1 (by omega) (by omega)), zp_o0 (by decide) (by decide) (by decide) (by decide), trivial⟩ (Nat.le_of_ble_eq_true rfl) trivial (fun al hal rnn Pn Gn hextn hfrn hokn hcsn hpsin => ?_)
        obtain rfl := List.mem_singleton.mp hal
        have hrn := zp_int (hokn _ rfl).1
        have yan := hextn _ _ hp
        have ywdn := hextn _ _ qw
        obtain ⟨hPn, hGn, hrnn⟩ := hpsin
        subst hPn
        subst hGn
        have hrnn : rnn = max 0 (min 100 rnt) := hrnn
        refine zp_iret (pc := 49) (n := rnn) hx hb hE hQ hU5 rfl (by decide) (zd_X6_snaps (49, .ireturn, 1, 0, []) (List.mem_of_getElem? (i := 30) rfl)) (j := 0) rfl (zp_o0 (by omega) (by omega) (by omega) (by omega)) ?_
        rw [hps]
        refine ⟨rfl, hWt, ?_⟩
        show rnn = zy_sn en M (Wd 0)
        exact (hrnn.trans (by rw [hrt])).trans (zy_sn_s hy).symm
      · exfalso
        omega
noncomputable def zK_ru_ : zk_K := (zt_mn 106, prog_8_method_5_code, 5, (Option.some Jvm.ClassFile.FieldType.int), 1, 6, [(2, 6, 0, 0), (0, 0, (-2147483648), 2147483647), (0, 0, (-2147483648), 2147483647)], [(some (0, 0, (-2147483648), 2147483647), [])], [(27, 1001, 0), (28, 1001, 0)], (2, 120, 0, 0))
noncomputable def zφ_ru_ (wd : Nat) (Wd : Nat → Int) (en : Int → Int → Int) (M : List yK) : (Nat → Option Nat) → (Nat → Nat → Int) → List Int → Prop := fun P G ps => zg_law (zp_0 ps) wd Wd (zg_wp (zg_wh Wd (ps.getD 1 0) (ps.getD 2 0)) (-1) (-1) (-1)) en M P G
noncomputable def zψ_ru_ (wd : Nat) (Wd : Nat → Int) (en : Int → Int → Int) (M : List yK) : (Nat → Option Nat) → (Nat → Nat → Int) → List Int → (Nat → Option Nat) → (Nat → Nat → Int) → Int → Prop := fun P G ps P' G' rn => P' = P ∧ (∀ j, G' wd (2000 + j) = (zg_wp (zg_wh Wd (ps.getD 1 0) (ps.getD 2 0)) (-1) (-1) (-1)) j) ∧ rn = zy_ru en M
theorem zX_ru_ {l : Launch} {w : zk_W} (hW : zh_W w) (wd : Nat) (Wd : Nat → Int) (en : Int → Int → Int) (M : List yK) : zk_metX l w zt_dv zt_TB zK_ru_ (zp_A (zφ_ru_ wd Wd en M)) (zp_B (zψ_ru_ wd Wd en M)) ∧ zk_cok w zt_TB zK_ru_ := by
  refine zp_methX (cn := "WoundTown$Rules") zp_lkallRu hW (pl := 1002) rfl (by decide +kernel) (fun p e R s m args below meth c Q u hx hb hE hQ hU5 heff hnL hok hφ => ?_)
  have hw := hW.1
  obtain ⟨p0, p1, p2, hps, k0, k1, k2⟩ := zp_ps3 hok
  obtain ⟨a, rfl, hp⟩ := zp_this k0
  have hrm : zk_Kr (zk_ev (zt_types, zp_lkRu, zt_dv, [], [], zp_lcRu, zK_ru_)) = zk_Kr zK_ru_ := rfl
  rw [hps] at hφ ⊢
  have hi1 := zp_int k1
  have hi2 := zp_int k2
  have hφ : zg_law a wd Wd (zg_wp (zg_wh Wd p1 p2) (-1) (-1) (-1)) en M u.1 (zp_n u.2.1) := hφ
  obtain ⟨⟨-, qw, e0, eW, hWd, hen⟩, hlaw⟩ := hφ
  show zp_J p l e R s m args below meth c Q w u [] 0 [(0, 2, (a : Int)), (1, 0, p1), (2, 0, p2)] [] u.1 (zp_n u.2.1)
  rcases hlaw with ⟨e2, hM0⟩ | ⟨lw, b0, b1, b4, cd, st, N, n0, n1, n4, nc, A, C, hm, hP, ⟨l0, l1, l4, lN, lc, lM⟩, hX⟩
  · subst hM0
    refine zp_load (pc := 0) hx hb (zd_X6_runs (0, .aload_n 0, 1, 0, []) (List.mem_of_getElem? (i := 0) rfl)) rfl (j := 0) rfl ?_
    refine zp_load (pc := 1) hx hb (zd_X6_runs (1, .iload_n 1, 1, 0, []) (List.mem_of_getElem? (i := 1) rfl)) rfl (j := 1) rfl ?_
    refine zp_load (pc := 2) hx hb (zd_X6_runs (2, .iload_n 2, 1, 0, []) (List.mem_of_getElem? (i := 2) rfl)) rfl (j := 2) rfl ?_
    refine zp_call (pc := 3) (how := 0) (idx := 41) (mi := 93) (S := []) hx hb hE hw heff hrm (zX_thr hW wd Wd) rfl (j := 1) rfl rfl (by decide +kernel) (zd_X6_runs (3, .invokevirtual 41, 3, 0, []) (List.mem_of_getElem? (i := 3) rfl)) [(a : Int), p1, p2] rfl ⟨zp_o2 hp, zp_o0 (by omega) (by omega) (by omega) (by omega), zp_o0 (by omega) (by omega) (by omega) (by omega), trivial⟩ (Nat.le_of_ble_eq_true rfl) ⟨e0, qw, eW⟩ (fun al hal rnh Ph Gh hexth hfrh hokh hcsh hpsih => ?_)
    obtain rfl := List.mem_singleton.mp hal
    have yah := hexth _ _ hp
    have ywdh := hexth _ _ qw
    obtain ⟨hPh, hWh⟩ := hpsih
    have hWh : ∀ j, Gh wd (2000 + j) = (zg_wh Wd p1 p2) j := hWh
    have e0h : Gh a 0 = (wd : Int) := (zp_nf hfrh hp rfl).trans e0
    have e2h : Gh a 2 = -1 := (zp_nf hfrh hp rfl).trans e2
    subst hPh
    refine zp_load (pc := 6) hx hb (zd_X6_runs (6, .aload_n 0, 1, 0, []) (List.mem_of_getElem? (i := 4) rfl)) rfl (j := 0) rfl ?_
    refine zp_const (pc := 7) hx hb (zd_X6_runs (7, .iconst (-1), 1, 0, []) (List.mem_of_getElem? (i := 5) rfl)) rfl rfl ?_
    refine zp_const (pc := 8) hx hb (zd_X6_runs (8, .iconst (-1), 1, 0, []) (List.mem_of_getElem? (i := 6) rfl)) rfl rfl ?_
    refine zp_const (pc := 9) hx hb (zd_X6_runs (9, .iconst (-1), 1, 0, []) (List.mem_of_getElem? (i := 7) rfl)) rfl rfl ?_
    refine zp_call (pc := 10) (how := 0) (idx := 45) (mi := 94) (S := []) hx hb hE hw heff hrm (zX_tpn hW wd (zg_wh Wd p1 p2)) rfl (j := 2) rfl rfl (by decide +kernel) (zd_X6_runs (10, .invokevirtual 45, 3, 0, []) (List.mem_of_getElem? (i := 8) rfl)) [(a : Int), (-1), (-1), (-1)] rfl ⟨zp_o2 hp, zp_o0 (by omega) (by omega) (by omega) (by omega), zp_o0 (by omega) (by omega) (by omega) (by omega), zp_o0 (by omega) (by omega) (by omega) (by omega), trivial⟩ (Nat.le_of_ble_eq_true rfl) ⟨e0h, qw, hWh⟩ (fun al hal rnp Pp Gp hextp hfrp hokp hcsp hpsip => ?_)
    obtain rfl := List.mem_singleton.mp hal
    have yap := hextp _ _ hp
    have ywdp := hextp _ _ qw
    obtain ⟨hPp, hWp⟩ := hpsip
    have hWp : ∀ j, Gp wd (2000 + j) = (zg_wp (zg_wh Wd p1 p2) (-1) (-1) (-1)) j := hWp
    have e0p : Gp a 0 = (wd : Int) := (zp_nf hfrp hp rfl).trans e0h
    have e2p : Gp a 2 = -1 := (zp_nf hfrp hp rfl).trans e2h
    subst hPp
    refine zp_load (pc := 13) hx hb (zd_X6_runs (13, .aload_n 0, 1, 0, []) (List.mem_of_getElem? (i := 9) rfl)) rfl (j := 0) rfl ?_
    refine zp_const (pc := 14) hx hb (zd_X6_runs (14, .iconst 0, 1, 0, []) (List.mem_of_getElem? (i := 10) rfl)) rfl rfl ?_
    refine zp_call (pc := 15) (how := 0) (idx := 49) (mi := 95) (S := []) hx hb hE hw heff hrm (zX_to0 hW) rfl (j := 3) rfl rfl (by decide +kernel) (zd_X6_runs (15, .invokevirtual 49, 3, 0, []) (List.mem_of_getElem? (i := 11) rfl)) [(a : Int), 0] rfl ⟨zp_o2 hp, zp_o0 (by decide) (by decide) (by decide) (by decide), trivial⟩ (Nat.le_of_ble_eq_true rfl) e2p (fun al hal rnt Pt Gt hextt hfrt hokt hcst hpsit => ?_)
    obtain rfl := List.mem_singleton.mp hal
    have yat := hextt _ _ hp
    have ywdt := hextt _ _ qw
    obtain ⟨hPt, hGt, hrt⟩ := hpsit
    subst hPt
    subst hGt
    have hrt : rnt = -9000000000 := hrt
    refine zp_store (L' := [(3, 1, rnt), (0, 2, (a : Int)), (1, 0, p1), (2, 0, p2)]) (pc := 18) hx hb hnL (zd_X6_runs (18, .lstore_n 3, 1, 0, []) (List.mem_of_getElem? (i := 12) rfl)) rfl rfl rfl ?_
    refine zp_load (pc := 19) hx hb (zd_X6_runs (19, .lload_n 3, 1, 0, []) (List.mem_of_getElem? (i := 13) rfl)) rfl (j := 0) rfl ?_
    refine zp_ldc2 (pc := 20) hx hb hE (zd_X6_runs (20, .ldc2_w 53, 3, 0, []) (List.mem_of_getElem? (i := 14) rfl)) (j := 12) rfl ?_
    refine zp_lcmp (pc := 23) (tgt := 32) hx hb (zd_X6_runs (23, .lcmp, 1, 0, []) (List.mem_of_getElem? (i := 15) rfl)) (zd_X6_runs (24, .ifCond .ne 8, 3, 0, []) (List.mem_of_getElem? (i := 16) rfl)) rfl (fun (hc34 : ¬ rnt = (-9000000000)) => ?_) (fun (hc34 : ¬ (¬ rnt = (-9000000000))) => ?_)
    · exfalso
      omega
    · refine zp_const (pc := 27) hx hb (zd_X6_runs (27, .bipush 60, 2, 0, []) (List.mem_of_getElem? (i := 17) rfl)) rfl rfl ?_
      refine zp_goto (tgt := 39) (pc := 29) hx hb (zd_X6_runs (29, .goto 10, 3, 0, []) (List.mem_of_getElem? (i := 18) rfl)) rfl ?_
      refine zp_iret (pc := 39) (n := 60) hx hb hE hQ hU5 rfl (by decide) (zd_X6_runs (39, .ireturn, 1, 0, []) (List.mem_of_getElem? (i := 22) rfl)) (j := 0) rfl (zp_o0 (by omega) (by omega) (by omega) (by omega)) ?_
      rw [hps]
      refine ⟨rfl, hWp, ?_⟩
      show 60 = zy_ru en []
      exact (zy_ru_n (show yw en 0 [] = none from rfl)).symm
  · have hP2 := hP
    obtain ⟨-, qlw, qb0, qb1, qb4, qcd, qst, -⟩ := hP2
    refine zp_load (pc := 0) hx hb (zd_X6_runs (0, .aload_n 0, 1, 0, []) (List.mem_of_getElem? (i := 0) rfl)) rfl (j := 0) rfl ?_
    refine zp_load (pc := 1) hx hb (zd_X6_runs (1, .iload_n 1, 1, 0, []) (List.mem_of_getElem? (i := 1) rfl)) rfl (j := 1) rfl ?_
    refine zp_load (pc := 2) hx hb (zd_X6_runs (2, .iload_n 2, 1, 0, []) (List.mem_of_getElem? (i := 2) rfl)) rfl (j := 2) rfl ?_
    refine zp_call (pc := 3) (how := 0) (idx := 41) (mi := 93) (S := []) hx hb hE hw heff hrm (zX_thr hW wd Wd) rfl (j := 1) rfl rfl (by decide +kernel) (zd_X6_runs (3, .invokevirtual 41, 3, 0, []) (List.mem_of_getElem? (i := 3) rfl)) [(a : Int), p1, p2] rfl ⟨zp_o2 hp, zp_o0 (by omega) (by omega) (by omega) (by omega), zp_o0 (by omega) (by omega) (by omega) (by omega), trivial⟩ (Nat.le_of_ble_eq_true rfl) ⟨e0, qw, eW⟩ (fun al hal rnh Ph Gh hexth hfrh hokh hcsh hpsih => ?_)
    obtain rfl := List.mem_singleton.mp hal
    have yah := hexth _ _ hp
    have ywdh := hexth _ _ qw
    obtain ⟨hPh, hWh⟩ := hpsih
    have hWh : ∀ j, Gh wd (2000 + j) = (zg_wh Wd p1 p2) j := hWh
    have e0h : Gh a 0 = (wd : Int) := (zp_nf hfrh hp rfl).trans e0
    have hmh := zgW_w hm hP hfrh hWh (by decide +kernel)
    subst hPh
    refine zp_load (pc := 6) hx hb (zd_X6_runs (6, .aload_n 0, 1, 0, []) (List.mem_of_getElem? (i := 4) rfl)) rfl (j := 0) rfl ?_
    refine zp_const (pc := 7) hx hb (zd_X6_runs (7, .iconst (-1), 1, 0, []) (List.mem_of_getElem? (i := 5) rfl)) rfl rfl ?_
    refine zp_const (pc := 8) hx hb (zd_X6_runs (8, .iconst (-1), 1, 0, []) (List.mem_of_getElem? (i := 6) rfl)) rfl rfl ?_
    refine zp_const (pc := 9) hx hb (zd_X6_runs (9, .iconst (-1), 1, 0, []) (List.mem_of_getElem? (i := 7) rfl)) rfl rfl ?_
    refine zp_call (pc := 10) (how := 0) (idx := 45) (mi := 94) (S := []) hx hb hE hw heff hrm (zX_tpn hW wd (zg_wh Wd p1 p2)) rfl (j := 2) rfl rfl (by decide +kernel) (zd_X6_runs (10, .invokevirtual 45, 3, 0, []) (List.mem_of_getElem? (i := 8) rfl)) [(a : Int), (-1), (-1), (-1)] rfl ⟨zp_o2 hp, zp_o0 (by omega) (by omega) (by omega) (by omega), zp_o0 (by omega) (by omega) (by omega) (by omega), zp_o0 (by omega) (by omega) (by omega) (by omega), trivial⟩ (Nat.le_of_ble_eq_true rfl) ⟨e0h, qw, hWh⟩ (fun al hal rnp Pp Gp hextp hfrp hokp hcsp hpsip => ?_)
    obtain rfl := List.mem_singleton.mp hal
    have yap := hextp _ _ hp
    have ywdp := hextp _ _ qw
    obtain ⟨hPp, hWp⟩ := hpsip
    have hWp : ∀ j, Gp wd (2000 + j) = (zg_wp (zg_wh Wd p1 p2) (-1) (-1) (-1)) j := hWp
    have e0p : Gp a 0 = (wd : Int) := (zp_nf hfrp hp rfl).trans e0h
    have hmp := zgW_w hmh hP hfrp hWp (by decide +kernel)
    subst hPp
    refine zp_load (pc := 13) hx hb (zd_X6_runs (13, .aload_n 0, 1, 0, []) (List.mem_of_getElem? (i := 9) rfl)) rfl (j := 0) rfl ?_
    refine zp_const (pc := 14) hx hb (zd_X6_runs (14, .iconst 0, 1, 0, []) (List.mem_of_getElem? (i := 10) rfl)) rfl rfl ?_
    refine zp_call (pc := 15) (how := 0) (idx := 49) (mi := 95) (S := []) hx hb hE hw heff hrm (zX_tod hW lw b0 b1 b4 cd st wd N n0 n1 n4 nc A C (zg_wp (zg_wh Wd p1 p2) (-1) (-1) (-1)) en M) rfl (j := 3) rfl rfl (by decide +kernel) (zd_X6_runs (15, .invokevirtual 49, 3, 0, []) (List.mem_of_getElem? (i := 11) rfl)) [(a : Int), 0] rfl ⟨zp_o2 hp, zp_o0 (by decide) (by decide) (by decide) (by decide), trivial⟩ (Nat.le_of_ble_eq_true rfl) ⟨hmp, hP, ⟨l0, l1, l4, lN, lc, lM⟩, hX, hWd, hen⟩ (fun al hal rnt Pt Gt hextt hfrt hokt hcst hpsit => ?_)
    obtain rfl := List.mem_singleton.mp hal
    have yat := hextt _ _ hp
    have ywdt := hextt _ _ qw
    obtain ⟨hPt, hvt, hnt⟩ := hpsit
    have hvt : ∀ v, yw en 0 M = some v → (-2147483648 ≤ v ∧ v ≤ 2147483648) ∧ rnt = v := hvt
    have hnt : yw en 0 M = none → rnt = -9000000000 := hnt
    have hWt : ∀ j, Gt wd (2000 + j) = (zg_wp (zg_wh Wd p1 p2) (-1) (-1) (-1)) j := fun j => (zp_nc hfrt qw rfl _).trans (hWp j)
    have e0t : Gt a 0 = (wd : Int) := (zp_nf hfrt hp rfl).trans e0p
    subst hPt
    cases hy : yw en 0 M with
    | none =>
      have hrt := hnt hy
      refine zp_store (L' := [(3, 1, rnt), (0, 2, (a : Int)), (1, 0, p1), (2, 0, p2)]) (pc := 18) hx hb hnL (zd_X6_runs (18, .lstore_n 3, 1, 0, []) (List.mem_of_getElem? (i := 12) rfl)) rfl rfl rfl ?_
      refine zp_load (pc := 19) hx hb (zd_X6_runs (19, .lload_n 3, 1, 0, []) (List.mem_of_getElem? (i := 13) rfl)) rfl (j := 0) rfl ?_
      refine zp_ldc2 (pc := 20) hx hb hE (zd_X6_runs (20, .ldc2_w 53, 3, 0, []) (List.mem_of_getElem? (i := 14) rfl)) (j := 12) rfl ?_
      refine zp_lcmp (pc := 23) (tgt := 32) hx hb (zd_X6_runs (23, .lcmp, 1, 0, []) (List.mem_of_getElem? (i := 15) rfl)) (zd_X6_runs (24, .ifCond .ne 8, 3, 0, []) (List.mem_of_getElem? (i := 16) rfl)) rfl (fun (hc35 : ¬ rnt = (-9000000000)) => ?_) (fun (hc35 : ¬ (¬ rnt = (-9000000000))) => ?_)
      · exfalso
        omega
      · refine zp_const (pc := 27) hx hb (zd_X6_runs (27, .bipush 60, 2, 0, []) (List.mem_of_getElem? (i := 17) rfl)) rfl rfl ?_
        refine zp_goto (tgt := 39) (pc := 29) hx hb (zd_X6_runs (29, .goto 10, 3, 0, []) (List.mem_of_getElem? (i := 18) rfl)) rfl ?_
        refine zp_iret (pc := 39) (n := 60) hx hb hE hQ hU5 rfl (by decide) (zd_X6_runs (39, .ireturn, 1, 0, []) (List.mem_of_getElem? (i := 22) rfl)) (j := 0) rfl (zp_o0 (by omega) (by omega) (by omega) (by omega)) ?_
        rw [hps]
        refine ⟨rfl, hWt, ?_⟩
        show 60 = zy_ru en M
        exact (zy_ru_n hy).symm
    | some v9 =>
      obtain ⟨hb9, hrt⟩ := hvt v9 hy
      refine zp_store (L' := [(3, 1, rnt), (0, 2, (a : Int)), (1, 0, p1), (2, 0, p2)]) (pc := 18) hx hb hnL (zd_X6_runs (18, .lstore_n 3, 1, 0, []) (List.mem_of_getElem? (i := 12) rfl)) rfl rfl rfl ?_
      refine zp_load (pc := 19) hx hb (zd_X6_runs (19, .lload_n 3, 1, 0, []) (List.mem_of_getElem? (i := 13) rfl)) rfl (j := 0) rfl ?_
      refine zp_ldc2 (pc := 20) hx hb hE (zd_X6_runs (20, .ldc2_w 53, 3, 0, []) (List.mem_of_getElem? (i := 14) rfl)) (j := 12) rfl ?_
      refine zp_lcmp (pc := 23) (tgt := 32) hx hb (zd_X6_runs (23, .lcmp, 1, 0, []) (List.mem_of_getElem? (i := 15) rfl)) (zd_X6_runs (24, .ifCond .ne 8, 3, 0, []) (List.mem_of_getElem? (i := 16) rfl)) rfl (fun (hc36 : ¬ rnt = (-9000000000)) => ?_) (fun (hc36 : ¬ (¬ rnt = (-9000000000))) => ?_)
      · refine zp_load (pc := 32) hx hb (zd_X6_runs (32, .lload_n 3, 1, 0, []) (List.mem_of_getElem? (i := 19) rfl)) rfl (j := 0) rfl ?_
        refine zp_const (pc := 33) hx hb (zd_X6_runs (33, .sipush 999, 3, 0, []) (List.mem_of_getElem? (i := 20) rfl)) rfl rfl ?_
        refine zp_call (pc := 36) (how := 1) (idx := 55) (mi := 96) (S := []) hx hb hE hw heff hrm (zX_nea hW) rfl (j := 5) rfl rfl (by decide +kernel) (zd_X6_runs (36, .invokestatic 55, 3, 0, []) (List.mem_of_getElem? (i := 21) rfl)) [rnt, 999] rfl ⟨zp_o1 (by first | assumption | exact zp_r1 (by omega) (by omega)), zp_o0 (by decide) (by decide) (by decide) (by decide), trivial⟩ (Nat.le_of_ble_eq_true rfl) trivial (fun al hal rnn Pn Gn hextn hfrn hokn hcsn hpsin => ?_)
        obtain rfl := List.mem_singleton.mp hal
        have hrn := zp_int (hokn _ rfl).1
        have yan := hextn _ _ hp
        have ywdn := hextn _ _ qw
        obtain ⟨hPn, hGn, hrnn⟩ := hpsin
        subst hPn
        subst hGn
        have hrnn : rnn = max 0 (min 999 rnt) := hrnn
        refine zp_iret (pc := 39) (n := rnn) hx hb hE hQ hU5 rfl (by decide) (zd_X6_runs (39, .ireturn, 1, 0, []) (List.mem_of_getElem? (i := 22) rfl)) (j := 0) rfl (zp_o0 (by omega) (by omega) (by omega) (by omega)) ?_
        rw [hps]
        refine ⟨rfl, hWt, ?_⟩
        show rnn = zy_ru en M
        exact (hrnn.trans (by rw [hrt])).trans (zy_ru_s hy).symm
      · exfalso
        omega
noncomputable def zK_sp_ : zk_K := (zt_mn 111, prog_8_method_6_code, 8, (Option.some Jvm.ClassFile.FieldType.int), 1, 6, [(2, 6, 0, 0), (0, 0, (-2147483648), 2147483647), (0, 0, 0, 100000), (0, 0, (-2147483648), 2147483647), (0, 0, (-2147483648), 2147483647), (0, 0, (-1), 1000)], [(some (0, 0, (-2147483648), 2147483647), [])], [(27, 1001, 0), (28, 1001, 0)], (2, 120, 0, 0))
noncomputable def zφ_sp_ (wd : Nat) (Wd : Nat → Int) (en : Int → Int → Int) (M : List yK) : (Nat → Option Nat) → (Nat → Nat → Int) → List Int → Prop := fun P G ps => zg_law (zp_0 ps) wd Wd (zg_wp (zg_wh Wd (ps.getD 1 0) (ps.getD 2 0)) (ps.getD 3 0) (ps.getD 4 0) (ps.getD 5 0)) en M P G
noncomputable def zψ_sp_ (wd : Nat) (Wd : Nat → Int) (en : Int → Int → Int) (M : List yK) : (Nat → Option Nat) → (Nat → Nat → Int) → List Int → (Nat → Option Nat) → (Nat → Nat → Int) → Int → Prop := fun P G ps P' G' rn => P' = P ∧ (∀ j, G' wd (2000 + j) = (zg_wp (zg_wh Wd (ps.getD 1 0) (ps.getD 2 0)) (ps.getD 3 0) (ps.getD 4 0) (ps.getD 5 0)) j) ∧ rn = zy_sp en M (ps.getD 2 0) (ps.getD 5 0)
theorem zX_sp_ {l : Launch} {w : zk_W} (hW : zh_W w) (wd : Nat) (Wd : Nat → Int) (en : Int → Int → Int) (M : List yK) : zk_metX l w zt_dv zt_TB zK_sp_ (zp_A (zφ_sp_ wd Wd en M)) (zp_B (zψ_sp_ wd Wd en M)) ∧ zk_cok w zt_TB zK_sp_ := by
  refine zp_methX (cn := "WoundTown$Rules") zp_lkallRu hW (pl := 1024) rfl (by decide +kernel) (fun p e R s m args below meth c Q u hx hb hE hQ hU5 heff hnL hok hφ => ?_)
  have hw := hW.1
  obtain ⟨p0, p1, p2, p3, p4, p5, hps, k0, k1, k2, k3, k4, k5⟩ := zp_ps6 hok
  obtain ⟨a, rfl, hp⟩ := zp_this k0
  have hrm : zk_Kr (zk_ev (zt_types, zp_lkRu, zt_dv, [], [], zp_lcRu, zK_sp_)) = zk_Kr zK_sp_ := rfl
  rw [hps] at hφ ⊢
  have hi1 := zp_int k1
  have hi2 := zp_int k2
  have hi3 := zp_int k3
  have hi4 := zp_int k4
  have hi5 := zp_int k5
  have hφ : zg_law a wd Wd (zg_wp (zg_wh Wd p1 p2) p3 p4 p5) en M u.1 (zp_n u.2.1) := hφ
  obtain ⟨⟨-, qw, e0, eW, hWd, hen⟩, hlaw⟩ := hφ
  show zp_J p l e R s m args below meth c Q w u [] 0 [(0, 2, (a : Int)), (1, 0, p1), (2, 0, p2), (3, 0, p3), (4, 0, p4), (5, 0, p5)] [] u.1 (zp_n u.2.1)
  rcases hlaw with ⟨e2, hM0⟩ | ⟨lw, b0, b1, b4, cd, st, N, n0, n1, n4, nc, A, C, hm, hP, ⟨l0, l1, l4, lN, lc, lM⟩, hX⟩
  · subst hM0
    refine zp_load (pc := 0) hx hb (zd_X6_speeds (0, .aload_n 0, 1, 0, []) (List.mem_of_getElem? (i := 0) rfl)) rfl (j := 0) rfl ?_
    refine zp_load (pc := 1) hx hb (zd_X6_speeds (1, .iload_n 1, 1, 0, []) (List.mem_of_getElem? (i := 1) rfl)) rfl (j := 1) rfl ?_
    refine zp_load (pc := 2) hx hb (zd_X6_speeds (2, .iload_n 2, 1, 0, []) (List.mem_of_getElem? (i := 2) rfl)) rfl (j := 2) rfl ?_
    refine zp_call (pc := 3) (how := 0) (idx := 41) (mi := 93) (S := []) hx hb hE hw heff hrm (zX_thr hW wd Wd) rfl (j := 1) rfl rfl (by decide +kernel) (zd_X6_speeds (3, .invokevirtual 41, 3, 0, []) (List.mem_of_getElem? (i := 3) rfl)) [(a : Int), p1, p2] rfl ⟨zp_o2 hp, zp_o0 (by omega) (by omega) (by omega) (by omega), zp_o0 (by omega) (by omega) (by omega) (by omega), trivial⟩ (Nat.le_of_ble_eq_true rfl) ⟨e0, qw, eW⟩ (fun al hal rnh Ph Gh hexth hfrh hokh hcsh hpsih => ?_)
    obtain rfl := List.mem_singleton.mp hal
    have yah := hexth _ _ hp
    have ywdh := hexth _ _ qw
    obtain ⟨hPh, hWh⟩ := hpsih
    have hWh : ∀ j, Gh wd (2000 + j) = (zg_wh Wd p1 p2) j := hWh
    have e0h : Gh a 0 = (wd : Int) := (zp_nf hfrh hp rfl).trans e0
    have e2h : Gh a 2 = -1 := (zp_nf hfrh hp rfl).trans e2
    subst hPh
    refine zp_load (pc := 6) hx hb (zd_X6_speeds (6, .aload_n 0, 1, 0, []) (List.mem_of_getElem? (i := 4) rfl)) rfl (j := 0) rfl ?_
    refine zp_load (pc := 7) hx hb (zd_X6_speeds (7, .iload_n 3, 1, 0, []) (List.mem_of_getElem? (i := 5) rfl)) rfl (j := 3) rfl ?_
    refine zp_load (pc := 8) hx hb (zd_X6_speeds (8, .iload 4, 2, 0, []) (List.mem_of_getElem? (i := 6) rfl)) rfl (j := 4) rfl ?_
    refine zp_load (pc := 10) hx hb (zd_X6_speeds (10, .iload 5, 2, 0, []) (List.mem_of_getElem? (i := 7) rfl)) rfl (j := 5) rfl ?_
    refine zp_call (pc := 12) (how := 0) (idx := 45) (mi := 94) (S := []) hx hb hE hw heff hrm (zX_tpn hW wd (zg_wh Wd p1 p2)) rfl (j := 2) rfl rfl (by decide +kernel) (zd_X6_speeds (12, .invokevirtual 45, 3, 0, []) (List.mem_of_getElem? (i := 8) rfl)) [(a : Int), p3, p4, p5] rfl ⟨zp_o2 hp, zp_o0 (by omega) (by omega) (by omega) (by omega), zp_o0 (by omega) (by omega) (by omega) (by omega), zp_o0 (by omega) (by omega) (by omega) (by omega), trivial⟩ (Nat.le_of_ble_eq_true rfl) ⟨e0h, qw, hWh⟩ (fun al hal rnp Pp Gp hextp hfrp hokp hcsp hpsip => ?_)
    obtain rfl := List.mem_singleton.mp hal
    have yap := hextp _ _ hp
    have ywdp := hextp _ _ qw
    obtain ⟨hPp, hWp⟩ := hpsip
    have hWp : ∀ j, Gp wd (2000 + j) = (zg_wp (zg_wh Wd p1 p2) p3 p4 p5) j := hWp
    have e0p : Gp a 0 = (wd : Int) := (zp_nf hfrp hp rfl).trans e0h
    have e2p : Gp a 2 = -1 := (zp_nf hfrp hp rfl).trans e2h
    subst hPp
    refine zp_load (pc := 15) hx hb (zd_X6_speeds (15, .aload_n 0, 1, 0, []) (List.mem_of_getElem? (i := 9) rfl)) rfl (j := 0) rfl ?_
    refine zp_const (pc := 16) hx hb (zd_X6_speeds (16, .iconst 1, 1, 0, []) (List.mem_of_getElem? (i := 10) rfl)) rfl rfl ?_
    refine zp_call (pc := 17) (how := 0) (idx := 49) (mi := 95) (S := []) hx hb hE hw heff hrm (zX_to0 hW) rfl (j := 3) rfl rfl (by decide +kernel) (zd_X6_speeds (17, .invokevirtual 49, 3, 0, []) (List.mem_of_getElem? (i := 11) rfl)) [(a : Int), 1] rfl ⟨zp_o2 hp, zp_o0 (by decide) (by decide) (by decide) (by decide), trivial⟩ (Nat.le_of_ble_eq_true rfl) e2p (fun al hal rnt Pt Gt hextt hfrt hokt hcst hpsit => ?_)
    obtain rfl := List.mem_singleton.mp hal
    have yat := hextt _ _ hp
    have ywdt := hextt _ _ qw
    obtain ⟨hPt, hGt, hrt⟩ := hpsit
    subst hPt
    subst hGt
    have hrt : rnt = -9000000000 := hrt
    refine zp_store (L' := [(6, 1, rnt), (0, 2, (a : Int)), (1, 0, p1), (2, 0, p2), (3, 0, p3), (4, 0, p4), (5, 0, p5)]) (pc := 20) hx hb hnL (zd_X6_speeds (20, .lstore 6, 2, 0, []) (List.mem_of_getElem? (i := 12) rfl)) rfl rfl rfl ?_
    refine zp_load (pc := 22) hx hb (zd_X6_speeds (22, .lload 6, 2, 0, []) (List.mem_of_getElem? (i := 13) rfl)) rfl (j := 0) rfl ?_
    refine zp_ldc2 (pc := 24) hx hb hE (zd_X6_speeds (24, .ldc2_w 53, 3, 0, []) (List.mem_of_getElem? (i := 14) rfl)) (j := 12) rfl ?_
    refine zp_lcmp (pc := 27) (tgt := 44) hx hb (zd_X6_speeds (27, .lcmp, 1, 0, []) (List.mem_of_getElem? (i := 15) rfl)) (zd_X6_speeds (28, .ifCond .ne 16, 3, 0, []) (List.mem_of_getElem? (i := 16) rfl)) rfl (fun (hc37 : ¬ rnt = (-9000000000)) => ?_) (fun (hc37 : ¬ (¬ rnt = (-9000000000))) => ?_)
    · exfalso
      omega
    · refine zp_load (pc := 31) hx hb (zd_X6_speeds (31, .iload_n 2, 1, 0, []) (List.mem_of_getElem? (i := 17) rfl)) rfl (j := 3) rfl ?_
      refine zp_const (pc := 32) hx hb (zd_X6_speeds (32, .bipush 10, 2, 0, []) (List.mem_of_getElem? (i := 18) rfl)) rfl rfl ?_
      refine zp_idivx (n := (p2 / 10)) (pc := 34) hx hb (zd_X6_speeds (34, .idiv, 1, 0, []) (List.mem_of_getElem? (i := 19) rfl)) (by decide) (by first | exact Int.tdiv_eq_ediv_of_nonneg (by omega) | exact Int.tdiv_eq_ediv (by omega)) (zp_r0 (by omega) (by omega)) ?_
      refine zp_const (pc := 35) hx hb (zd_X6_speeds (35, .iconst 5, 1, 0, []) (List.mem_of_getElem? (i := 20) rfl)) rfl rfl ?_
      refine zp_load (pc := 36) hx hb (zd_X6_speeds (36, .iload 5, 2, 0, []) (List.mem_of_getElem? (i := 21) rfl)) rfl (j := 6) rfl ?_
      refine zp_mul (n := (5 * p5)) (pc := 38) hx hb (zd_X6_speeds (38, .imul, 1, 0, []) (List.mem_of_getElem? (i := 22) rfl)) (by omega) (zp_r0 (by omega) (by omega)) ?_
      refine zp_add (n := ((p2 / 10) + (5 * p5))) (pc := 39) hx hb (zd_X6_speeds (39, .iadd, 1, 0, []) (List.mem_of_getElem? (i := 23) rfl)) (by omega) (zp_r0 (by omega) (by omega)) ?_
      refine zp_i2l (pc := 40) hx hb (zd_X6_speeds (40, .i2l, 1, 0, []) (List.mem_of_getElem? (i := 24) rfl)) ?_
      refine zp_goto (tgt := 46) (pc := 41) hx hb (zd_X6_speeds (41, .goto 5, 3, 0, []) (List.mem_of_getElem? (i := 25) rfl)) rfl ?_
      refine zp_const (pc := 46) hx hb (zd_X6_speeds (46, .bipush 60, 2, 0, []) (List.mem_of_getElem? (i := 27) rfl)) rfl rfl ?_
      refine zp_call (pc := 48) (how := 1) (idx := 55) (mi := 96) (S := []) hx hb hE hw heff hrm (zX_nea hW) rfl (j := 5) rfl rfl (by decide +kernel) (zd_X6_speeds (48, .invokestatic 55, 3, 0, []) (List.mem_of_getElem? (i := 28) rfl)) [((p2 / 10) + (5 * p5)), 60] rfl ⟨zp_o1 (by first | assumption | exact zp_r1 (by omega) (by omega)), zp_o0 (by decide) (by decide) (by decide) (by decide), trivial⟩ (Nat.le_of_ble_eq_true rfl) trivial (fun al hal rnn Pn Gn hextn hfrn hokn hcsn hpsin => ?_)
      obtain rfl := List.mem_singleton.mp hal
      have hrn := zp_int (hokn _ rfl).1
      have yan := hextn _ _ hp
      have ywdn := hextn _ _ qw
      obtain ⟨hPn, hGn, hrnn⟩ := hpsin
      subst hPn
      subst hGn
      have hrnn : rnn = max 0 (min 60 ((p2 / 10) + (5 * p5))) := hrnn
      refine zp_iret (pc := 51) (n := rnn) hx hb hE hQ hU5 rfl (by decide) (zd_X6_speeds (51, .ireturn, 1, 0, []) (List.mem_of_getElem? (i := 29) rfl)) (j := 0) rfl (zp_o0 (by omega) (by omega) (by omega) (by omega)) ?_
      rw [hps]
      refine ⟨rfl, hWp, ?_⟩
      show rnn = zy_sp en [] p2 p5
      exact hrnn.trans (zy_sp_n (show yw en 1 [] = none from rfl)).symm
  · have hP2 := hP
    obtain ⟨-, qlw, qb0, qb1, qb4, qcd, qst, -⟩ := hP2
    refine zp_load (pc := 0) hx hb (zd_X6_speeds (0, .aload_n 0, 1, 0, []) (List.mem_of_getElem? (i := 0) rfl)) rfl (j := 0) rfl ?_
    refine zp_load (pc := 1) hx hb (zd_X6_speeds (1, .iload_n 1, 1, 0, []) (List.mem_of_getElem? (i := 1) rfl)) rfl (j := 1) rfl ?_
    refine zp_load (pc := 2) hx hb (zd_X6_speeds (2, .iload_n 2, 1, 0, []) (List.mem_of_getElem? (i := 2) rfl)) rfl (j := 2) rfl ?_
    refine zp_call (pc := 3) (how := 0) (idx := 41) (mi := 93) (S := []) hx hb hE hw heff hrm (zX_thr hW wd Wd) rfl (j := 1) rfl rfl (by decide +kernel) (zd_X6_speeds (3, .invokevirtual 41, 3, 0, []) (List.mem_of_getElem? (i := 3) rfl)) [(a : Int), p1, p2] rfl ⟨zp_o2 hp, zp_o0 (by omega) (by omega) (by omega) (by omega), zp_o0 (by omega) (by omega) (by omega) (by omega), trivial⟩ (Nat.le_of_ble_eq_true rfl) ⟨e0, qw, eW⟩ (fun al hal rnh Ph Gh hexth hfrh hokh hcsh hpsih => ?_)
    obtain rfl := List.mem_singleton.mp hal
    have yah := hexth _ _ hp
    have ywdh := hexth _ _ qw
    obtain ⟨hPh, hWh⟩ := hpsih
    have hWh : ∀ j, Gh wd (2000 + j) = (zg_wh Wd p1 p2) j := hWh
    have e0h : Gh a 0 = (wd : Int) := (zp_nf hfrh hp rfl).trans e0
    have hmh := zgW_w hm hP hfrh hWh (by decide +kernel)
    subst hPh
    refine zp_load (pc := 6) hx hb (zd_X6_speeds (6, .aload_n 0, 1, 0, []) (List.mem_of_getElem? (i := 4) rfl)) rfl (j := 0) rfl ?_
    refine zp_load (pc := 7) hx hb (zd_X6_speeds (7, .iload_n 3, 1, 0, []) (List.mem_of_getElem? (i := 5) rfl)) rfl (j := 3) rfl ?_
    refine zp_load (pc := 8) hx hb (zd_X6_speeds (8, .iload 4, 2, 0, []) (List.mem_of_getElem? (i := 6) rfl)) rfl (j := 4) rfl ?_
    refine zp_load (pc := 10) hx hb (zd_X6_speeds (10, .iload 5, 2, 0, []) (List.mem_of_getElem? (i := 7) rfl)) rfl (j := 5) rfl ?_
    refine zp_call (pc := 12) (how := 0) (idx := 45) (mi := 94) (S := []) hx hb hE hw heff hrm (zX_tpn hW wd (zg_wh Wd p1 p2)) rfl (j := 2) rfl rfl (by decide +kernel) (zd_X6_speeds (12, .invokevirtual 45, 3, 0, []) (List.mem_of_getElem? (i := 8) rfl)) [(a : Int), p3, p4, p5] rfl ⟨zp_o2 hp, zp_o0 (by omega) (by omega) (by omega) (by omega), zp_o0 (by omega) (by omega) (by omega) (by omega), zp_o0 (by omega) (by omega) (by omega) (by omega), trivial⟩ (Nat.le_of_ble_eq_true rfl) ⟨e0h, qw, hWh⟩ (fun al hal rnp Pp Gp hextp hfrp hokp hcsp hpsip => ?_)
    obtain rfl := List.mem_singleton.mp hal
    have yap := hextp _ _ hp
    have ywdp := hextp _ _ qw
    obtain ⟨hPp, hWp⟩ := hpsip
    have hWp : ∀ j, Gp wd (2000 + j) = (zg_wp (zg_wh Wd p1 p2) p3 p4 p5) j := hWp
    have e0p : Gp a 0 = (wd : Int) := (zp_nf hfrp hp rfl).trans e0h
    have hmp := zgW_w hmh hP hfrp hWp (by decide +kernel)
    subst hPp
    refine zp_load (pc := 15) hx hb (zd_X6_speeds (15, .aload_n 0, 1, 0, []) (List.mem_of_getElem? (i := 9) rfl)) rfl (j := 0) rfl ?_
    refine zp_const (pc := 16) hx hb (zd_X6_speeds (16, .iconst 1, 1, 0, []) (List.mem_of_getElem? (i := 10) rfl)) rfl rfl ?_
    refine zp_call (pc := 17) (how := 0) (idx := 49) (mi := 95) (S := []) hx hb hE hw heff hrm (zX_tod hW lw b0 b1 b4 cd st wd N n0 n1 n4 nc A C (zg_wp (zg_wh Wd p1 p2) p3 p4 p5) en M) rfl (j := 3) rfl rfl (by decide +kernel) (zd_X6_speeds (17, .invokevirtual 49, 3, 0, []) (List.mem_of_getElem? (i := 11) rfl)) [(a : Int), 1] rfl ⟨zp_o2 hp, zp_o0 (by decide) (by decide) (by decide) (by decide), trivial⟩ (Nat.le_of_ble_eq_true rfl) ⟨hmp, hP, ⟨l0, l1, l4, lN, lc, lM⟩, hX, hWd, hen⟩ (fun al hal rnt Pt Gt hextt hfrt hokt hcst hpsit => ?_)
    obtain rfl := List.mem_singleton.mp hal
    have yat := hextt _ _ hp
    have ywdt := hextt _ _ qw
    obtain ⟨hPt, hvt, hnt⟩ := hpsit
    have hvt : ∀ v, yw en 1 M = some v → (-2147483648 ≤ v ∧ v ≤ 2147483648) ∧ rnt = v := hvt
    have hnt : yw en 1 M = none → rnt = -9000000000 := hnt
    have hWt : ∀ j, Gt wd (2000 + j) = (zg_wp (zg_wh Wd p1 p2) p3 p4 p5) j := fun j => (zp_nc hfrt qw rfl _).trans (hWp j)
    have e0t : Gt a 0 = (wd : Int) := (zp_nf hfrt hp rfl).trans e0p
    subst hPt
    cases hy : yw en 1 M with
    | none =>
      have hrt := hnt hy
      refine zp_store (L' := [(6, 1, rnt), (0, 2, (a : Int)), (1, 0, p1), (2, 0, p2), (3, 0, p3), (4, 0, p4), (5, 0, p5)]) (pc := 20) hx hb hnL (zd_X6_speeds (20, .lstore 6, 2, 0, []) (List.mem_of_getElem? (i := 12) rfl)) rfl rfl rfl ?_
      refine zp_load (pc := 22) hx hb (zd_X6_speeds (22, .lload 6, 2, 0, []) (List.mem_of_getElem? (i := 13) rfl)) rfl (j := 0) rfl ?_
      refine zp_ldc2 (pc := 24) hx hb hE (zd_X6_speeds (24, .ldc2_w 53, 3, 0, []) (List.mem_of_getElem? (i := 14) rfl)) (j := 12) rfl ?_
      refine zp_lcmp (pc := 27) (tgt := 44) hx hb (zd_X6_speeds (27, .lcmp, 1, 0, []) (List.mem_of_getElem? (i := 15) rfl)) (zd_X6_speeds (28, .ifCond .ne 16, 3, 0, []) (List.mem_of_getElem? (i := 16) rfl)) rfl (fun (hc38 : ¬ rnt = (-9000000000)) => ?_) (fun (hc38 : ¬ (¬ rnt = (-9000000000))) => ?_)
      · exfalso
        omega
      · refine zp_load (pc := 31) hx hb (zd_X6_speeds (31, .iload_n 2, 1, 0, []) (List.mem_of_getElem? (i := 17) rfl)) rfl (j := 3) rfl ?_
        refine zp_const (pc := 32) hx hb (zd_X6_speeds (32, .bipush 10, 2, 0, []) (List.mem_of_getElem? (i := 18) rfl)) rfl rfl ?_
        refine zp_idivx (n := (p2 / 10)) (pc := 34) hx hb (zd_X6_speeds (34, .idiv, 1, 0, []) (List.mem_of_getElem? (i := 19) rfl)) (by decide) (by first | exact Int.tdiv_eq_ediv_of_nonneg (by omega) | exact Int.tdiv_eq_ediv (by omega)) (zp_r0 (by omega) (by omega)) ?_
        refine zp_const (pc := 35) hx hb (zd_X6_speeds (35, .iconst 5, 1, 0, []) (List.mem_of_getElem? (i := 20) rfl)) rfl rfl ?_
        refine zp_load (pc := 36) hx hb (zd_X6_speeds (36, .iload 5, 2, 0, []) (List.mem_of_getElem? (i := 21) rfl)) rfl (j := 6) rfl ?_
        refine zp_mul (n := (5 * p5)) (pc := 38) hx hb (zd_X6_speeds (38, .imul, 1, 0, []) (List.mem_of_getElem? (i := 22) rfl)) (by omega) (zp_r0 (by omega) (by omega)) ?_
        refine zp_add (n := ((p2 / 10) + (5 * p5))) (pc := 39) hx hb (zd_X6_speeds (39, .iadd, 1, 0, []) (List.mem_of_getElem? (i := 23) rfl)) (by omega) (zp_r0 (by omega) (by omega)) ?_
        refine zp_i2l (pc := 40) hx hb (zd_X6_speeds (40, .i2l, 1, 0, []) (List.mem_of_getElem? (i := 24) rfl)) ?_
        refine zp_goto (tgt := 46) (pc := 41) hx hb (zd_X6_speeds (41, .goto 5, 3, 0, []) (List.mem_of_getElem? (i := 25) rfl)) rfl ?_
        refine zp_const (pc := 46) hx hb (zd_X6_speeds (46, .bipush 60, 2, 0, []) (List.mem_of_getElem? (i := 27) rfl)) rfl rfl ?_
        refine zp_call (pc := 48) (how := 1) (idx := 55) (mi := 96) (S := []) hx hb hE hw heff hrm (zX_nea hW) rfl (j := 5) rfl rfl (by decide +kernel) (zd_X6_speeds (48, .invokestatic 55, 3, 0, []) (List.mem_of_getElem? (i := 28) rfl)) [((p2 / 10) + (5 * p5)), 60] rfl ⟨zp_o1 (by first | assumption | exact zp_r1 (by omega) (by omega)), zp_o0 (by decide) (by decide) (by decide) (by decide), trivial⟩ (Nat.le_of_ble_eq_true rfl) trivial (fun al hal rnn Pn Gn hextn hfrn hokn hcsn hpsin => ?_)
        obtain rfl := List.mem_singleton.mp hal
        have hrn := zp_int (hokn _ rfl).1
        have yan := hextn _ _ hp
        have ywdn := hextn _ _ qw
        obtain ⟨hPn, hGn, hrnn⟩ := hpsin
        subst hPn
        subst hGn
        have hrnn : rnn = max 0 (min 60 ((p2 / 10) + (5 * p5))) := hrnn
        refine zp_iret (pc := 51) (n := rnn) hx hb hE hQ hU5 rfl (by decide) (zd_X6_speeds (51, .ireturn, 1, 0, []) (List.mem_of_getElem? (i := 29) rfl)) (j := 0) rfl (zp_o0 (by omega) (by omega) (by omega) (by omega)) ?_
        rw [hps]
        refine ⟨rfl, hWt, ?_⟩
        show rnn = zy_sp en M p2 p5
        exact hrnn.trans (zy_sp_n hy).symm
    | some v9 =>
      obtain ⟨hb9, hrt⟩ := hvt v9 hy
      refine zp_store (L' := [(6, 1, rnt), (0, 2, (a : Int)), (1, 0, p1), (2, 0, p2), (3, 0, p3), (4, 0, p4), (5, 0, p5)]) (pc := 20) hx hb hnL (zd_X6_speeds (20, .lstore 6, 2, 0, []) (List.mem_of_getElem? (i := 12) rfl)) rfl rfl rfl ?_
      refine zp_load (pc := 22) hx hb (zd_X6_speeds (22, .lload 6, 2, 0, []) (List.mem_of_getElem? (i := 13) rfl)) rfl (j := 0) rfl ?_
      refine zp_ldc2 (pc := 24) hx hb hE (zd_X6_speeds (24, .ldc2_w 53, 3, 0, []) (List.mem_of_getElem? (i := 14) rfl)) (j := 12) rfl ?_
      refine zp_lcmp (pc := 27) (tgt := 44) hx hb (zd_X6_speeds (27, .lcmp, 1, 0, []) (List.mem_of_getElem? (i := 15) rfl)) (zd_X6_speeds (28, .ifCond .ne 16, 3, 0, []) (List.mem_of_getElem? (i := 16) rfl)) rfl (fun (hc39 : ¬ rnt = (-9000000000)) => ?_) (fun (hc39 : ¬ (¬ rnt = (-9000000000))) => ?_)
      · refine zp_load (pc := 44) hx hb (zd_X6_speeds (44, .lload 6, 2, 0, []) (List.mem_of_getElem? (i := 26) rfl)) rfl (j := 0) rfl ?_
        refine zp_const (pc := 46) hx hb (zd_X6_speeds (46, .bipush 60, 2, 0, []) (List.mem_of_getElem? (i := 27) rfl)) rfl rfl ?_
        refine zp_call (pc := 48) (how := 1) (idx := 55) (mi := 96) (S := []) hx hb hE hw heff hrm (zX_nea hW) rfl (j := 5) rfl rfl (by decide +kernel) (zd_X6_speeds (48, .invokestatic 55, 3, 0, []) (List.mem_of_getElem? (i := 28) rfl)) [rnt, 60] rfl ⟨zp_o1 (by first | assumption | exact zp_r1 (by omega) (by omega)), zp_o0 (by decide) (by decide) (by decide) (by decide), trivial⟩ (Nat.le_of_ble_eq_true rfl) trivial (fun al hal rnn Pn Gn hextn hfrn hokn hcsn hpsin => ?_)
        obtain rfl := List.mem_singleton.mp hal
        have hrn := zp_int (hokn _ rfl).1
        have yan := hextn _ _ hp
        have ywdn := hextn _ _ qw
        obtain ⟨hPn, hGn, hrnn⟩ := hpsin
        subst hPn
        subst hGn
        have hrnn : rnn = max 0 (min 60 rnt) := hrnn
        refine zp_iret (pc := 51) (n := rnn) hx hb hE hQ hU5 rfl (by decide) (zd_X6_speeds (51, .ireturn, 1, 0, []) (List.mem_of_getElem? (i := 29) rfl)) (j := 0) rfl (zp_o0 (by omega) (by omega) (by omega) (by omega)) ?_
        rw [hps]
        refine ⟨rfl, hWt, ?_⟩
        show rnn = zy_sp en M p2 p5
        exact (hrnn.trans (by rw [hrt])).trans (zy_sp_s hy).symm
      · exfalso
        omega
noncomputable def zK_ba_ : zk_K := (zt_mn 102, prog_8_method_7_code, 4, (Option.some Jvm.ClassFile.FieldType.boolean), 1, 6, [(2, 6, 0, 0), (0, 0, (-2147483648), 2147483647), (0, 0, (-2147483648), 2147483647), (0, 0, (-2147483648), 2147483647)], [(some (0, 0, 0, 1), [])], [(27, 1001, 0), (28, 1001, 0)], (2, 120, 0, 0))
noncomputable def zφ_ba_ (wd : Nat) (Wd : Nat → Int) (en : Int → Int → Int) (M : List yK) : (Nat → Option Nat) → (Nat → Nat → Int) → List Int → Prop := fun P G ps => zg_law (zp_0 ps) wd Wd (zg_wp (zg_wh Wd (-1) (-1)) (ps.getD 1 0) (ps.getD 2 0) (ps.getD 3 0)) en M P G
noncomputable def zψ_ba_ (wd : Nat) (Wd : Nat → Int) (en : Int → Int → Int) (M : List yK) : (Nat → Option Nat) → (Nat → Nat → Int) → List Int → (Nat → Option Nat) → (Nat → Nat → Int) → Int → Prop := fun P G ps P' G' rn => P' = P ∧ (∀ j, G' wd (2000 + j) = (zg_wp (zg_wh Wd (-1) (-1)) (ps.getD 1 0) (ps.getD 2 0) (ps.getD 3 0)) j) ∧ rn = zy_ba en M
theorem zX_ba_ {l : Launch} {w : zk_W} (hW : zh_W w) (wd : Nat) (Wd : Nat → Int) (en : Int → Int → Int) (M : List yK) : zk_metX l w zt_dv zt_TB zK_ba_ (zp_A (zφ_ba_ wd Wd en M)) (zp_B (zψ_ba_ wd Wd en M)) ∧ zk_cok w zt_TB zK_ba_ := by
  refine zp_methX (cn := "WoundTown$Rules") zp_lkallRu hW (pl := 985) rfl (by decide +kernel) (fun p e R s m args below meth c Q u hx hb hE hQ hU5 heff hnL hok hφ => ?_)
  have hw := hW.1
  obtain ⟨p0, p1, p2, p3, hps, k0, k1, k2, k3⟩ := zp_ps4 hok
  obtain ⟨a, rfl, hp⟩ := zp_this k0
  have hrm : zk_Kr (zk_ev (zt_types, zp_lkRu, zt_dv, [], [], zp_lcRu, zK_ba_)) = zk_Kr zK_ba_ := rfl
  rw [hps] at hφ ⊢
  have hi1 := zp_int k1
  have hi2 := zp_int k2
  have hi3 := zp_int k3
  have hφ : zg_law a wd Wd (zg_wp (zg_wh Wd (-1) (-1)) p1 p2 p3) en M u.1 (zp_n u.2.1) := hφ
  obtain ⟨⟨-, qw, e0, eW, hWd, hen⟩, hlaw⟩ := hφ
  show zp_J p l e R s m args below meth c Q w u [] 0 [(0, 2, (a : Int)), (1, 0, p1), (2, 0, p2), (3, 0, p3)] [] u.1 (zp_n u.2.1)
  rcases hlaw with ⟨e2, hM0⟩ | ⟨lw, b0, b1, b4, cd, st, N, n0, n1, n4, nc, A, C, hm, hP, ⟨l0, l1, l4, lN, lc, lM⟩, hX⟩
  · subst hM0
    refine zp_load (pc := 0) hx hb (zd_X6_bars (0, .aload_n 0, 1, 0, []) (List.mem_of_getElem? (i := 0) rfl)) rfl (j := 0) rfl ?_
    refine zp_const (pc := 1) hx hb (zd_X6_bars (1, .iconst (-1), 1, 0, []) (List.mem_of_getElem? (i := 1) rfl)) rfl rfl ?_
    refine zp_const (pc := 2) hx hb (zd_X6_bars (2, .iconst (-1), 1, 0, []) (List.mem_of_getElem? (i := 2) rfl)) rfl rfl ?_
    refine zp_call (pc := 3) (how := 0) (idx := 41) (mi := 93) (S := []) hx hb hE hw heff hrm (zX_thr hW wd Wd) rfl (j := 1) rfl rfl (by decide +kernel) (zd_X6_bars (3, .invokevirtual 41, 3, 0, []) (List.mem_of_getElem? (i := 3) rfl)) [(a : Int), (-1), (-1)] rfl ⟨zp_o2 hp, zp_o0 (by omega) (by omega) (by omega) (by omega), zp_o0 (by omega) (by omega) (by omega) (by omega), trivial⟩ (Nat.le_of_ble_eq_true rfl) ⟨e0, qw, eW⟩ (fun al hal rnh Ph Gh hexth hfrh hokh hcsh hpsih => ?_)
    obtain rfl := List.mem_singleton.mp hal
    have yah := hexth _ _ hp
    have ywdh := hexth _ _ qw
    obtain ⟨hPh, hWh⟩ := hpsih
    have hWh : ∀ j, Gh wd (2000 + j) = (zg_wh Wd (-1) (-1)) j := hWh
    have e0h : Gh a 0 = (wd : Int) := (zp_nf hfrh hp rfl).trans e0
    have e2h : Gh a 2 = -1 := (zp_nf hfrh hp rfl).trans e2
    subst hPh
    refine zp_load (pc := 6) hx hb (zd_X6_bars (6, .aload_n 0, 1, 0, []) (List.mem_of_getElem? (i := 4) rfl)) rfl (j := 0) rfl ?_
    refine zp_load (pc := 7) hx hb (zd_X6_bars (7, .iload_n 1, 1, 0, []) (List.mem_of_getElem? (i := 5) rfl)) rfl (j := 1) rfl ?_
    refine zp_load (pc := 8) hx hb (zd_X6_bars (8, .iload_n 2, 1, 0, []) (List.mem_of_getElem? (i := 6) rfl)) rfl (j := 2) rfl ?_
    refine zp_load (pc := 9) hx hb (zd_X6_bars (9, .iload_n 3, 1, 0, []) (List.mem_of_getElem? (i := 7) rfl)) rfl (j := 3) rfl ?_
    refine zp_call (pc := 10) (how := 0) (idx := 45) (mi := 94) (S := []) hx hb hE hw heff hrm (zX_tpn hW wd (zg_wh Wd (-1) (-1))) rfl (j := 2) rfl rfl (by decide +kernel) (zd_X6_bars (10, .invokevirtual 45, 3, 0, []) (List.mem_of_getElem? (i := 8) rfl)) [(a : Int), p1, p2, p3] rfl ⟨zp_o2 hp, zp_o0 (by omega) (by omega) (by omega) (by omega), zp_o0 (by omega) (by omega) (by omega) (by omega), zp_o0 (by omega) (by omega) (by omega) (by omega), trivial⟩ (Nat.le_of_ble_eq_true rfl) ⟨e0h, qw, hWh⟩ (fun al hal rnp Pp Gp hextp hfrp hokp hcsp hpsip => ?_)
    obtain rfl := List.mem_singleton.mp hal
    have yap := hextp _ _ hp
    have ywdp := hextp _ _ qw
    obtain ⟨hPp, hWp⟩ := hpsip
    have hWp : ∀ j, Gp wd (2000 + j) = (zg_wp (zg_wh Wd (-1) (-1)) p1 p2 p3) j := hWp
    have e0p : Gp a 0 = (wd : Int) := (zp_nf hfrp hp rfl).trans e0h
    have e2p : Gp a 2 = -1 := (zp_nf hfrp hp rfl).trans e2h
    subst hPp
    refine zp_load (pc := 13) hx hb (zd_X6_bars (13, .aload_n 0, 1, 0, []) (List.mem_of_getElem? (i := 9) rfl)) rfl (j := 0) rfl ?_
    refine zp_const (pc := 14) hx hb (zd_X6_bars (14, .iconst 4, 1, 0, []) (List.mem_of_getElem? (i := 10) rfl)) rfl rfl ?_
    refine zp_call (pc := 15) (how := 0) (idx := 49) (mi := 95) (S := []) hx hb hE hw heff hrm (zX_to0 hW) rfl (j := 3) rfl rfl (by decide +kernel) (zd_X6_bars (15, .invokevirtual 49, 3, 0, []) (List.mem_of_getElem? (i := 11) rfl)) [(a : Int), 4] rfl ⟨zp_o2 hp, zp_o0 (by decide) (by decide) (by decide) (by decide), trivial⟩ (Nat.le_of_ble_eq_true rfl) e2p (fun al hal rnt Pt Gt hextt hfrt hokt hcst hpsit => ?_)
    obtain rfl := List.mem_singleton.mp hal
    have yat := hextt _ _ hp
    have ywdt := hextt _ _ qw
    obtain ⟨hPt, hGt, hrt⟩ := hpsit
    subst hPt
    subst hGt
    have hrt : rnt = -9000000000 := hrt
    refine zp_ldc2 (pc := 18) hx hb hE (zd_X6_bars (18, .ldc2_w 53, 3, 0, []) (List.mem_of_getElem? (i := 12) rfl)) (j := 12) rfl ?_
    refine zp_lcmp (pc := 21) (tgt := 29) hx hb (zd_X6_bars (21, .lcmp, 1, 0, []) (List.mem_of_getElem? (i := 13) rfl)) (zd_X6_bars (22, .ifCond .eq 7, 3, 0, []) (List.mem_of_getElem? (i := 14) rfl)) rfl (fun (hc40 : rnt = (-9000000000)) => ?_) (fun (hc40 : ¬ (rnt = (-9000000000))) => ?_)
    · refine zp_const (pc := 29) hx hb (zd_X6_bars (29, .iconst 0, 1, 0, []) (List.mem_of_getElem? (i := 17) rfl)) rfl rfl ?_
      refine zp_zret (pc := 30) (n := 0) hx hb hE hQ hU5 rfl (by decide) (zd_X6_bars (30, .ireturn, 1, 0, []) (List.mem_of_getElem? (i := 18) rfl)) (j := 0) rfl (zp_o0 (by omega) (by omega) (by omega) (by omega)) ?_
      rw [hps]
      refine ⟨rfl, hWp, ?_⟩
      show 0 = zy_ba en []
      exact (zy_ba_n (show yw en 4 [] = none from rfl)).symm
    · exfalso
      omega
  · have hP2 := hP
    obtain ⟨-, qlw, qb0, qb1, qb4, qcd, qst, -⟩ := hP2
    refine zp_load (pc := 0) hx hb (zd_X6_bars (0, .aload_n 0, 1, 0, []) (List.mem_of_getElem? (i := 0) rfl)) rfl (j := 0) rfl ?_
    refine zp_const (pc := 1) hx hb (zd_X6_bars (1, .iconst (-1), 1, 0, []) (List.mem_of_getElem? (i := 1) rfl)) rfl rfl ?_
    refine zp_const (pc := 2) hx hb (zd_X6_bars (2, .iconst (-1), 1, 0, []) (List.mem_of_getElem? (i := 2) rfl)) rfl rfl ?_
    refine zp_call (pc := 3) (how := 0) (idx := 41) (mi := 93) (S := []) hx hb hE hw heff hrm (zX_thr hW wd Wd) rfl (j := 1) rfl rfl (by decide +kernel) (zd_X6_bars (3, .invokevirtual 41, 3, 0, []) (List.mem_of_getElem? (i := 3) rfl)) [(a : Int), (-1), (-1)] rfl ⟨zp_o2 hp, zp_o0 (by omega) (by omega) (by omega) (by omega), zp_o0 (by omega) (by omega) (by omega) (by omega), trivial⟩ (Nat.le_of_ble_eq_true rfl) ⟨e0, qw, eW⟩ (fun al hal rnh Ph Gh hexth hfrh hokh hcsh hpsih => ?_)
    obtain rfl := List.mem_singleton.mp hal
    have yah := hexth _ _ hp
    have ywdh := hexth _ _ qw
    obtain ⟨hPh, hWh⟩ := hpsih
    have hWh : ∀ j, Gh wd (2000 + j) = (zg_wh Wd (-1) (-1)) j := hWh
    have e0h : Gh a 0 = (wd : Int) := (zp_nf hfrh hp rfl).trans e0
    have hmh := zgW_w hm hP hfrh hWh (by decide +kernel)
    subst hPh
    refine zp_load (pc := 6) hx hb (zd_X6_bars (6, .aload_n 0, 1, 0, []) (List.mem_of_getElem? (i := 4) rfl)) rfl (j := 0) rfl ?_
    refine zp_load (pc := 7) hx hb (zd_X6_bars (7, .iload_n 1, 1, 0, []) (List.mem_of_getElem? (i := 5) rfl)) rfl (j := 1) rfl ?_
    refine zp_load (pc := 8) hx hb (zd_X6_bars (8, .iload_n 2, 1, 0, []) (List.mem_of_getElem? (i := 6) rfl)) rfl (j := 2) rfl ?_
    refine zp_load (pc := 9) hx hb (zd_X6_bars (9, .iload_n 3, 1, 0, []) (List.mem_of_getElem? (i := 7) rfl)) rfl (j := 3) rfl ?_
    refine zp_call (pc := 10) (how := 0) (idx := 45) (mi := 94) (S := []) hx hb hE hw heff hrm (zX_tpn hW wd (zg_wh Wd (-1) (-1))) rfl (j := 2) rfl rfl (by decide +kernel) (zd_X6_bars (10, .invokevirtual 45, 3, 0, []) (List.mem_of_getElem? (i := 8) rfl)) [(a : Int), p1, p2, p3] rfl ⟨zp_o2 hp, zp_o0 (by omega) (by omega) (by omega) (by omega), zp_o0 (by omega) (by omega) (by omega) (by omega), zp_o0 (by omega) (by omega) (by omega) (by omega), trivial⟩ (Nat.le_of_ble_eq_true rfl) ⟨e0h, qw, hWh⟩ (fun al hal rnp Pp Gp hextp hfrp hokp hcsp hpsip => ?_)
    obtain rfl := List.mem_singleton.mp hal
    have yap := hextp _ _ hp
    have ywdp := hextp _ _ qw
    obtain ⟨hPp, hWp⟩ := hpsip
    have hWp : ∀ j, Gp wd (2000 + j) = (zg_wp (zg_wh Wd (-1) (-1)) p1 p2 p3) j := hWp
    have e0p : Gp a 0 = (wd : Int) := (zp_nf hfrp hp rfl).trans e0h
    have hmp := zgW_w hmh hP hfrp hWp (by decide +kernel)
    subst hPp
    refine zp_load (pc := 13) hx hb (zd_X6_bars (13, .aload_n 0, 1, 0, []) (List.mem_of_getElem? (i := 9) rfl)) rfl (j := 0) rfl ?_
    refine zp_const (pc := 14) hx hb (zd_X6_bars (14, .iconst 4, 1, 0, []) (List.mem_of_getElem? (i := 10) rfl)) rfl rfl ?_
    refine zp_call (pc := 15) (how := 0) (idx := 49) (mi := 95) (S := []) hx hb hE hw heff hrm (zX_tod hW lw b0 b1 b4 cd st wd N n0 n1 n4 nc A C (zg_wp (zg_wh Wd (-1) (-1)) p1 p2 p3) en M) rfl (j := 3) rfl rfl (by decide +kernel) (zd_X6_bars (15, .invokevirtual 49, 3, 0, []) (List.mem_of_getElem? (i := 11) rfl)) [(a : Int), 4] rfl ⟨zp_o2 hp, zp_o0 (by decide) (by decide) (by decide) (by decide), trivial⟩ (Nat.le_of_ble_eq_true rfl) ⟨hmp, hP, ⟨l0, l1, l4, lN, lc, lM⟩, hX, hWd, hen⟩ (fun al hal rnt Pt Gt hextt hfrt hokt hcst hpsit => ?_)
    obtain rfl := List.mem_singleton.mp hal
    have yat := hextt _ _ hp
    have ywdt := hextt _ _ qw
    obtain ⟨hPt, hvt, hnt⟩ := hpsit
    have hvt : ∀ v, yw en 4 M = some v → (-2147483648 ≤ v ∧ v ≤ 2147483648) ∧ rnt = v := hvt
    have hnt : yw en 4 M = none → rnt = -9000000000 := hnt
    have hWt : ∀ j, Gt wd (2000 + j) = (zg_wp (zg_wh Wd (-1) (-1)) p1 p2 p3) j := fun j => (zp_nc hfrt qw rfl _).trans (hWp j)
    have e0t : Gt a 0 = (wd : Int) := (zp_nf hfrt hp rfl).trans e0p
    subst hPt
    cases hy : yw en 4 M with
    | none =>
      have hrt := hnt hy
      refine zp_ldc2 (pc := 18) hx hb hE (zd_X6_bars (18, .ldc2_w 53, 3, 0, []) (List.mem_of_getElem? (i := 12) rfl)) (j := 12) rfl ?_
      refine zp_lcmp (pc := 21) (tgt := 29) hx hb (zd_X6_bars (21, .lcmp, 1, 0, []) (List.mem_of_getElem? (i := 13) rfl)) (zd_X6_bars (22, .ifCond .eq 7, 3, 0, []) (List.mem_of_getElem? (i := 14) rfl)) rfl (fun (hc41 : rnt = (-9000000000)) => ?_) (fun (hc41 : ¬ (rnt = (-9000000000))) => ?_)
      · refine zp_const (pc := 29) hx hb (zd_X6_bars (29, .iconst 0, 1, 0, []) (List.mem_of_getElem? (i := 17) rfl)) rfl rfl ?_
        refine zp_zret (pc := 30) (n := 0) hx hb hE hQ hU5 rfl (by decide) (zd_X6_bars (30, .ireturn, 1, 0, []) (List.mem_of_getElem? (i := 18) rfl)) (j := 0) rfl (zp_o0 (by omega) (by omega) (by omega) (by omega)) ?_
        rw [hps]
        refine ⟨rfl, hWt, ?_⟩
        show 0 = zy_ba en M
        exact (zy_ba_n hy).symm
      · exfalso
        omega
    | some v9 =>
      obtain ⟨hb9, hrt⟩ := hvt v9 hy
      refine zp_ldc2 (pc := 18) hx hb hE (zd_X6_bars (18, .ldc2_w 53, 3, 0, []) (List.mem_of_getElem? (i := 12) rfl)) (j := 12) rfl ?_
      refine zp_lcmp (pc := 21) (tgt := 29) hx hb (zd_X6_bars (21, .lcmp, 1, 0, []) (List.mem_of_getElem? (i := 13) rfl)) (zd_X6_bars (22, .ifCond .eq 7, 3, 0, []) (List.mem_of_getElem? (i := 14) rfl)) rfl (fun (hc42 : rnt = (-9000000000)) => ?_) (fun (hc42 : ¬ (rnt = (-9000000000))) => ?_)
      · exfalso
        omega
      · refine zp_const (pc := 25) hx hb (zd_X6_bars (25, .iconst 1, 1, 0, []) (List.mem_of_getElem? (i := 15) rfl)) rfl rfl ?_
        refine zp_goto (tgt := 30) (pc := 26) hx hb (zd_X6_bars (26, .goto 4, 3, 0, []) (List.mem_of_getElem? (i := 16) rfl)) rfl ?_
        refine zp_zret (pc := 30) (n := 1) hx hb hE hQ hU5 rfl (by decide) (zd_X6_bars (30, .ireturn, 1, 0, []) (List.mem_of_getElem? (i := 18) rfl)) (j := 0) rfl (zp_o0 (by omega) (by omega) (by omega) (by omega)) ?_
        rw [hps]
        refine ⟨rfl, hWt, ?_⟩
        show 1 = zy_ba en M
        exact (zy_ba_s hy).symm
