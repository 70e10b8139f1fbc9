/-! part g4: what a law's clauses tell; the class: told -/
/-- a clause's test, its sum, what it tells of h -/
noncomputable def yw_tb (en : Int → Int → Int) (K : yK) : Bool := match K.2.2.2.2 with
  | none => true
  | some y => decide (y en = some 1)
noncomputable def yw_s (en : Int → Int → Int) (K : yK) : Option Int := match K.2.1 with
  | none => some 1
  | some x => x en
noncomputable def yw_1 (en : Int → Int → Int) (h : Int) (K : yK) : Option Int := if K.1 = h ∧ yw_tb en K = true then yw_s en K else none
/-- the last clause that tells -/
noncomputable def yw (en : Int → Int → Int) (h : Int) : List yK → Option Int
  | [] => none
  | K :: r => match yw en h r with
    | some v => some v
    | none => yw_1 en h K
theorem yw_no {en : Int → Int → Int} {h : Int} : ∀ {L : List yK}, (∀ (j : Nat) (K : yK), L[j]? = some K → yw_1 en h K = none) → yw en h L = none
  | [], _ => rfl
  | K :: r, hn => by
    show (match yw en h r with
    | some v => some v
    | none => yw_1 en h K) = none
    rw [yw_no (L := r) (fun j K' hj => hn (j + 1) K' hj)]
    exact hn 0 K rfl
theorem yw_hit {en : Int → Int → Int} {h : Int} : ∀ {L : List yK} {c : Nat} {K : yK} {v : Int}, L[c]? = some K → yw_1 en h K = some v → (∀ (j : Nat) (K' : yK), c < j → L[j]? = some K' → yw_1 en h K' = none) → yw en h L = some v
  | [], c, K, v, h1, _, _ => by simp at h1
  | K0 :: r, 0, K, v, h1, h2, h3 => by
    have e : K0 = K := Option.some.inj h1
    show (match yw en h r with
    | some v => some v
    | none => yw_1 en h K0) = some v
    rw [yw_no (L := r) (fun j K' hj => h3 (j + 1) K' (Nat.succ_pos j) hj), e]
    exact h2
  | K0 :: r, c + 1, K, v, h1, h2, h3 => by
    show (match yw en h r with
    | some v => some v
    | none => yw_1 en h K0) = some v
    rw [yw_hit (L := r) (c := c) h1 h2 (fun j K' hj hK => h3 (j + 1) K' (Nat.succ_lt_succ hj) hK)]
theorem yw_app {en : Int → Int → Int} {h : Int} {K : yK} : ∀ {L : List yK}, yw en h (L ++ [K]) = match yw_1 en h K with
    | some v => some v
    | none => yw en h L
  | [] => by
    show (match yw en h [] with
    | some v => some v
    | none => yw_1 en h K) = _
    show yw_1 en h K = match yw_1 en h K with
    | some v => some v
    | none => none
    cases yw_1 en h K <;> rfl
  | K0 :: r => by
    show (match yw en h (r ++ [K]) with
    | some v => some v
    | none => yw_1 en h K0) = _
    rw [yw_app (L := r)]
    cases yw_1 en h K with
    | some v => rfl
    | none => rfl
theorem zXs_at {A : Nat → Nat → Int} {C : Nat → Int} {N : Nat} {w : Bool} : ∀ {L : List yK} {c i : Nat}, zXs A C N w c L → i < L.length → ∃ K, L[i]? = some K ∧ zXc A C N w (c + i) K
  | [], _, _, _, h => absurd h (Nat.not_lt_zero _)
  | K :: r, c, 0, h, _ => ⟨K, rfl, h.1⟩
  | K :: r, c, i + 1, h, hi => by
    obtain ⟨K', g1, g2⟩ := zXs_at h.2 (i := i) (Nat.lt_of_succ_lt_succ hi)
    refine ⟨K', g1, ?_⟩
    rw [show c + (i + 1) = c + 1 + i by omega]
    exact g2
/-- a law's text and the rules' piles, in memory -/
noncomputable def zgW (a lw b0 b1 b4 cd st wd N n0 n1 n4 nc : Nat) (A : Nat → Nat → Int) (C Wd : Nat → Int) (G : Nat → Nat → Int) : Prop := (G a 0 = (wd : Int) ∧ G a 1 = (st : Int) ∧ G a 2 = (lw : Int)) ∧ (G lw 0 = (b0 : Int) ∧ G lw 1 = (b1 : Int) ∧ G lw 4 = (b4 : Int) ∧ G lw 5 = (cd : Int) ∧ G lw 6 = (nc : Int)) ∧ (G b0 1000 = (n0 : Int) ∧ G b1 1000 = (n1 : Int) ∧ G b4 1000 = (n4 : Int) ∧ G cd 1000 = (N : Int)) ∧ (∀ j, G b0 (2000 + j) = A 0 j) ∧ (∀ j, G b1 (2000 + j) = A 1 j) ∧ (∀ j, G b4 (2000 + j) = A 4 j) ∧ (∀ j, G cd (2000 + j) = C j) ∧ ∀ j, G wd (2000 + j) = Wd j
noncomputable def zgP (P : Nat → Option Nat) (a lw b0 b1 b4 cd st wd : Nat) : Prop := P a = some 6 ∧ P lw = some 9 ∧ P b0 = some 36 ∧ P b1 = some 37 ∧ P b4 = some 40 ∧ P cd = some 41 ∧ P st = some 28 ∧ P wd = some 27
theorem zgW_f {a lw b0 b1 b4 cd st wd N n0 n1 n4 nc : Nat} {A : Nat → Nat → Int} {C Wd : Nat → Int} {G G' : Nat → Nat → Int} {P : Nat → Option Nat} {eff : List (Nat × Nat × Nat)} {ps : List Int} (h : zgW a lw b0 b1 b4 cd st wd N n0 n1 n4 nc A C Wd G) (hP : zgP P a lw b0 b1 b4 cd st wd) (hfr : zp_fr eff ps P G G') (he : (zp_nfb eff 6 0 && (zp_nfb eff 6 1 && (zp_nfb eff 6 2 && (zp_nfb eff 9 0 && (zp_nfb eff 9 1 && (zp_nfb eff 9 4 && (zp_nfb eff 9 5 && (zp_nfb eff 9 6 && (zp_ncb eff 36 && (zp_ncb eff 37 && (zp_ncb eff 40 && (zp_ncb eff 41 && zp_ncb eff 27)))))))))))) = true) : zgW a lw b0 b1 b4 cd st wd N n0 n1 n4 nc A C Wd G' := by
  simp only [Bool.and_eq_true] at he
  obtain ⟨e1, e2, e3, e4, e5, e6, e7, e8, c0, c1, c4, cc, cw⟩ := he
  obtain ⟨p1, p2, p3, p4, p5, p6, p7, p8⟩ := hP
  obtain ⟨⟨m1, m2, m3⟩, ⟨m4, m5, m6, m7, m8⟩, ⟨k0, k1, k4, kc⟩, q0, q1, q4, qc, qw⟩ := h
  exact ⟨⟨(zp_nf hfr p1 e1).trans m1, (zp_nf hfr p1 e2).trans m2, (zp_nf hfr p1 e3).trans m3⟩, ⟨(zp_nf hfr p2 e4).trans m4, (zp_nf hfr p2 e5).trans m5, (zp_nf hfr p2 e6).trans m6, (zp_nf hfr p2 e7).trans m7, (zp_nf hfr p2 e8).trans m8⟩, ⟨(zp_nc hfr p3 c0 _).trans k0, (zp_nc hfr p4 c1 _).trans k1, (zp_nc hfr p5 c4 _).trans k4, (zp_nc hfr p6 cc _).trans kc⟩, fun j => (zp_nc hfr p3 c0 _).trans (q0 j), fun j => (zp_nc hfr p4 c1 _).trans (q1 j), fun j => (zp_nc hfr p5 c4 _).trans (q4 j), fun j => (zp_nc hfr p6 cc _).trans (qc j), fun j => (zp_nc hfr p8 cw _).trans (qw j)⟩
noncomputable def zK_va1 : zk_K := (zt_mn 84, prog_8_method_12_code, 14, (Option.some Jvm.ClassFile.FieldType.long), 1, 6, [(2, 6, 0, 0), (2, 9, 0, 0), (0, 0, (-1), (-1)), (2, 27, 0, 0)], [(some (1, 0, (-9223372036854775808), 9223372036854775807), [])], [], (0, 0, 0, 0))
noncomputable def zψ_va1 : (Nat → Option Nat) → (Nat → Nat → Int) → List Int → (Nat → Option Nat) → (Nat → Nat → Int) → Int → Prop := fun P G ps P' G' rn => P' = P ∧ G' = G ∧ rn = 1
theorem zX_va1 {l : Launch} {w : zk_W} (hW : zh_W w) : zk_metX l w zt_dv zt_TB zK_va1 (zp_A zp_tA) (zp_B zψ_va1) ∧ zk_cok w zt_TB zK_va1 := by
  refine zp_methX (cn := "WoundTown$Rules") zp_lkallRu hW (pl := 910) rfl (by decide +kernel) (fun p e R s m args below meth c Q u hx hb hE hQ hU5 heff hnL hok hφ => ?_)
  have hw := hW.1
  obtain ⟨p0, p1, p2, p3, hps, k0, k1, k2, k3⟩ := zp_ps4 hok
  obtain ⟨a, rfl, hp⟩ := zp_this k0
  have hrm : zk_Kr (zk_ev (zt_types, zp_lkRu, zt_dv, [], [], zp_lcRu, zK_va1)) = zk_Kr zK_va1 := rfl
  rw [hps] at hφ ⊢
  have hi2 := zp_int k2
  obtain rfl : p2 = -1 := by omega
  show zp_J p l e R s m args below meth c Q w u [] 0 [(0, 2, (a : Int)), (1, 2, p1), (2, 0, (-1)), (3, 2, p3)] [] u.1 (zp_n u.2.1)
  refine zp_load (pc := 0) hx hb (zd_X6_value (0, .iload_n 2, 1, 0, []) (List.mem_of_getElem? (i := 0) rfl)) rfl (j := 2) rfl ?_
  refine zp_const (pc := 1) hx hb (zd_X6_value (1, .iconst (-1), 1, 0, []) (List.mem_of_getElem? (i := 1) rfl)) rfl rfl ?_
  refine zp_icmp (pc := 2) (tgt := 7) hx hb (zd_X6_value (2, .if_icmp .ne 5, 3, 0, []) (List.mem_of_getElem? (i := 2) rfl)) rfl (fun (hc21 : ¬ (-1) = (-1)) => ?_) (fun (hc21 : ¬ (¬ (-1) = (-1))) => ?_)
  · exfalso
    omega
  · refine zp_const (pc := 5) hx hb (zd_X6_value (5, .lconst 1, 1, 0, []) (List.mem_of_getElem? (i := 3) rfl)) rfl rfl ?_
    refine zp_lret (pc := 6) (n := 1) hx hb hE hQ hU5 rfl (by decide) (zd_X6_value (6, .lreturn, 1, 0, []) (List.mem_of_getElem? (i := 4) rfl)) (j := 0) rfl (zp_o1 (by first | assumption | exact zp_r1 (by omega) (by omega))) ?_
    rw [hps]
    exact ⟨rfl, rfl, rfl⟩
noncomputable def zK_tod : zk_K := (zt_mn 95, prog_8_method_11_code, 5, (Option.some Jvm.ClassFile.FieldType.long), 1, 6, [(2, 6, 0, 0), (0, 0, 0, 4)], [(some (1, 0, (-9223372036854775808), 9223372036854775807), [])], [(28, 1001, 0)], (1, 60, 0, 0))
noncomputable def zφ_tod (lw b0 b1 b4 cd st wd N n0 n1 n4 nc : Nat) (A : Nat → Nat → Int) (C Wd : Nat → Int) (en : Int → Int → Int) (M : List yK) : (Nat → Option Nat) → (Nat → Nat → Int) → List Int → Prop := fun P G ps => zgW (zp_0 ps) lw b0 b1 b4 cd st wd N n0 n1 n4 nc A C Wd G ∧ zgP P (zp_0 ps) lw b0 b1 b4 cd st wd ∧ (nc ≤ n0 ∧ nc ≤ n1 ∧ nc ≤ n4 ∧ N ≤ 872 ∧ nc ≤ 12 ∧ M.length = nc) ∧ zXs A C N false 0 M ∧ (∀ j, j < 9 → -2147483648 ≤ Wd j ∧ Wd j ≤ 2147483648) ∧ ∀ s v, yl_ok false s v → en (yl_o false s v) (yl_a false s v) = if s = 1 then v else Wd v.toNat
noncomputable def zψ_tod (lw b0 b1 b4 cd st wd N n0 n1 n4 nc : Nat) (A : Nat → Nat → Int) (C Wd : Nat → Int) (en : Int → Int → Int) (M : List yK) : (Nat → Option Nat) → (Nat → Nat → Int) → List Int → (Nat → Option Nat) → (Nat → Nat → Int) → Int → Prop := fun P G ps P' G' rn => P' = P ∧ (∀ v, yw en (ps.getD 1 0) M = some v → (-2147483648 ≤ v ∧ v ≤ 2147483648) ∧ rn = v) ∧ (yw en (ps.getD 1 0) M = none → rn = (-9000000000))
theorem zX_tod {l : Launch} {w : zk_W} (hW : zh_W w) (lw b0 b1 b4 cd st wd N n0 n1 n4 nc : Nat) (A : Nat → Nat → Int) (C Wd : Nat → Int) (en : Int → Int → Int) (M : List yK) : zk_metX l w zt_dv zt_TB zK_tod (zp_A (zφ_tod lw b0 b1 b4 cd st wd N n0 n1 n4 nc A C Wd en M)) (zp_B (zψ_tod lw b0 b1 b4 cd st wd N n0 n1 n4 nc A C Wd en M)) ∧ zk_cok w zt_TB zK_tod := by
  refine zp_methX (cn := "WoundTown$Rules") zp_lkallRu hW (pl := 957) rfl (by decide +kernel) (fun p e R s m args below meth c Q u hx hb hE hQ hU5 heff hnL hok hφ => ?_)
  have hw := hW.1
  obtain ⟨p0, p1, hps, k0, k1⟩ := zp_ps2 hok
  obtain ⟨a, rfl, hp⟩ := zp_this k0
  have hrm : zk_Kr (zk_ev (zt_types, zp_lkRu, zt_dv, [], [], zp_lcRu, zK_tod)) = zk_Kr zK_tod := rfl
  rw [hps] at hφ ⊢
  have hi1 := zp_int k1
  have hφ : zgW a lw b0 b1 b4 cd st wd N n0 n1 n4 nc A C Wd (zp_n u.2.1) ∧ zgP u.1 a lw b0 b1 b4 cd st wd ∧ (nc ≤ n0 ∧ nc ≤ n1 ∧ nc ≤ n4 ∧ N ≤ 872 ∧ nc ≤ 12 ∧ M.length = nc) ∧ zXs A C N false 0 M ∧ (∀ j, j < 9 → -2147483648 ≤ Wd j ∧ Wd j ≤ 2147483648) ∧ ∀ s v, yl_ok false s v → en (yl_o false s v) (yl_a false s v) = if s = 1 then v else Wd v.toNat := hφ
  obtain ⟨hm0, hP, ⟨l0, l1, l4, lN, lc, lM⟩, hX, hWd, hen⟩ := hφ
  have hP2 := hP
  obtain ⟨-, qlw, qb0, qb1, qb4, qcd, qst, qwd⟩ := hP2
  have loop : ∀ (n9 : Nat) (G : Nat → Nat → Int), n9 ≤ nc → zgW a lw b0 b1 b4 cd st wd N n0 n1 n4 nc A C Wd G → (∀ (j : Nat) (K : yK), n9 ≤ j → M[j]? = some K → yw_1 en p1 K = none) → zp_J p l e R s m args below meth c Q w u [] 21 [(2, 0, ((n9 : Nat) : Int) - 1), (0, 2, (a : Int)), (1, 0, p1)] [] u.1 G := by
    intro n9
    induction n9 with
    | zero =>
      intro G hn hm hno
      refine zp_drop (L' := [(2, 0, (-1)), (0, 2, (a : Int)), (1, 0, p1)]) (by simp) ?_
      refine zp_load (pc := 21) hx hb (zd_X6_told (21, .iload_n 2, 1, 0, []) (List.mem_of_getElem? (i := 11) rfl)) rfl (j := 0) rfl ?_
      refine zp_if (pc := 22) (tgt := 105) hx hb (zd_X6_told (22, .ifCond .lt 83, 3, 0, []) (List.mem_of_getElem? (i := 12) rfl)) rfl (fun (hc22 : (-1) < 0) => ?_) (fun (hc22 : ¬ ((-1) < 0)) => ?_)
      · refine zp_ldc2 (pc := 105) hx hb hE (zd_X6_told (105, .ldc2_w 53, 3, 0, []) (List.mem_of_getElem? (i := 55) rfl)) (j := 12) rfl ?_
        have hz := yw_no (en := en) (h := p1) (L := M) (fun j K hj => hno j K (Nat.zero_le _) hj)
        have h99 : zk_rg 1 (-9000000000) := ⟨by decide, by decide⟩
        refine zp_lret (pc := 108) (n := (-9000000000)) hx hb hE hQ hU5 rfl (by decide) (zd_X6_told (108, .lreturn, 1, 0, []) (List.mem_of_getElem? (i := 56) rfl)) (j := 0) rfl (zp_o1 (by first | assumption | exact zp_r1 (by omega) (by omega))) ?_
        rw [hps]
        exact ⟨rfl, fun v hv => (by have hv : yw en p1 M = some v := hv; rw [hz] at hv; cases hv), fun _ => rfl⟩
      · exfalso
        omega
    | succ c9 ih =>
      intro G hn hm hno
      obtain ⟨K, hK, hKc⟩ := zXs_at hX (i := c9) (by omega)
      rw [Nat.zero_add] at hKc
      obtain ⟨⟨a0, a01, a02⟩, a1, -, -, a4⟩ := hKc
      refine zp_drop (L' := [(2, 0, (c9 : Int)), (0, 2, (a : Int)), (1, 0, p1)]) (by simp <;> omega) ?_
      rcases a1 with ⟨s0, s1⟩ | ⟨xs9, s0, bs, es, ks, fs, s1, s2, s3, s4, s5⟩
      · rcases a4 with ⟨t0, t1⟩ | ⟨yt, t0, ⟨bt, et, kt, ft, t1, t2, t3, t4, t5⟩, t6⟩
        · have hk0 := a0
          refine zp_load (pc := 21) hx hb (zd_X6_told (21, .iload_n 2, 1, 0, []) (List.mem_of_getElem? (i := 11) rfl)) rfl (j := 0) rfl ?_
          refine zp_if (pc := 22) (tgt := 105) hx hb (zd_X6_told (22, .ifCond .lt 83, 3, 0, []) (List.mem_of_getElem? (i := 12) rfl)) rfl (fun (hc23 : (c9 : Int) < 0) => ?_) (fun (hc23 : ¬ ((c9 : Int) < 0)) => ?_)
          · exfalso
            omega
          · refine zp_load (pc := 25) hx hb (zd_X6_told (25, .aload_n 0, 1, 0, []) (List.mem_of_getElem? (i := 13) rfl)) rfl (j := 1) rfl ?_
            refine zp_getf (n := (lw : Int)) (pc := 26) hx hb hE hw (zd_X6_told (26, .getfield 25, 3, 0, []) (List.mem_of_getElem? (i := 14) rfl)) (j := 6) rfl rfl rfl hp hm.1.2.2 ?_
            refine zp_getf (n := (b0 : Int)) (pc := 29) hx hb hE hw (zd_X6_told (29, .getfield 73, 3, 0, []) (List.mem_of_getElem? (i := 15) rfl)) (j := 7) rfl rfl rfl qlw hm.2.1.1 ?_
            refine zp_load (pc := 32) hx hb (zd_X6_told (32, .iload_n 2, 1, 0, []) (List.mem_of_getElem? (i := 16) rfl)) rfl (j := 0) rfl ?_
            refine zp_ialdN (j := c9) (v := (A 0 c9)) (N := n0) (pc := 33) hx hb hw (zd_X6_told (33, .iaload, 1, 0, []) (List.mem_of_getElem? (i := 17) rfl)) (show zp_ia 1 36 = some (0, 0, 0, (-2147483648), 2147483647) from rfl) ⟨_, rfl, by decide⟩ hm.2.2.1.1 qb0 (by omega) (by omega) (hm.2.2.2.1 c9) (fun hk24 => ?_)
            have hk24b := zp_int hk24
            refine zp_load (pc := 34) hx hb (zd_X6_told (34, .iload_n 1, 1, 0, []) (List.mem_of_getElem? (i := 18) rfl)) rfl (j := 2) rfl ?_
            refine zp_icmp (pc := 35) (tgt := 99) hx hb (zd_X6_told (35, .if_icmp .ne 64, 3, 0, []) (List.mem_of_getElem? (i := 19) rfl)) rfl (fun (hc25 : ¬ (A 0 c9) = p1) => ?_) (fun (hc25 : ¬ (¬ (A 0 c9) = p1)) => ?_)
            · refine zp_iinc (L' := [(2, 0, ((c9 : Int) - 1)), (0, 2, (a : Int)), (1, 0, p1)]) (n := ((c9 : Int) - 1)) (pc := 99) hx hb hnL (zd_X6_told (99, .iinc 2 (-1), 3, 0, []) (List.mem_of_getElem? (i := 53) rfl)) (j := 0) rfl (by omega) (zp_r0 (by omega) (by omega)) rfl rfl ?_
              refine zp_goto (tgt := 21) (pc := 102) hx hb (zd_X6_told (102, .goto (-81), 3, 0, []) (List.mem_of_getElem? (i := 54) rfl)) rfl ?_
              refine zp_drop (L' := [(2, 0, ((c9 : Int) - 1)), (0, 2, (a : Int)), (1, 0, p1)]) (by simp) ?_
              exact ih _ (by omega) hm (fun j K9 hj hK9 => by
                by_cases hj9 : j = c9
                · subst hj9
                  rw [hK] at hK9
                  obtain rfl := Option.some.inj hK9
                  exact by unfold yw_1; exact if_neg (fun h9 => by have := h9.1; omega)
                · exact hno j K9 (by omega) hK9)
            · refine zp_load (pc := 38) hx hb (zd_X6_told (38, .aload_n 0, 1, 0, []) (List.mem_of_getElem? (i := 20) rfl)) rfl (j := 1) rfl ?_
              refine zp_load (pc := 39) hx hb (zd_X6_told (39, .aload_n 0, 1, 0, []) (List.mem_of_getElem? (i := 21) rfl)) rfl (j := 1) rfl ?_
              refine zp_getf (n := (lw : Int)) (pc := 40) hx hb hE hw (zd_X6_told (40, .getfield 25, 3, 0, []) (List.mem_of_getElem? (i := 22) rfl)) (j := 6) rfl rfl rfl hp hm.1.2.2 ?_
              refine zp_load (pc := 43) hx hb (zd_X6_told (43, .aload_n 0, 1, 0, []) (List.mem_of_getElem? (i := 23) rfl)) rfl (j := 1) rfl ?_
              refine zp_getf (n := (lw : Int)) (pc := 44) hx hb hE hw (zd_X6_told (44, .getfield 25, 3, 0, []) (List.mem_of_getElem? (i := 24) rfl)) (j := 6) rfl rfl rfl hp hm.1.2.2 ?_
              refine zp_getf (n := (b4 : Int)) (pc := 47) hx hb hE hw (zd_X6_told (47, .getfield 76, 3, 0, []) (List.mem_of_getElem? (i := 25) rfl)) (j := 9) rfl rfl rfl qlw hm.2.1.2.2.1 ?_
              refine zp_load (pc := 50) hx hb (zd_X6_told (50, .iload_n 2, 1, 0, []) (List.mem_of_getElem? (i := 26) rfl)) rfl (j := 0) rfl ?_
              refine zp_ialdN (j := c9) (v := (-1)) (N := n4) (pc := 51) hx hb hw (zd_X6_told (51, .iaload, 1, 0, []) (List.mem_of_getElem? (i := 27) rfl)) (show zp_ia 1 40 = some (0, 0, 0, (-1), 872) from rfl) ⟨_, rfl, by decide⟩ hm.2.2.1.2.2.1 qb4 (by omega) (by omega) ((hm.2.2.2.2.2.1 c9).trans t1) (fun hk26 => ?_)
              have hk26b := zp_int hk26
              refine zp_load (pc := 52) hx hb (zd_X6_told (52, .aload_n 0, 1, 0, []) (List.mem_of_getElem? (i := 28) rfl)) rfl (j := 1) rfl ?_
              refine zp_getf (n := (wd : Int)) (pc := 53) hx hb hE hw (zd_X6_told (53, .getfield 11, 3, 0, []) (List.mem_of_getElem? (i := 29) rfl)) (j := 4) rfl rfl rfl hp hm.1.1 ?_
              refine zp_call (pc := 56) (how := 0) (idx := 79) (mi := 84) (S := []) hx hb hE hw heff hrm (zX_va1 hW) rfl (j := 4) rfl rfl (by decide +kernel) (zd_X6_told (56, .invokevirtual 79, 3, 0, []) (List.mem_of_getElem? (i := 30) rfl)) [(a : Int), (lw : Int), (-1), (wd : Int)] rfl ⟨zp_o2 hp, zp_o2 qlw, zp_o0 (by decide) (by decide) (by decide) (by decide), zp_o2 qwd, trivial⟩ (Nat.le_of_ble_eq_true rfl) trivial (fun al hal rnt Pt Gt hextt hfrt hokt hcst hpsit => ?_)
              obtain rfl := List.mem_singleton.mp hal
              have yat := hextt _ _ hp
              have ylwt := hextt _ _ qlw
              have yb0t := hextt _ _ qb0
              have yb1t := hextt _ _ qb1
              have yb4t := hextt _ _ qb4
              have ycdt := hextt _ _ qcd
              have ystt := hextt _ _ qst
              have ywdt := hextt _ _ qwd
              obtain ⟨hPt, hGt, hrt⟩ := hpsit
              subst hPt
              subst hGt
              refine zp_const (pc := 59) hx hb (zd_X6_told (59, .lconst 1, 1, 0, []) (List.mem_of_getElem? (i := 31) rfl)) rfl rfl ?_
              refine zp_lcmp (pc := 60) (tgt := 67) hx hb (zd_X6_told (60, .lcmp, 1, 0, []) (List.mem_of_getElem? (i := 32) rfl)) (zd_X6_told (61, .ifCond .eq 6, 3, 0, []) (List.mem_of_getElem? (i := 33) rfl)) rfl (fun (hc27 : rnt = 1) => ?_) (fun (hc27 : ¬ (rnt = 1)) => ?_)
              · refine zp_load (pc := 67) hx hb (zd_X6_told (67, .aload_n 0, 1, 0, []) (List.mem_of_getElem? (i := 35) rfl)) rfl (j := 1) rfl ?_
                refine zp_load (pc := 68) hx hb (zd_X6_told (68, .aload_n 0, 1, 0, []) (List.mem_of_getElem? (i := 36) rfl)) rfl (j := 1) rfl ?_
                refine zp_getf (n := (lw : Int)) (pc := 69) hx hb hE hw (zd_X6_told (69, .getfield 25, 3, 0, []) (List.mem_of_getElem? (i := 37) rfl)) (j := 6) rfl rfl rfl hp hm.1.2.2 ?_
                refine zp_load (pc := 72) hx hb (zd_X6_told (72, .aload_n 0, 1, 0, []) (List.mem_of_getElem? (i := 38) rfl)) rfl (j := 1) rfl ?_
                refine zp_getf (n := (lw : Int)) (pc := 73) hx hb hE hw (zd_X6_told (73, .getfield 25, 3, 0, []) (List.mem_of_getElem? (i := 39) rfl)) (j := 6) rfl rfl rfl hp hm.1.2.2 ?_
                refine zp_getf (n := (b1 : Int)) (pc := 76) hx hb hE hw (zd_X6_told (76, .getfield 83, 3, 0, []) (List.mem_of_getElem? (i := 40) rfl)) (j := 8) rfl rfl rfl qlw hm.2.1.2.1 ?_
                refine zp_load (pc := 79) hx hb (zd_X6_told (79, .iload_n 2, 1, 0, []) (List.mem_of_getElem? (i := 41) rfl)) rfl (j := 0) rfl ?_
                refine zp_ialdN (j := c9) (v := (-1)) (N := n1) (pc := 80) hx hb hw (zd_X6_told (80, .iaload, 1, 0, []) (List.mem_of_getElem? (i := 42) rfl)) (show zp_ia 1 37 = some (0, 0, 0, (-1), 872) from rfl) ⟨_, rfl, by decide⟩ hm.2.2.1.2.1 qb1 (by omega) (by omega) ((hm.2.2.2.2.1 c9).trans s1) (fun hk28 => ?_)
                have hk28b := zp_int hk28
                refine zp_load (pc := 81) hx hb (zd_X6_told (81, .aload_n 0, 1, 0, []) (List.mem_of_getElem? (i := 43) rfl)) rfl (j := 1) rfl ?_
                refine zp_getf (n := (wd : Int)) (pc := 82) hx hb hE hw (zd_X6_told (82, .getfield 11, 3, 0, []) (List.mem_of_getElem? (i := 44) rfl)) (j := 4) rfl rfl rfl hp hm.1.1 ?_
                refine zp_call (pc := 85) (how := 0) (idx := 79) (mi := 84) (S := []) hx hb hE hw heff hrm (zX_va1 hW) rfl (j := 4) rfl rfl (by decide +kernel) (zd_X6_told (85, .invokevirtual 79, 3, 0, []) (List.mem_of_getElem? (i := 45) rfl)) [(a : Int), (lw : Int), (-1), (wd : Int)] rfl ⟨zp_o2 hp, zp_o2 qlw, zp_o0 (by decide) (by decide) (by decide) (by decide), zp_o2 qwd, trivial⟩ (Nat.le_of_ble_eq_true rfl) trivial (fun al hal rns Ps Gs hexts hfrs hoks hcss hpsis => ?_)
                obtain rfl := List.mem_singleton.mp hal
                have yas := hexts _ _ hp
                have ylws := hexts _ _ qlw
                have yb0s := hexts _ _ qb0
                have yb1s := hexts _ _ qb1
                have yb4s := hexts _ _ qb4
                have ycds := hexts _ _ qcd
                have ysts := hexts _ _ qst
                have ywds := hexts _ _ qwd
                obtain ⟨hPs, hGs, hrs⟩ := hpsis
                subst hPs
                subst hGs
                refine zp_store (L' := [(3, 1, rns), (2, 0, (c9 : Int)), (0, 2, (a : Int)), (1, 0, p1)]) (pc := 88) hx hb hnL (zd_X6_told (88, .lstore_n 3, 1, 0, []) (List.mem_of_getElem? (i := 46) rfl)) rfl rfl rfl ?_
                refine zp_load (pc := 89) hx hb (zd_X6_told (89, .lload_n 3, 1, 0, []) (List.mem_of_getElem? (i := 47) rfl)) rfl (j := 0) rfl ?_
                refine zp_ldc2 (pc := 90) hx hb hE (zd_X6_told (90, .ldc2_w 53, 3, 0, []) (List.mem_of_getElem? (i := 48) rfl)) (j := 12) rfl ?_
                refine zp_lcmp (pc := 93) (tgt := 99) hx hb (zd_X6_told (93, .lcmp, 1, 0, []) (List.mem_of_getElem? (i := 49) rfl)) (zd_X6_told (94, .ifCond .eq 5, 3, 0, []) (List.mem_of_getElem? (i := 50) rfl)) rfl (fun (hc29 : rns = (-9000000000)) => ?_) (fun (hc29 : ¬ (rns = (-9000000000))) => ?_)
                · exfalso
                  omega
                · refine zp_load (pc := 97) hx hb (zd_X6_told (97, .lload_n 3, 1, 0, []) (List.mem_of_getElem? (i := 51) rfl)) rfl (j := 0) rfl ?_
                  have hy1 : yw_1 en p1 K = some rns := by
                    unfold yw_1
                    rw [if_pos ⟨by omega, (by unfold yw_tb; rw [t0])⟩]
                    unfold yw_s; rw [s0, hrs]
                  have hz := yw_hit hK hy1 (fun j K9 hj hK9 => hno j K9 (by omega) hK9)
                  refine zp_lret (pc := 98) (n := rns) hx hb hE hQ hU5 rfl (by decide) (zd_X6_told (98, .lreturn, 1, 0, []) (List.mem_of_getElem? (i := 52) rfl)) (j := 0) rfl (zp_o1 (by first | assumption | exact zp_r1 (by omega) (by omega))) ?_
                  rw [hps]
                  exact ⟨rfl, fun v hv => by
                    have hv : yw en p1 M = some v := hv
                    rw [hz] at hv
                    obtain rfl := Option.some.inj hv
                    exact ⟨by rw [hrs]; exact ⟨by decide, by decide⟩, rfl⟩, fun hv => by
                    have hv : yw en p1 M = none := hv
                    rw [hz] at hv
                    cases hv⟩
              · exfalso
                omega
        · have hk0 := a0
          refine zp_load (pc := 21) hx hb (zd_X6_told (21, .iload_n 2, 1, 0, []) (List.mem_of_getElem? (i := 11) rfl)) rfl (j := 0) rfl ?_
          refine zp_if (pc := 22) (tgt := 105) hx hb (zd_X6_told (22, .ifCond .lt 83, 3, 0, []) (List.mem_of_getElem? (i := 12) rfl)) rfl (fun (hc30 : (c9 : Int) < 0) => ?_) (fun (hc30 : ¬ ((c9 : Int) < 0)) => ?_)
          · exfalso
            omega
          · refine zp_load (pc := 25) hx hb (zd_X6_told (25, .aload_n 0, 1, 0, []) (List.mem_of_getElem? (i := 13) rfl)) rfl (j := 1) rfl ?_
            refine zp_getf (n := (lw : Int)) (pc := 26) hx hb hE hw (zd_X6_told (26, .getfield 25, 3, 0, []) (List.mem_of_getElem? (i := 14) rfl)) (j := 6) rfl rfl rfl hp hm.1.2.2 ?_
            refine zp_getf (n := (b0 : Int)) (pc := 29) hx hb hE hw (zd_X6_told (29, .getfield 73, 3, 0, []) (List.mem_of_getElem? (i := 15) rfl)) (j := 7) rfl rfl rfl qlw hm.2.1.1 ?_
            refine zp_load (pc := 32) hx hb (zd_X6_told (32, .iload_n 2, 1, 0, []) (List.mem_of_getElem? (i := 16) rfl)) rfl (j := 0) rfl ?_
            refine zp_ialdN (j := c9) (v := (A 0 c9)) (N := n0) (pc := 33) hx hb hw (zd_X6_told (33, .iaload, 1, 0, []) (List.mem_of_getElem? (i := 17) rfl)) (show zp_ia 1 36 = some (0, 0, 0, (-2147483648), 2147483647) from rfl) ⟨_, rfl, by decide⟩ hm.2.2.1.1 qb0 (by omega) (by omega) (hm.2.2.2.1 c9) (fun hk31 => ?_)
            have hk31b := zp_int hk31
            refine zp_load (pc := 34) hx hb (zd_X6_told (34, .iload_n 1, 1, 0, []) (List.mem_of_getElem? (i := 18) rfl)) rfl (j := 2) rfl ?_
            refine zp_icmp (pc := 35) (tgt := 99) hx hb (zd_X6_told (35, .if_icmp .ne 64, 3, 0, []) (List.mem_of_getElem? (i := 19) rfl)) rfl (fun (hc32 : ¬ (A 0 c9) = p1) => ?_) (fun (hc32 : ¬ (¬ (A 0 c9) = p1)) => ?_)
            · refine zp_iinc (L' := [(2, 0, ((c9 : Int) - 1)), (0, 2, (a : Int)), (1, 0, p1)]) (n := ((c9 : Int) - 1)) (pc := 99) hx hb hnL (zd_X6_told (99, .iinc 2 (-1), 3, 0, []) (List.mem_of_getElem? (i := 53) rfl)) (j := 0) rfl (by omega) (zp_r0 (by omega) (by omega)) rfl rfl ?_
              refine zp_goto (tgt := 21) (pc := 102) hx hb (zd_X6_told (102, .goto (-81), 3, 0, []) (List.mem_of_getElem? (i := 54) rfl)) rfl ?_
              refine zp_drop (L' := [(2, 0, ((c9 : Int) - 1)), (0, 2, (a : Int)), (1, 0, p1)]) (by simp) ?_
              exact ih _ (by omega) hm (fun j K9 hj hK9 => by
                by_cases hj9 : j = c9
                · subst hj9
                  rw [hK] at hK9
                  obtain rfl := Option.some.inj hK9
                  exact by unfold yw_1; exact if_neg (fun h9 => by have := h9.1; omega)
                · exact hno j K9 (by omega) hK9)
            · refine zp_load (pc := 38) hx hb (zd_X6_told (38, .aload_n 0, 1, 0, []) (List.mem_of_getElem? (i := 20) rfl)) rfl (j := 1) rfl ?_
              refine zp_load (pc := 39) hx hb (zd_X6_told (39, .aload_n 0, 1, 0, []) (List.mem_of_getElem? (i := 21) rfl)) rfl (j := 1) rfl ?_
              refine zp_getf (n := (lw : Int)) (pc := 40) hx hb hE hw (zd_X6_told (40, .getfield 25, 3, 0, []) (List.mem_of_getElem? (i := 22) rfl)) (j := 6) rfl rfl rfl hp hm.1.2.2 ?_
              refine zp_load (pc := 43) hx hb (zd_X6_told (43, .aload_n 0, 1, 0, []) (List.mem_of_getElem? (i := 23) rfl)) rfl (j := 1) rfl ?_
              refine zp_getf (n := (lw : Int)) (pc := 44) hx hb hE hw (zd_X6_told (44, .getfield 25, 3, 0, []) (List.mem_of_getElem? (i := 24) rfl)) (j := 6) rfl rfl rfl hp hm.1.2.2 ?_
              refine zp_getf (n := (b4 : Int)) (pc := 47) hx hb hE hw (zd_X6_told (47, .getfield 76, 3, 0, []) (List.mem_of_getElem? (i := 25) rfl)) (j := 9) rfl rfl rfl qlw hm.2.1.2.2.1 ?_
              refine zp_load (pc := 50) hx hb (zd_X6_told (50, .iload_n 2, 1, 0, []) (List.mem_of_getElem? (i := 26) rfl)) rfl (j := 0) rfl ?_
              refine zp_ialdN (j := c9) (v := (bt : Int)) (N := n4) (pc := 51) hx hb hw (zd_X6_told (51, .iaload, 1, 0, []) (List.mem_of_getElem? (i := 27) rfl)) (show zp_ia 1 40 = some (0, 0, 0, (-1), 872) from rfl) ⟨_, rfl, by decide⟩ hm.2.2.1.2.2.1 qb4 (by omega) (by omega) ((hm.2.2.2.2.2.1 c9).trans t1) (fun hk33 => ?_)
              have hk33b := zp_int hk33
              refine zp_load (pc := 52) hx hb (zd_X6_told (52, .aload_n 0, 1, 0, []) (List.mem_of_getElem? (i := 28) rfl)) rfl (j := 1) rfl ?_
              refine zp_getf (n := (wd : Int)) (pc := 53) hx hb hE hw (zd_X6_told (53, .getfield 11, 3, 0, []) (List.mem_of_getElem? (i := 29) rfl)) (j := 4) rfl rfl rfl hp hm.1.1 ?_
              refine zp_call (pc := 56) (how := 0) (idx := 79) (mi := 84) (S := []) hx hb hE hw heff hrm (zX_val hW lw cd st wd N ft et kt C Wd en yt) rfl (j := 4) rfl rfl (by decide +kernel) (zd_X6_told (56, .invokevirtual 79, 3, 0, []) (List.mem_of_getElem? (i := 30) rfl)) [(a : Int), (lw : Int), (bt : Int), (wd : Int)] rfl ⟨zp_o2 hp, zp_o2 qlw, zp_o0 (by omega) (by omega) (by omega) (by omega), zp_o2 qwd, trivial⟩ (Nat.le_of_ble_eq_true rfl) ⟨⟨hm.1.2.1, hm.2.1.2.2.2.1, hm.2.2.1.2.2.2, hm.2.2.2.2.2.2.1, hm.2.2.2.2.2.2.2⟩, rfl, rfl, qcd, qst, (show (0 : Int) ≤ (bt : Int) by omega), lN, by omega, t5, hWd, hen, t4, by omega⟩ (fun al hal rnt Pt Gt hextt hfrt hokt hcst hpsit => ?_)
              obtain rfl := List.mem_singleton.mp hal
              have yat := hextt _ _ hp
              have ylwt := hextt _ _ qlw
              have yb0t := hextt _ _ qb0
              have yb1t := hextt _ _ qb1
              have yb4t := hextt _ _ qb4
              have ycdt := hextt _ _ qcd
              have ystt := hextt _ _ qst
              have ywdt := hextt _ _ qwd
              obtain ⟨hPt, hvt, hnt⟩ := hpsit
              have hmt := zgW_f hm hP hfrt rfl
              subst hPt
              refine zp_const (pc := 59) hx hb (zd_X6_told (59, .lconst 1, 1, 0, []) (List.mem_of_getElem? (i := 31) rfl)) rfl rfl ?_
              refine zp_lcmp (pc := 60) (tgt := 67) hx hb (zd_X6_told (60, .lcmp, 1, 0, []) (List.mem_of_getElem? (i := 32) rfl)) (zd_X6_told (61, .ifCond .eq 6, 3, 0, []) (List.mem_of_getElem? (i := 33) rfl)) rfl (fun (hc34 : rnt = 1) => ?_) (fun (hc34 : ¬ (rnt = 1)) => ?_)
              · refine zp_load (pc := 67) hx hb (zd_X6_told (67, .aload_n 0, 1, 0, []) (List.mem_of_getElem? (i := 35) rfl)) rfl (j := 1) rfl ?_
                refine zp_load (pc := 68) hx hb (zd_X6_told (68, .aload_n 0, 1, 0, []) (List.mem_of_getElem? (i := 36) rfl)) rfl (j := 1) rfl ?_
                refine zp_getf (n := (lw : Int)) (pc := 69) hx hb hE hw (zd_X6_told (69, .getfield 25, 3, 0, []) (List.mem_of_getElem? (i := 37) rfl)) (j := 6) rfl rfl rfl hp hmt.1.2.2 ?_
                refine zp_load (pc := 72) hx hb (zd_X6_told (72, .aload_n 0, 1, 0, []) (List.mem_of_getElem? (i := 38) rfl)) rfl (j := 1) rfl ?_
                refine zp_getf (n := (lw : Int)) (pc := 73) hx hb hE hw (zd_X6_told (73, .getfield 25, 3, 0, []) (List.mem_of_getElem? (i := 39) rfl)) (j := 6) rfl rfl rfl hp hmt.1.2.2 ?_
                refine zp_getf (n := (b1 : Int)) (pc := 76) hx hb hE hw (zd_X6_told (76, .getfield 83, 3, 0, []) (List.mem_of_getElem? (i := 40) rfl)) (j := 8) rfl rfl rfl qlw hmt.2.1.2.1 ?_
                refine zp_load (pc := 79) hx hb (zd_X6_told (79, .iload_n 2, 1, 0, []) (List.mem_of_getElem? (i := 41) rfl)) rfl (j := 0) rfl ?_
                refine zp_ialdN (j := c9) (v := (-1)) (N := n1) (pc := 80) hx hb hw (zd_X6_told (80, .iaload, 1, 0, []) (List.mem_of_getElem? (i := 42) rfl)) (show zp_ia 1 37 = some (0, 0, 0, (-1), 872) from rfl) ⟨_, rfl, by decide⟩ hmt.2.2.1.2.1 qb1 (by omega) (by omega) ((hmt.2.2.2.2.1 c9).trans s1) (fun hk35 => ?_)
                have hk35b := zp_int hk35
                refine zp_load (pc := 81) hx hb (zd_X6_told (81, .aload_n 0, 1, 0, []) (List.mem_of_getElem? (i := 43) rfl)) rfl (j := 1) rfl ?_
                refine zp_getf (n := (wd : Int)) (pc := 82) hx hb hE hw (zd_X6_told (82, .getfield 11, 3, 0, []) (List.mem_of_getElem? (i := 44) rfl)) (j := 4) rfl rfl rfl hp hmt.1.1 ?_
                have hyt : yt en = some 1 := by
                  cases hy : yt en with
                  | none => have := hnt hy; omega
                  | some v9 => have := (hvt v9 hy).2; congr 1; omega
                refine zp_call (pc := 85) (how := 0) (idx := 79) (mi := 84) (S := []) hx hb hE hw heff hrm (zX_va1 hW) rfl (j := 4) rfl rfl (by decide +kernel) (zd_X6_told (85, .invokevirtual 79, 3, 0, []) (List.mem_of_getElem? (i := 45) rfl)) [(a : Int), (lw : Int), (-1), (wd : Int)] rfl ⟨zp_o2 hp, zp_o2 qlw, zp_o0 (by decide) (by decide) (by decide) (by decide), zp_o2 qwd, trivial⟩ (Nat.le_of_ble_eq_true rfl) trivial (fun al hal rns Ps Gs hexts hfrs hoks hcss hpsis => ?_)
                obtain rfl := List.mem_singleton.mp hal
                have yas := hexts _ _ hp
                have ylws := hexts _ _ qlw
                have yb0s := hexts _ _ qb0
                have yb1s := hexts _ _ qb1
                have yb4s := hexts _ _ qb4
                have ycds := hexts _ _ qcd
                have ysts := hexts _ _ qst
                have ywds := hexts _ _ qwd
                obtain ⟨hPs, hGs, hrs⟩ := hpsis
                subst hPs
                subst hGs
                refine zp_store (L' := [(3, 1, rns), (2, 0, (c9 : Int)), (0, 2, (a : Int)), (1, 0, p1)]) (pc := 88) hx hb hnL (zd_X6_told (88, .lstore_n 3, 1, 0, []) (List.mem_of_getElem? (i := 46) rfl)) rfl rfl rfl ?_
                refine zp_load (pc := 89) hx hb (zd_X6_told (89, .lload_n 3, 1, 0, []) (List.mem_of_getElem? (i := 47) rfl)) rfl (j := 0) rfl ?_
                refine zp_ldc2 (pc := 90) hx hb hE (zd_X6_told (90, .ldc2_w 53, 3, 0, []) (List.mem_of_getElem? (i := 48) rfl)) (j := 12) rfl ?_
                refine zp_lcmp (pc := 93) (tgt := 99) hx hb (zd_X6_told (93, .lcmp, 1, 0, []) (List.mem_of_getElem? (i := 49) rfl)) (zd_X6_told (94, .ifCond .eq 5, 3, 0, []) (List.mem_of_getElem? (i := 50) rfl)) rfl (fun (hc36 : rns = (-9000000000)) => ?_) (fun (hc36 : ¬ (rns = (-9000000000))) => ?_)
                · exfalso
                  omega
                · refine zp_load (pc := 97) hx hb (zd_X6_told (97, .lload_n 3, 1, 0, []) (List.mem_of_getElem? (i := 51) rfl)) rfl (j := 0) rfl ?_
                  have hy1 : yw_1 en p1 K = some rns := by
                    unfold yw_1
                    rw [if_pos ⟨by omega, (by unfold yw_tb; rw [t0]; exact decide_eq_true hyt)⟩]
                    unfold yw_s; rw [s0, hrs]
                  have hz := yw_hit hK hy1 (fun j K9 hj hK9 => hno j K9 (by omega) hK9)
                  refine zp_lret (pc := 98) (n := rns) hx hb hE hQ hU5 rfl (by decide) (zd_X6_told (98, .lreturn, 1, 0, []) (List.mem_of_getElem? (i := 52) rfl)) (j := 0) rfl (zp_o1 (by first | assumption | exact zp_r1 (by omega) (by omega))) ?_
                  rw [hps]
                  exact ⟨rfl, fun v hv => by
                    have hv : yw en p1 M = some v := hv
                    rw [hz] at hv
                    obtain rfl := Option.some.inj hv
                    exact ⟨by rw [hrs]; exact ⟨by decide, by decide⟩, rfl⟩, fun hv => by
                    have hv : yw en p1 M = none := hv
                    rw [hz] at hv
                    cases hv⟩
              · refine zp_goto (tgt := 99) (pc := 64) hx hb (zd_X6_told (64, .goto 35, 3, 0, []) (List.mem_of_getElem? (i := 34) rfl)) rfl ?_
                refine zp_iinc (L' := [(2, 0, ((c9 : Int) - 1)), (0, 2, (a : Int)), (1, 0, p1)]) (n := ((c9 : Int) - 1)) (pc := 99) hx hb hnL (zd_X6_told (99, .iinc 2 (-1), 3, 0, []) (List.mem_of_getElem? (i := 53) rfl)) (j := 0) rfl (by omega) (zp_r0 (by omega) (by omega)) rfl rfl ?_
                refine zp_goto (tgt := 21) (pc := 102) hx hb (zd_X6_told (102, .goto (-81), 3, 0, []) (List.mem_of_getElem? (i := 54) rfl)) rfl ?_
                refine zp_drop (L' := [(2, 0, ((c9 : Int) - 1)), (0, 2, (a : Int)), (1, 0, p1)]) (by simp) ?_
                exact ih _ (by omega) hmt (fun j K9 hj hK9 => by
                  by_cases hj9 : j = c9
                  · subst hj9
                    rw [hK] at hK9
                    obtain rfl := Option.some.inj hK9
                    exact by unfold yw_1; exact if_neg (fun h9 => by have h10 := h9.2; unfold yw_tb at h10; rw [t0] at h10; have h11 := of_decide_eq_true h10; have := (hvt 1 h11).2; omega)
                  · exact hno j K9 (by omega) hK9)
      · rcases a4 with ⟨t0, t1⟩ | ⟨yt, t0, ⟨bt, et, kt, ft, t1, t2, t3, t4, t5⟩, t6⟩
        · have hk0 := a0
          refine zp_load (pc := 21) hx hb (zd_X6_told (21, .iload_n 2, 1, 0, []) (List.mem_of_getElem? (i := 11) rfl)) rfl (j := 0) rfl ?_
          refine zp_if (pc := 22) (tgt := 105) hx hb (zd_X6_told (22, .ifCond .lt 83, 3, 0, []) (List.mem_of_getElem? (i := 12) rfl)) rfl (fun (hc37 : (c9 : Int) < 0) => ?_) (fun (hc37 : ¬ ((c9 : Int) < 0)) => ?_)
          · exfalso
            omega
          · refine zp_load (pc := 25) hx hb (zd_X6_told (25, .aload_n 0, 1, 0, []) (List.mem_of_getElem? (i := 13) rfl)) rfl (j := 1) rfl ?_
            refine zp_getf (n := (lw : Int)) (pc := 26) hx hb hE hw (zd_X6_told (26, .getfield 25, 3, 0, []) (List.mem_of_getElem? (i := 14) rfl)) (j := 6) rfl rfl rfl hp hm.1.2.2 ?_
            refine zp_getf (n := (b0 : Int)) (pc := 29) hx hb hE hw (zd_X6_told (29, .getfield 73, 3, 0, []) (List.mem_of_getElem? (i := 15) rfl)) (j := 7) rfl rfl rfl qlw hm.2.1.1 ?_
            refine zp_load (pc := 32) hx hb (zd_X6_told (32, .iload_n 2, 1, 0, []) (List.mem_of_getElem? (i := 16) rfl)) rfl (j := 0) rfl ?_
            refine zp_ialdN (j := c9) (v := (A 0 c9)) (N := n0) (pc := 33) hx hb hw (zd_X6_told (33, .iaload, 1, 0, []) (List.mem_of_getElem? (i := 17) rfl)) (show zp_ia 1 36 = some (0, 0, 0, (-2147483648), 2147483647) from rfl) ⟨_, rfl, by decide⟩ hm.2.2.1.1 qb0 (by omega) (by omega) (hm.2.2.2.1 c9) (fun hk38 => ?_)
            have hk38b := zp_int hk38
            refine zp_load (pc := 34) hx hb (zd_X6_told (34, .iload_n 1, 1, 0, []) (List.mem_of_getElem? (i := 18) rfl)) rfl (j := 2) rfl ?_
            refine zp_icmp (pc := 35) (tgt := 99) hx hb (zd_X6_told (35, .if_icmp .ne 64, 3, 0, []) (List.mem_of_getElem? (i := 19) rfl)) rfl (fun (hc39 : ¬ (A 0 c9) = p1) => ?_) (fun (hc39 : ¬ (¬ (A 0 c9) = p1)) => ?_)
            · refine zp_iinc (L' := [(2, 0, ((c9 : Int) - 1)), (0, 2, (a : Int)), (1, 0, p1)]) (n := ((c9 : Int) - 1)) (pc := 99) hx hb hnL (zd_X6_told (99, .iinc 2 (-1), 3, 0, []) (List.mem_of_getElem? (i := 53) rfl)) (j := 0) rfl (by omega) (zp_r0 (by omega) (by omega)) rfl rfl ?_
              refine zp_goto (tgt := 21) (pc := 102) hx hb (zd_X6_told (102, .goto (-81), 3, 0, []) (List.mem_of_getElem? (i := 54) rfl)) rfl ?_
              refine zp_drop (L' := [(2, 0, ((c9 : Int) - 1)), (0, 2, (a : Int)), (1, 0, p1)]) (by simp) ?_
              exact ih _ (by omega) hm (fun j K9 hj hK9 => by
                by_cases hj9 : j = c9
                · subst hj9
                  rw [hK] at hK9
                  obtain rfl := Option.some.inj hK9
                  exact by unfold yw_1; exact if_neg (fun h9 => by have := h9.1; omega)
                · exact hno j K9 (by omega) hK9)
            · refine zp_load (pc := 38) hx hb (zd_X6_told (38, .aload_n 0, 1, 0, []) (List.mem_of_getElem? (i := 20) rfl)) rfl (j := 1) rfl ?_
              refine zp_load (pc := 39) hx hb (zd_X6_told (39, .aload_n 0, 1, 0, []) (List.mem_of_getElem? (i := 21) rfl)) rfl (j := 1) rfl ?_
              refine zp_getf (n := (lw : Int)) (pc := 40) hx hb hE hw (zd_X6_told (40, .getfield 25, 3, 0, []) (List.mem_of_getElem? (i := 22) rfl)) (j := 6) rfl rfl rfl hp hm.1.2.2 ?_
              refine zp_load (pc := 43) hx hb (zd_X6_told (43, .aload_n 0, 1, 0, []) (List.mem_of_getElem? (i := 23) rfl)) rfl (j := 1) rfl ?_
              refine zp_getf (n := (lw : Int)) (pc := 44) hx hb hE hw (zd_X6_told (44, .getfield 25, 3, 0, []) (List.mem_of_getElem? (i := 24) rfl)) (j := 6) rfl rfl rfl hp hm.1.2.2 ?_
              refine zp_getf (n := (b4 : Int)) (pc := 47) hx hb hE hw (zd_X6_told (47, .getfield 76, 3, 0, []) (List.mem_of_getElem? (i := 25) rfl)) (j := 9) rfl rfl rfl qlw hm.2.1.2.2.1 ?_
              refine zp_load (pc := 50) hx hb (zd_X6_told (50, .iload_n 2, 1, 0, []) (List.mem_of_getElem? (i := 26) rfl)) rfl (j := 0) rfl ?_
              refine zp_ialdN (j := c9) (v := (-1)) (N := n4) (pc := 51) hx hb hw (zd_X6_told (51, .iaload, 1, 0, []) (List.mem_of_getElem? (i := 27) rfl)) (show zp_ia 1 40 = some (0, 0, 0, (-1), 872) from rfl) ⟨_, rfl, by decide⟩ hm.2.2.1.2.2.1 qb4 (by omega) (by omega) ((hm.2.2.2.2.2.1 c9).trans t1) (fun hk40 => ?_)
              have hk40b := zp_int hk40
              refine zp_load (pc := 52) hx hb (zd_X6_told (52, .aload_n 0, 1, 0, []) (List.mem_of_getElem? (i := 28) rfl)) rfl (j := 1) rfl ?_
              refine zp_getf (n := (wd : Int)) (pc := 53) hx hb hE hw (zd_X6_told (53, .getfield 11, 3, 0, []) (List.mem_of_getElem? (i := 29) rfl)) (j := 4) rfl rfl rfl hp hm.1.1 ?_
              refine zp_call (pc := 56) (how := 0) (idx := 79) (mi := 84) (S := []) hx hb hE hw heff hrm (zX_va1 hW) rfl (j := 4) rfl rfl (by decide +kernel) (zd_X6_told (56, .invokevirtual 79, 3, 0, []) (List.mem_of_getElem? (i := 30) rfl)) [(a : Int), (lw : Int), (-1), (wd : Int)] rfl ⟨zp_o2 hp, zp_o2 qlw, zp_o0 (by decide) (by decide) (by decide) (by decide), zp_o2 qwd, trivial⟩ (Nat.le_of_ble_eq_true rfl) trivial (fun al hal rnt Pt Gt hextt hfrt hokt hcst hpsit => ?_)
              obtain rfl := List.mem_singleton.mp hal
              have yat := hextt _ _ hp
              have ylwt := hextt _ _ qlw
              have yb0t := hextt _ _ qb0
              have yb1t := hextt _ _ qb1
              have yb4t := hextt _ _ qb4
              have ycdt := hextt _ _ qcd
              have ystt := hextt _ _ qst
              have ywdt := hextt _ _ qwd
              obtain ⟨hPt, hGt, hrt⟩ := hpsit
              subst hPt
              subst hGt
              refine zp_const (pc := 59) hx hb (zd_X6_told (59, .lconst 1, 1, 0, []) (List.mem_of_getElem? (i := 31) rfl)) rfl rfl ?_
              refine zp_lcmp (pc := 60) (tgt := 67) hx hb (zd_X6_told (60, .lcmp, 1, 0, []) (List.mem_of_getElem? (i := 32) rfl)) (zd_X6_told (61, .ifCond .eq 6, 3, 0, []) (List.mem_of_getElem? (i := 33) rfl)) rfl (fun (hc41 : rnt = 1) => ?_) (fun (hc41 : ¬ (rnt = 1)) => ?_)
              · refine zp_load (pc := 67) hx hb (zd_X6_told (67, .aload_n 0, 1, 0, []) (List.mem_of_getElem? (i := 35) rfl)) rfl (j := 1) rfl ?_
                refine zp_load (pc := 68) hx hb (zd_X6_told (68, .aload_n 0, 1, 0, []) (List.mem_of_getElem? (i := 36) rfl)) rfl (j := 1) rfl ?_
                refine zp_getf (n := (lw : Int)) (pc := 69) hx hb hE hw (zd_X6_told (69, .getfield 25, 3, 0, []) (List.mem_of_getElem? (i := 37) rfl)) (j := 6) rfl rfl rfl hp hm.1.2.2 ?_
                refine zp_load (pc := 72) hx hb (zd_X6_told (72, .aload_n 0, 1, 0, []) (List.mem_of_getElem? (i := 38) rfl)) rfl (j := 1) rfl ?_
                refine zp_getf (n := (lw : Int)) (pc := 73) hx hb hE hw (zd_X6_told (73, .getfield 25, 3, 0, []) (List.mem_of_getElem? (i := 39) rfl)) (j := 6) rfl rfl rfl hp hm.1.2.2 ?_
                refine zp_getf (n := (b1 : Int)) (pc := 76) hx hb hE hw (zd_X6_told (76, .getfield 83, 3, 0, []) (List.mem_of_getElem? (i := 40) rfl)) (j := 8) rfl rfl rfl qlw hm.2.1.2.1 ?_
                refine zp_load (pc := 79) hx hb (zd_X6_told (79, .iload_n 2, 1, 0, []) (List.mem_of_getElem? (i := 41) rfl)) rfl (j := 0) rfl ?_
                refine zp_ialdN (j := c9) (v := (bs : Int)) (N := n1) (pc := 80) hx hb hw (zd_X6_told (80, .iaload, 1, 0, []) (List.mem_of_getElem? (i := 42) rfl)) (show zp_ia 1 37 = some (0, 0, 0, (-1), 872) from rfl) ⟨_, rfl, by decide⟩ hm.2.2.1.2.1 qb1 (by omega) (by omega) ((hm.2.2.2.2.1 c9).trans s1) (fun hk42 => ?_)
                have hk42b := zp_int hk42
                refine zp_load (pc := 81) hx hb (zd_X6_told (81, .aload_n 0, 1, 0, []) (List.mem_of_getElem? (i := 43) rfl)) rfl (j := 1) rfl ?_
                refine zp_getf (n := (wd : Int)) (pc := 82) hx hb hE hw (zd_X6_told (82, .getfield 11, 3, 0, []) (List.mem_of_getElem? (i := 44) rfl)) (j := 4) rfl rfl rfl hp hm.1.1 ?_
                refine zp_call (pc := 85) (how := 0) (idx := 79) (mi := 84) (S := []) hx hb hE hw heff hrm (zX_val hW lw cd st wd N fs es ks C Wd en xs9) rfl (j := 4) rfl rfl (by decide +kernel) (zd_X6_told (85, .invokevirtual 79, 3, 0, []) (List.mem_of_getElem? (i := 45) rfl)) [(a : Int), (lw : Int), (bs : Int), (wd : Int)] rfl ⟨zp_o2 hp, zp_o2 qlw, zp_o0 (by omega) (by omega) (by omega) (by omega), zp_o2 qwd, trivial⟩ (Nat.le_of_ble_eq_true rfl) ⟨⟨hm.1.2.1, hm.2.1.2.2.2.1, hm.2.2.1.2.2.2, hm.2.2.2.2.2.2.1, hm.2.2.2.2.2.2.2⟩, rfl, rfl, qcd, qst, (show (0 : Int) ≤ (bs : Int) by omega), lN, by omega, s5, hWd, hen, s4, by omega⟩ (fun al hal rns Ps Gs hexts hfrs hoks hcss hpsis => ?_)
                obtain rfl := List.mem_singleton.mp hal
                have yas := hexts _ _ hp
                have ylws := hexts _ _ qlw
                have yb0s := hexts _ _ qb0
                have yb1s := hexts _ _ qb1
                have yb4s := hexts _ _ qb4
                have ycds := hexts _ _ qcd
                have ysts := hexts _ _ qst
                have ywds := hexts _ _ qwd
                obtain ⟨hPs, hvs, hns⟩ := hpsis
                have hms := zgW_f hm hP hfrs rfl
                subst hPs
                cases hxs : xs9 en with
                | none =>
                  have hr9 := hns hxs
                  refine zp_store (L' := [(3, 1, rns), (2, 0, (c9 : Int)), (0, 2, (a : Int)), (1, 0, p1)]) (pc := 88) hx hb hnL (zd_X6_told (88, .lstore_n 3, 1, 0, []) (List.mem_of_getElem? (i := 46) rfl)) rfl rfl rfl ?_
                  refine zp_load (pc := 89) hx hb (zd_X6_told (89, .lload_n 3, 1, 0, []) (List.mem_of_getElem? (i := 47) rfl)) rfl (j := 0) rfl ?_
                  refine zp_ldc2 (pc := 90) hx hb hE (zd_X6_told (90, .ldc2_w 53, 3, 0, []) (List.mem_of_getElem? (i := 48) rfl)) (j := 12) rfl ?_
                  refine zp_lcmp (pc := 93) (tgt := 99) hx hb (zd_X6_told (93, .lcmp, 1, 0, []) (List.mem_of_getElem? (i := 49) rfl)) (zd_X6_told (94, .ifCond .eq 5, 3, 0, []) (List.mem_of_getElem? (i := 50) rfl)) rfl (fun (hc43 : rns = (-9000000000)) => ?_) (fun (hc43 : ¬ (rns = (-9000000000))) => ?_)
                  · refine zp_iinc (L' := [(2, 0, ((c9 : Int) - 1)), (3, 1, rns), (0, 2, (a : Int)), (1, 0, p1)]) (n := ((c9 : Int) - 1)) (pc := 99) hx hb hnL (zd_X6_told (99, .iinc 2 (-1), 3, 0, []) (List.mem_of_getElem? (i := 53) rfl)) (j := 1) rfl (by omega) (zp_r0 (by omega) (by omega)) rfl rfl ?_
                    refine zp_goto (tgt := 21) (pc := 102) hx hb (zd_X6_told (102, .goto (-81), 3, 0, []) (List.mem_of_getElem? (i := 54) rfl)) rfl ?_
                    refine zp_drop (L' := [(2, 0, ((c9 : Int) - 1)), (0, 2, (a : Int)), (1, 0, p1)]) (by simp) ?_
                    exact ih _ (by omega) hms (fun j K9 hj hK9 => by
                      by_cases hj9 : j = c9
                      · subst hj9
                        rw [hK] at hK9
                        obtain rfl := Option.some.inj hK9
                        exact by unfold yw_1 yw_s; rw [s0]; split; exact hxs; rfl
                      · exact hno j K9 (by omega) hK9)
                  · exfalso
                    omega
                | some v9 =>
                  obtain ⟨hb9, hr9⟩ := hvs v9 hxs
                  refine zp_store (L' := [(3, 1, rns), (2, 0, (c9 : Int)), (0, 2, (a : Int)), (1, 0, p1)]) (pc := 88) hx hb hnL (zd_X6_told (88, .lstore_n 3, 1, 0, []) (List.mem_of_getElem? (i := 46) rfl)) rfl rfl rfl ?_
                  refine zp_load (pc := 89) hx hb (zd_X6_told (89, .lload_n 3, 1, 0, []) (List.mem_of_getElem? (i := 47) rfl)) rfl (j := 0) rfl ?_
                  refine zp_ldc2 (pc := 90) hx hb hE (zd_X6_told (90, .ldc2_w 53, 3, 0, []) (List.mem_of_getElem? (i := 48) rfl)) (j := 12) rfl ?_
                  refine zp_lcmp (pc := 93) (tgt := 99) hx hb (zd_X6_told (93, .lcmp, 1, 0, []) (List.mem_of_getElem? (i := 49) rfl)) (zd_X6_told (94, .ifCond .eq 5, 3, 0, []) (List.mem_of_getElem? (i := 50) rfl)) rfl (fun (hc44 : rns = (-9000000000)) => ?_) (fun (hc44 : ¬ (rns = (-9000000000))) => ?_)
                  · exfalso
                    omega
                  · refine zp_load (pc := 97) hx hb (zd_X6_told (97, .lload_n 3, 1, 0, []) (List.mem_of_getElem? (i := 51) rfl)) rfl (j := 0) rfl ?_
                    have hy1 : yw_1 en p1 K = some rns := by
                      unfold yw_1
                      rw [if_pos ⟨by omega, (by unfold yw_tb; rw [t0])⟩]
                      unfold yw_s; rw [s0, hr9]; exact hxs
                    have hz := yw_hit hK hy1 (fun j K9 hj hK9 => hno j K9 (by omega) hK9)
                    refine zp_lret (pc := 98) (n := rns) hx hb hE hQ hU5 rfl (by decide) (zd_X6_told (98, .lreturn, 1, 0, []) (List.mem_of_getElem? (i := 52) rfl)) (j := 0) rfl (zp_o1 (by first | assumption | exact zp_r1 (by omega) (by omega))) ?_
                    rw [hps]
                    exact ⟨rfl, fun v hv => by
                      have hv : yw en p1 M = some v := hv
                      rw [hz] at hv
                      obtain rfl := Option.some.inj hv
                      exact ⟨hr9 ▸ hb9, rfl⟩, fun hv => by
                      have hv : yw en p1 M = none := hv
                      rw [hz] at hv
                      cases hv⟩
              · exfalso
                omega
        · have hk0 := a0
          refine zp_load (pc := 21) hx hb (zd_X6_told (21, .iload_n 2, 1, 0, []) (List.mem_of_getElem? (i := 11) rfl)) rfl (j := 0) rfl ?_
          refine zp_if (pc := 22) (tgt := 105) hx hb (zd_X6_told (22, .ifCond .lt 83, 3, 0, []) (List.mem_of_getElem? (i := 12) rfl)) rfl (fun (hc45 : (c9 : Int) < 0) => ?_) (fun (hc45 : ¬ ((c9 : Int) < 0)) => ?_)
          · exfalso
            omega
          · refine zp_load (pc := 25) hx hb (zd_X6_told (25, .aload_n 0, 1, 0, []) (List.mem_of_getElem? (i := 13) rfl)) rfl (j := 1) rfl ?_
            refine zp_getf (n := (lw : Int)) (pc := 26) hx hb hE hw (zd_X6_told (26, .getfield 25, 3, 0, []) (List.mem_of_getElem? (i := 14) rfl)) (j := 6) rfl rfl rfl hp hm.1.2.2 ?_
            refine zp_getf (n := (b0 : Int)) (pc := 29) hx hb hE hw (zd_X6_told (29, .getfield 73, 3, 0, []) (List.mem_of_getElem? (i := 15) rfl)) (j := 7) rfl rfl rfl qlw hm.2.1.1 ?_
            refine zp_load (pc := 32) hx hb (zd_X6_told (32, .iload_n 2, 1, 0, []) (List.mem_of_getElem? (i := 16) rfl)) rfl (j := 0) rfl ?_
            refine zp_ialdN (j := c9) (v := (A 0 c9)) (N := n0) (pc := 33) hx hb hw (zd_X6_told (33, .iaload, 1, 0, []) (List.mem_of_getElem? (i := 17) rfl)) (show zp_ia 1 36 = some (0, 0, 0, (-2147483648), 2147483647) from rfl) ⟨_, rfl, by decide⟩ hm.2.2.1.1 qb0 (by omega) (by omega) (hm.2.2.2.1 c9) (fun hk46 => ?_)
            have hk46b := zp_int hk46
            refine zp_load (pc := 34) hx hb (zd_X6_told (34, .iload_n 1, 1, 0, []) (List.mem_of_getElem? (i := 18) rfl)) rfl (j := 2) rfl ?_
            refine zp_icmp (pc := 35) (tgt := 99) hx hb (zd_X6_told (35, .if_icmp .ne 64, 3, 0, []) (List.mem_of_getElem? (i := 19) rfl)) rfl (fun (hc47 : ¬ (A 0 c9) = p1) => ?_) (fun (hc47 : ¬ (¬ (A 0 c9) = p1)) => ?_)
            · refine zp_iinc (L' := [(2, 0, ((c9 : Int) - 1)), (0, 2, (a : Int)), (1, 0, p1)]) (n := ((c9 : Int) - 1)) (pc := 99) hx hb hnL (zd_X6_told (99, .iinc 2 (-1), 3, 0, []) (List.mem_of_getElem? (i := 53) rfl)) (j := 0) rfl (by omega) (zp_r0 (by omega) (by omega)) rfl rfl ?_
              refine zp_goto (tgt := 21) (pc := 102) hx hb (zd_X6_told (102, .goto (-81), 3, 0, []) (List.mem_of_getElem? (i := 54) rfl)) rfl ?_
              refine zp_drop (L' := [(2, 0, ((c9 : Int) - 1)), (0, 2, (a : Int)), (1, 0, p1)]) (by simp) ?_
              exact ih _ (by omega) hm (fun j K9 hj hK9 => by
                by_cases hj9 : j = c9
                · subst hj9
                  rw [hK] at hK9
                  obtain rfl := Option.some.inj hK9
                  exact by unfold yw_1; exact if_neg (fun h9 => by have := h9.1; omega)
                · exact hno j K9 (by omega) hK9)
            · refine zp_load (pc := 38) hx hb (zd_X6_told (38, .aload_n 0, 1, 0, []) (List.mem_of_getElem? (i := 20) rfl)) rfl (j := 1) rfl ?_
              refine zp_load (pc := 39) hx hb (zd_X6_told (39, .aload_n 0, 1, 0, []) (List.mem_of_getElem? (i := 21) rfl)) rfl (j := 1) rfl ?_
              refine zp_getf (n := (lw : Int)) (pc := 40) hx hb hE hw (zd_X6_told (40, .getfield 25, 3, 0, []) (List.mem_of_getElem? (i := 22) rfl)) (j := 6) rfl rfl rfl hp hm.1.2.2 ?_
              refine zp_load (pc := 43) hx hb (zd_X6_told (43, .aload_n 0, 1, 0, []) (List.mem_of_getElem? (i := 23) rfl)) rfl (j := 1) rfl ?_
              refine zp_getf (n := (lw : Int)) (pc := 44) hx hb hE hw (zd_X6_told (44, .getfield 25, 3, 0, []) (List.mem_of_getElem? (i := 24) rfl)) (j := 6) rfl rfl rfl hp hm.1.2.2 ?_
              refine zp_getf (n := (b4 : Int)) (pc := 47) hx hb hE hw (zd_X6_told (47, .getfield 76, 3, 0, []) (List.mem_of_getElem? (i := 25) rfl)) (j := 9) rfl rfl rfl qlw hm.2.1.2.2.1 ?_
              refine zp_load (pc := 50) hx hb (zd_X6_told (50, .iload_n 2, 1, 0, []) (List.mem_of_getElem? (i := 26) rfl)) rfl (j := 0) rfl ?_
              refine zp_ialdN (j := c9) (v := (bt : Int)) (N := n4) (pc := 51) hx hb hw (zd_X6_told (51, .iaload, 1, 0, []) (List.mem_of_getElem? (i := 27) rfl)) (show zp_ia 1 40 = some (0, 0, 0, (-1), 872) from rfl) ⟨_, rfl, by decide⟩ hm.2.2.1.2.2.1 qb4 (by omega) (by omega) ((hm.2.2.2.2.2.1 c9).trans t1) (fun hk48 => ?_)
              have hk48b := zp_int hk48
              refine zp_load (pc := 52) hx hb (zd_X6_told (52, .aload_n 0, 1, 0, []) (List.mem_of_getElem? (i := 28) rfl)) rfl (j := 1) rfl ?_
              refine zp_getf (n := (wd : Int)) (pc := 53) hx hb hE hw (zd_X6_told (53, .getfield 11, 3, 0, []) (List.mem_of_getElem? (i := 29) rfl)) (j := 4) rfl rfl rfl hp hm.1.1 ?_
              refine zp_call (pc := 56) (how := 0) (idx := 79) (mi := 84) (S := []) hx hb hE hw heff hrm (zX_val hW lw cd st wd N ft et kt C Wd en yt) rfl (j := 4) rfl rfl (by decide +kernel) (zd_X6_told (56, .invokevirtual 79, 3, 0, []) (List.mem_of_getElem? (i := 30) rfl)) [(a : Int), (lw : Int), (bt : Int), (wd : Int)] rfl ⟨zp_o2 hp, zp_o2 qlw, zp_o0 (by omega) (by omega) (by omega) (by omega), zp_o2 qwd, trivial⟩ (Nat.le_of_ble_eq_true rfl) ⟨⟨hm.1.2.1, hm.2.1.2.2.2.1, hm.2.2.1.2.2.2, hm.2.2.2.2.2.2.1, hm.2.2.2.2.2.2.2⟩, rfl, rfl, qcd, qst, (show (0 : Int) ≤ (bt : Int) by omega), lN, by omega, t5, hWd, hen, t4, by omega⟩ (fun al hal rnt Pt Gt hextt hfrt hokt hcst hpsit => ?_)
              obtain rfl := List.mem_singleton.mp hal
              have yat := hextt _ _ hp
              have ylwt := hextt _ _ qlw
              have yb0t := hextt _ _ qb0
              have yb1t := hextt _ _ qb1
              have yb4t := hextt _ _ qb4
              have ycdt := hextt _ _ qcd
              have ystt := hextt _ _ qst
              have ywdt := hextt _ _ qwd
              obtain ⟨hPt, hvt, hnt⟩ := hpsit
              have hmt := zgW_f hm hP hfrt rfl
              subst hPt
              refine zp_const (pc := 59) hx hb (zd_X6_told (59, .lconst 1, 1, 0, []) (List.mem_of_getElem? (i := 31) rfl)) rfl rfl ?_
              refine zp_lcmp (pc := 60) (tgt := 67) hx hb (zd_X6_told (60, .lcmp, 1, 0, []) (List.mem_of_getElem? (i := 32) rfl)) (zd_X6_told (61, .ifCond .eq 6, 3, 0, []) (List.mem_of_getElem? (i := 33) rfl)) rfl (fun (hc49 : rnt = 1) => ?_) (fun (hc49 : ¬ (rnt = 1)) => ?_)
              · refine zp_load (pc := 67) hx hb (zd_X6_told (67, .aload_n 0, 1, 0, []) (List.mem_of_getElem? (i := 35) rfl)) rfl (j := 1) rfl ?_
                refine zp_load (pc := 68) hx hb (zd_X6_told (68, .aload_n 0, 1, 0, []) (List.mem_of_getElem? (i := 36) rfl)) rfl (j := 1) rfl ?_
                refine zp_getf (n := (lw : Int)) (pc := 69) hx hb hE hw (zd_X6_told (69, .getfield 25, 3, 0, []) (List.mem_of_getElem? (i := 37) rfl)) (j := 6) rfl rfl rfl hp hmt.1.2.2 ?_
                refine zp_load (pc := 72) hx hb (zd_X6_told (72, .aload_n 0, 1, 0, []) (List.mem_of_getElem? (i := 38) rfl)) rfl (j := 1) rfl ?_
                refine zp_getf (n := (lw : Int)) (pc := 73) hx hb hE hw (zd_X6_told (73, .getfield 25, 3, 0, []) (List.mem_of_getElem? (i := 39) rfl)) (j := 6) rfl rfl rfl hp hmt.1.2.2 ?_
                refine zp_getf (n := (b1 : Int)) (pc := 76) hx hb hE hw (zd_X6_told (76, .getfield 83, 3, 0, []) (List.mem_of_getElem? (i := 40) rfl)) (j := 8) rfl rfl rfl qlw hmt.2.1.2.1 ?_
                refine zp_load (pc := 79) hx hb (zd_X6_told (79, .iload_n 2, 1, 0, []) (List.mem_of_getElem? (i := 41) rfl)) rfl (j := 0) rfl ?_
                refine zp_ialdN (j := c9) (v := (bs : Int)) (N := n1) (pc := 80) hx hb hw (zd_X6_told (80, .iaload, 1, 0, []) (List.mem_of_getElem? (i := 42) rfl)) (show zp_ia 1 37 = some (0, 0, 0, (-1), 872) from rfl) ⟨_, rfl, by decide⟩ hmt.2.2.1.2.1 qb1 (by omega) (by omega) ((hmt.2.2.2.2.1 c9).trans s1) (fun hk50 => ?_)
                have hk50b := zp_int hk50
                refine zp_load (pc := 81) hx hb (zd_X6_told (81, .aload_n 0, 1, 0, []) (List.mem_of_getElem? (i := 43) rfl)) rfl (j := 1) rfl ?_
                refine zp_getf (n := (wd : Int)) (pc := 82) hx hb hE hw (zd_X6_told (82, .getfield 11, 3, 0, []) (List.mem_of_getElem? (i := 44) rfl)) (j := 4) rfl rfl rfl hp hmt.1.1 ?_
                have hyt : yt en = some 1 := by
                  cases hy : yt en with
                  | none => have := hnt hy; omega
                  | some v9 => have := (hvt v9 hy).2; congr 1; omega
                refine zp_call (pc := 85) (how := 0) (idx := 79) (mi := 84) (S := []) hx hb hE hw heff hrm (zX_val hW lw cd st wd N fs es ks C Wd en xs9) rfl (j := 4) rfl rfl (by decide +kernel) (zd_X6_told (85, .invokevirtual 79, 3, 0, []) (List.mem_of_getElem? (i := 45) rfl)) [(a : Int), (lw : Int), (bs : Int), (wd : Int)] rfl ⟨zp_o2 hp, zp_o2 qlw, zp_o0 (by omega) (by omega) (by omega) (by omega), zp_o2 qwd, trivial⟩ (Nat.le_of_ble_eq_true rfl) ⟨⟨hmt.1.2.1, hmt.2.1.2.2.2.1, hmt.2.2.1.2.2.2, hmt.2.2.2.2.2.2.1, hmt.2.2.2.2.2.2.2⟩, rfl, rfl, qcd, qst, (show (0 : Int) ≤ (bs : Int) by omega), lN, by omega, s5, hWd, hen, s4, by omega⟩ (fun al hal rns Ps Gs hexts hfrs hoks hcss hpsis => ?_)
                obtain rfl := List.mem_singleton.mp hal
                have yas := hexts _ _ hp
                have ylws := hexts _ _ qlw
                have yb0s := hexts _ _ qb0
                have yb1s := hexts _ _ qb1
                have yb4s := hexts _ _ qb4
                have ycds := hexts _ _ qcd
                have ysts := hexts _ _ qst
                have ywds := hexts _ _ qwd
                obtain ⟨hPs, hvs, hns⟩ := hpsis
                have hms := zgW_f hmt hP hfrs rfl
                subst hPs
                cases hxs : xs9 en with
                | none =>
                  have hr9 := hns hxs
                  refine zp_store (L' := [(3, 1, rns), (2, 0, (c9 : Int)), (0, 2, (a : Int)), (1, 0, p1)]) (pc := 88) hx hb hnL (zd_X6_told (88, .lstore_n 3, 1, 0, []) (List.mem_of_getElem? (i := 46) rfl)) rfl rfl rfl ?_
                  refine zp_load (pc := 89) hx hb (zd_X6_told (89, .lload_n 3, 1, 0, []) (List.mem_of_getElem? (i := 47) rfl)) rfl (j := 0) rfl ?_
                  refine zp_ldc2 (pc := 90) hx hb hE (zd_X6_told (90, .ldc2_w 53, 3, 0, []) (List.mem_of_getElem? (i := 48) rfl)) (j := 12) rfl ?_
                  refine zp_lcmp (pc := 93) (tgt := 99) hx hb (zd_X6_told (93, .lcmp, 1, 0, []) (List.mem_of_getElem? (i := 49) rfl)) (zd_X6_told (94, .ifCond .eq 5, 3, 0, []) (List.mem_of_getElem? (i := 50) rfl)) rfl (fun (hc51 : rns = (-9000000000)) => ?_) (fun (hc51 : ¬ (rns = (-9000000000))) => ?_)
                  · refine zp_iinc (L' := [(2, 0, ((c9 : Int) - 1)), (3, 1, rns), (0, 2, (a : Int)), (1, 0, p1)]) (n := ((c9 : Int) - 1)) (pc := 99) hx hb hnL (zd_X6_told (99, .iinc 2 (-1), 3, 0, []) (List.mem_of_getElem? (i := 53) rfl)) (j := 1) rfl (by omega) (zp_r0 (by omega) (by omega)) rfl rfl ?_
                    refine zp_goto (tgt := 21) (pc := 102) hx hb (zd_X6_told (102, .goto (-81), 3, 0, []) (List.mem_of_getElem? (i := 54) rfl)) rfl ?_
                    refine zp_drop (L' := [(2, 0, ((c9 : Int) - 1)), (0, 2, (a : Int)), (1, 0, p1)]) (by simp) ?_
                    exact ih _ (by omega) hms (fun j K9 hj hK9 => by
                      by_cases hj9 : j = c9
                      · subst hj9
                        rw [hK] at hK9
                        obtain rfl := Option.some.inj hK9
                        exact by unfold yw_1 yw_s; rw [s0]; split; exact hxs; rfl
                      · exact hno j K9 (by omega) hK9)
                  · exfalso
                    omega
                | some v9 =>
                  obtain ⟨hb9, hr9⟩ := hvs v9 hxs
                  refine zp_store (L' := [(3, 1, rns), (2, 0, (c9 : Int)), (0, 2, (a : Int)), (1, 0, p1)]) (pc := 88) hx hb hnL (zd_X6_told (88, .lstore_n 3, 1, 0, []) (List.mem_of_getElem? (i := 46) rfl)) rfl rfl rfl ?_
                  refine zp_load (pc := 89) hx hb (zd_X6_told (89, .lload_n 3, 1, 0, []) (List.mem_of_getElem? (i := 47) rfl)) rfl (j := 0) rfl ?_
                  refine zp_ldc2 (pc := 90) hx hb hE (zd_X6_told (90, .ldc2_w 53, 3, 0, []) (List.mem_of_getElem? (i := 48) rfl)) (j := 12) rfl ?_
                  refine zp_lcmp (pc := 93) (tgt := 99) hx hb (zd_X6_told (93, .lcmp, 1, 0, []) (List.mem_of_getElem? (i := 49) rfl)) (zd_X6_told (94, .ifCond .eq 5, 3, 0, []) (List.mem_of_getElem? (i := 50) rfl)) rfl (fun (hc52 : rns = (-9000000000)) => ?_) (fun (hc52 : ¬ (rns = (-9000000000))) => ?_)
                  · exfalso
                    omega
                  · refine zp_load (pc := 97) hx hb (zd_X6_told (97, .lload_n 3, 1, 0, []) (List.mem_of_getElem? (i := 51) rfl)) rfl (j := 0) rfl ?_
                    have hy1 : yw_1 en p1 K = some rns := by
                      unfold yw_1
                      rw [if_pos ⟨by omega, (by unfold yw_tb; rw [t0]; exact decide_eq_true hyt)⟩]
                      unfold yw_s; rw [s0, hr9]; exact hxs
                    have hz := yw_hit hK hy1 (fun j K9 hj hK9 => hno j K9 (by omega) hK9)
                    refine zp_lret (pc := 98) (n := rns) hx hb hE hQ hU5 rfl (by decide) (zd_X6_told (98, .lreturn, 1, 0, []) (List.mem_of_getElem? (i := 52) rfl)) (j := 0) rfl (zp_o1 (by first | assumption | exact zp_r1 (by omega) (by omega))) ?_
                    rw [hps]
                    exact ⟨rfl, fun v hv => by
                      have hv : yw en p1 M = some v := hv
                      rw [hz] at hv
                      obtain rfl := Option.some.inj hv
                      exact ⟨hr9 ▸ hb9, rfl⟩, fun hv => by
                      have hv : yw en p1 M = none := hv
                      rw [hz] at hv
                      cases hv⟩
              · refine zp_goto (tgt := 99) (pc := 64) hx hb (zd_X6_told (64, .goto 35, 3, 0, []) (List.mem_of_getElem? (i := 34) rfl)) rfl ?_
                refine zp_iinc (L' := [(2, 0, ((c9 : Int) - 1)), (0, 2, (a : Int)), (1, 0, p1)]) (n := ((c9 : Int) - 1)) (pc := 99) hx hb hnL (zd_X6_told (99, .iinc 2 (-1), 3, 0, []) (List.mem_of_getElem? (i := 53) rfl)) (j := 0) rfl (by omega) (zp_r0 (by omega) (by omega)) rfl rfl ?_
                refine zp_goto (tgt := 21) (pc := 102) hx hb (zd_X6_told (102, .goto (-81), 3, 0, []) (List.mem_of_getElem? (i := 54) rfl)) rfl ?_
                refine zp_drop (L' := [(2, 0, ((c9 : Int) - 1)), (0, 2, (a : Int)), (1, 0, p1)]) (by simp) ?_
                exact ih _ (by omega) hmt (fun j K9 hj hK9 => by
                  by_cases hj9 : j = c9
                  · subst hj9
                    rw [hK] at hK9
                    obtain rfl := Option.some.inj hK9
                    exact by unfold yw_1; exact if_neg (fun h9 => by have h10 := h9.2; unfold yw_tb at h10; rw [t0] at h10; have h11 := of_decide_eq_true h10; have := (hvt 1 h11).2; omega)
                  · exact hno j K9 (by omega) hK9)
  show zp_J p l e R s m args below meth c Q w u [] 0 [(0, 2, (a : Int)), (1, 0, p1)] [] u.1 (zp_n u.2.1)
  have hm := hm0
  refine zp_load (pc := 0) hx hb (zd_X6_told (0, .aload_n 0, 1, 0, []) (List.mem_of_getElem? (i := 0) rfl)) rfl (j := 0) rfl ?_
  refine zp_getf (n := (lw : Int)) (pc := 1) hx hb hE hw (zd_X6_told (1, .getfield 25, 3, 0, []) (List.mem_of_getElem? (i := 1) rfl)) (j := 6) rfl rfl rfl hp hm0.1.2.2 ?_
  refine zp_nnr (pc := 4) (tgt := 11) hx hb (zd_X6_told (4, .ifnonnull 7, 3, 0, []) (List.mem_of_getElem? (i := 2) rfl)) rfl ?_
  refine zp_load (pc := 11) hx hb (zd_X6_told (11, .aload_n 0, 1, 0, []) (List.mem_of_getElem? (i := 5) rfl)) rfl (j := 0) rfl ?_
  refine zp_getf (n := (lw : Int)) (pc := 12) hx hb hE hw (zd_X6_told (12, .getfield 25, 3, 0, []) (List.mem_of_getElem? (i := 6) rfl)) (j := 6) rfl rfl rfl hp hm0.1.2.2 ?_
  refine zp_getf (n := (nc : Int)) (pc := 15) hx hb hE hw (zd_X6_told (15, .getfield 68, 3, 0, []) (List.mem_of_getElem? (i := 7) rfl)) (j := 11) rfl rfl rfl qlw hm0.2.1.2.2.2.2 ?_
  refine zp_const (pc := 18) hx hb (zd_X6_told (18, .iconst 1, 1, 0, []) (List.mem_of_getElem? (i := 8) rfl)) rfl rfl ?_
  refine zp_sub (n := ((nc : Int) - 1)) (pc := 19) hx hb (zd_X6_told (19, .isub, 1, 0, []) (List.mem_of_getElem? (i := 9) rfl)) (by omega) (zp_r0 (by omega) (by omega)) ?_
  refine zp_store (L' := [(2, 0, ((nc : Int) - 1)), (0, 2, (a : Int)), (1, 0, p1)]) (pc := 20) hx hb hnL (zd_X6_told (20, .istore_n 2, 1, 0, []) (List.mem_of_getElem? (i := 10) rfl)) rfl rfl rfl ?_
  refine zp_drop (L' := [(2, 0, ((nc : Nat) : Int) - 1), (0, 2, (a : Int)), (1, 0, p1)]) (by simp <;> omega) ?_
  exact loop nc _ (Nat.le_refl _) hm0 (fun j K hj hK => by
    have hjl : j < M.length := by
      rcases Nat.lt_or_ge j M.length with h | h
      · exact h
      · rw [List.getElem?_eq_none h] at hK; cases hK
    omega)
