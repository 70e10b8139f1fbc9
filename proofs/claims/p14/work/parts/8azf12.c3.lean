/-! part c3: the reference: small methods of the parser, exactly -/
theorem zDq_in : ∀ {L : List (Int × Int)}, (∀ e ∈ L, e.1 ≤ 32) → -1 ≤ ym_in L ∧ ym_in L ≤ 32
  | [], _ => ⟨by decide, by decide⟩
  | (o, t) :: r, h => by
    have h1 : o ≤ 32 := h (o, t) List.mem_cons_self
    have ih := zDq_in (L := r) (fun e he => h e (List.mem_cons_of_mem _ he))
    show -1 ≤ (if 31 ≤ o then o else ym_in r) ∧ (if 31 ≤ o then o else ym_in r) ≤ 32
    split
    · omega
    · exact ih
/-- the pile's place k -/
theorem zDp_at {pl pa : Nat → Int} : ∀ {L : List (Int × Int)} {k : Nat}, zDp pl pa L → k < L.length → ∃ (o t : Int), L.drop (L.length - k - 1) = (o, t) :: L.drop (L.length - k) ∧ pl k = o
  | [], k, _, h => absurd h (Nat.not_lt_zero k)
  | (o, t) :: r, k, ⟨h1, h2, h3⟩, h => by
    have hl : ((o, t) :: r).length = r.length + 1 := rfl
    by_cases hk : k = r.length
    · refine ⟨o, t, ?_, by rw [hk]; exact h1⟩
      rw [hl, hk, show r.length + 1 - r.length - 1 = 0 by omega, show r.length + 1 - r.length = 1 by omega]
      rfl
    · obtain ⟨o', t', g1, g2⟩ := zDp_at h3 (by omega : k < r.length)
      refine ⟨o', t', ?_, g2⟩
      rw [hl, show r.length + 1 - k - 1 = (r.length - k - 1) + 1 by omega, show r.length + 1 - k = (r.length - k) + 1 by omega]
      exact g1
noncomputable def zψD_wo : (Nat → Option Nat) → (Nat → Nat → Int) → List Int → (Nat → Option Nat) → (Nat → Nat → Int) → Int → Prop := fun P G ps P' G' rn => P' = P ∧ G' = G ∧ (rn = 1 ↔ G (zp_0 ps) 16 = 1 ∧ G (zp_0 ps) 17 = ps.getD 1 0)
theorem zY_wo {l : Launch} {w : zk_W} (hW : zh_W w) : zk_metX l w zt_dv zt_TB zK_wo (zp_A zp_tA) (zp_B zψD_wo) ∧ zk_cok w zt_TB zK_wo := by
  refine zp_meth hW (pl := 1704) rfl (by decide +kernel) (fun p e R s m args below meth c Q u hx hb hE hQ hU5 heff hnL hok hφ => ?_)
  have hw := hW.1
  obtain ⟨p0, p1, hps, k0, k1⟩ := zp_ps2 hok
  obtain ⟨a, rfl, hp⟩ := zp_this k0
  have hrm : zk_Kr (zk_ev (zp_E zK_wo)) = zk_Kr zK_wo := rfl
  rw [hps] at hφ ⊢
  show zp_J p l e R s m args below meth c Q w u [] 0 [(0, 2, (a : Int)), (1, 1, p1)] [] u.1 (zp_n u.2.1)
  refine zp_load (pc := 0) hx hb (zd_X12_isWord (0, .aload_n 0, 1, 0, []) (List.mem_of_getElem? (i := 0) rfl)) rfl (j := 0) rfl ?_
  refine zp_getf (n := ((zp_n u.2.1) a 16)) (pc := 1) hx hb hE hw (zd_X12_isWord (1, .getfield 260, 3, 0, []) (List.mem_of_getElem? (i := 1) rfl)) (j := 34) rfl rfl rfl hp rfl ?_
  refine zp_const (pc := 4) hx hb (zd_X12_isWord (4, .iconst 1, 1, 0, []) (List.mem_of_getElem? (i := 2) rfl)) rfl rfl ?_
  refine zp_icmp (pc := 5) (tgt := 21) hx hb (zd_X12_isWord (5, .if_icmp .ne 16, 3, 0, []) (List.mem_of_getElem? (i := 3) rfl)) rfl (fun (hcq21 : ¬ ((zp_n u.2.1) a 16) = 1) => ?_) (fun (hcq21 : ¬ (¬ ((zp_n u.2.1) a 16) = 1)) => ?_)
  · refine zp_const (pc := 21) hx hb (zd_X12_isWord (21, .iconst 0, 1, 0, []) (List.mem_of_getElem? (i := 11) rfl)) rfl rfl ?_
    refine zp_zret (pc := 22) (n := 0) hx hb hE hQ hU5 rfl (by decide) (zd_X12_isWord (22, .ireturn, 1, 0, []) (List.mem_of_getElem? (i := 12) rfl)) (j := 0) rfl (zp_o0 (by omega) (by omega) (by omega) (by omega)) ?_
    rw [hps]
    refine ⟨rfl, rfl, ?_⟩
    show (0 = 1 ↔ zp_n u.2.1 a 16 = 1 ∧ zp_n u.2.1 a 17 = p1)
    omega
  · refine zp_load (pc := 8) hx hb (zd_X12_isWord (8, .aload_n 0, 1, 0, []) (List.mem_of_getElem? (i := 4) rfl)) rfl (j := 0) rfl ?_
    refine zp_getf (n := ((zp_n u.2.1) a 17)) (pc := 9) hx hb hE hw (zd_X12_isWord (9, .getfield 250, 3, 0, []) (List.mem_of_getElem? (i := 5) rfl)) (j := 35) rfl rfl rfl hp rfl ?_
    refine zp_load (pc := 12) hx hb (zd_X12_isWord (12, .lload_n 1, 1, 0, []) (List.mem_of_getElem? (i := 6) rfl)) rfl (j := 1) rfl ?_
    refine zp_lcmp (pc := 13) (tgt := 21) hx hb (zd_X12_isWord (13, .lcmp, 1, 0, []) (List.mem_of_getElem? (i := 7) rfl)) (zd_X12_isWord (14, .ifCond .ne 7, 3, 0, []) (List.mem_of_getElem? (i := 8) rfl)) rfl (fun (hcq22 : ¬ ((zp_n u.2.1) a 17) = p1) => ?_) (fun (hcq22 : ¬ (¬ ((zp_n u.2.1) a 17) = p1)) => ?_)
    · refine zp_const (pc := 21) hx hb (zd_X12_isWord (21, .iconst 0, 1, 0, []) (List.mem_of_getElem? (i := 11) rfl)) rfl rfl ?_
      refine zp_zret (pc := 22) (n := 0) hx hb hE hQ hU5 rfl (by decide) (zd_X12_isWord (22, .ireturn, 1, 0, []) (List.mem_of_getElem? (i := 12) rfl)) (j := 0) rfl (zp_o0 (by omega) (by omega) (by omega) (by omega)) ?_
      rw [hps]
      refine ⟨rfl, rfl, ?_⟩
      show (0 = 1 ↔ zp_n u.2.1 a 16 = 1 ∧ zp_n u.2.1 a 17 = p1)
      omega
    · refine zp_const (pc := 17) hx hb (zd_X12_isWord (17, .iconst 1, 1, 0, []) (List.mem_of_getElem? (i := 9) rfl)) rfl rfl ?_
      refine zp_goto (tgt := 22) (pc := 18) hx hb (zd_X12_isWord (18, .goto 4, 3, 0, []) (List.mem_of_getElem? (i := 10) rfl)) rfl ?_
      refine zp_zret (pc := 22) (n := 1) hx hb hE hQ hU5 rfl (by decide) (zd_X12_isWord (22, .ireturn, 1, 0, []) (List.mem_of_getElem? (i := 12) rfl)) (j := 0) rfl (zp_o0 (by omega) (by omega) (by omega) (by omega)) ?_
      rw [hps]
      refine ⟨rfl, rfl, ?_⟩
      show (1 = 1 ↔ zp_n u.2.1 a 16 = 1 ∧ zp_n u.2.1 a 17 = p1)
      omega
noncomputable def zψD_si : (Nat → Option Nat) → (Nat → Nat → Int) → List Int → (Nat → Option Nat) → (Nat → Nat → Int) → Int → Prop := fun P G ps P' G' rn => P' = P ∧ G' = G ∧ (rn = 1 ↔ G (zp_0 ps) 16 = 3 ∧ G (zp_0 ps) 17 = ps.getD 1 0)
theorem zY_si {l : Launch} {w : zk_W} (hW : zh_W w) : zk_metX l w zt_dv zt_TB zK_si (zp_A zp_tA) (zp_B zψD_si) ∧ zk_cok w zt_TB zK_si := by
  refine zp_meth hW (pl := 1725) rfl (by decide +kernel) (fun p e R s m args below meth c Q u hx hb hE hQ hU5 heff hnL hok hφ => ?_)
  have hw := hW.1
  obtain ⟨p0, p1, hps, k0, k1⟩ := zp_ps2 hok
  obtain ⟨a, rfl, hp⟩ := zp_this k0
  have hrm : zk_Kr (zk_ev (zp_E zK_si)) = zk_Kr zK_si := rfl
  rw [hps] at hφ ⊢
  have hi1 := zp_int k1
  show zp_J p l e R s m args below meth c Q w u [] 0 [(0, 2, (a : Int)), (1, 0, p1)] [] u.1 (zp_n u.2.1)
  refine zp_load (pc := 0) hx hb (zd_X12_isSign (0, .aload_n 0, 1, 0, []) (List.mem_of_getElem? (i := 0) rfl)) rfl (j := 0) rfl ?_
  refine zp_getf (n := ((zp_n u.2.1) a 16)) (pc := 1) hx hb hE hw (zd_X12_isSign (1, .getfield 260, 3, 0, []) (List.mem_of_getElem? (i := 1) rfl)) (j := 34) rfl rfl rfl hp rfl ?_
  refine zp_const (pc := 4) hx hb (zd_X12_isSign (4, .iconst 3, 1, 0, []) (List.mem_of_getElem? (i := 2) rfl)) rfl rfl ?_
  refine zp_icmp (pc := 5) (tgt := 22) hx hb (zd_X12_isSign (5, .if_icmp .ne 17, 3, 0, []) (List.mem_of_getElem? (i := 3) rfl)) rfl (fun (hcq23 : ¬ ((zp_n u.2.1) a 16) = 3) => ?_) (fun (hcq23 : ¬ (¬ ((zp_n u.2.1) a 16) = 3)) => ?_)
  · refine zp_const (pc := 22) hx hb (zd_X12_isSign (22, .iconst 0, 1, 0, []) (List.mem_of_getElem? (i := 12) rfl)) rfl rfl ?_
    refine zp_zret (pc := 23) (n := 0) hx hb hE hQ hU5 rfl (by decide) (zd_X12_isSign (23, .ireturn, 1, 0, []) (List.mem_of_getElem? (i := 13) rfl)) (j := 0) rfl (zp_o0 (by omega) (by omega) (by omega) (by omega)) ?_
    rw [hps]
    refine ⟨rfl, rfl, ?_⟩
    show (0 = 1 ↔ zp_n u.2.1 a 16 = 3 ∧ zp_n u.2.1 a 17 = p1)
    omega
  · refine zp_load (pc := 8) hx hb (zd_X12_isSign (8, .aload_n 0, 1, 0, []) (List.mem_of_getElem? (i := 4) rfl)) rfl (j := 0) rfl ?_
    refine zp_getf (n := ((zp_n u.2.1) a 17)) (pc := 9) hx hb hE hw (zd_X12_isSign (9, .getfield 250, 3, 0, []) (List.mem_of_getElem? (i := 5) rfl)) (j := 35) rfl rfl rfl hp rfl ?_
    refine zp_load (pc := 12) hx hb (zd_X12_isSign (12, .iload_n 1, 1, 0, []) (List.mem_of_getElem? (i := 6) rfl)) rfl (j := 1) rfl ?_
    refine zp_i2l (pc := 13) hx hb (zd_X12_isSign (13, .i2l, 1, 0, []) (List.mem_of_getElem? (i := 7) rfl)) ?_
    refine zp_lcmp (pc := 14) (tgt := 22) hx hb (zd_X12_isSign (14, .lcmp, 1, 0, []) (List.mem_of_getElem? (i := 8) rfl)) (zd_X12_isSign (15, .ifCond .ne 7, 3, 0, []) (List.mem_of_getElem? (i := 9) rfl)) rfl (fun (hcq24 : ¬ ((zp_n u.2.1) a 17) = p1) => ?_) (fun (hcq24 : ¬ (¬ ((zp_n u.2.1) a 17) = p1)) => ?_)
    · refine zp_const (pc := 22) hx hb (zd_X12_isSign (22, .iconst 0, 1, 0, []) (List.mem_of_getElem? (i := 12) rfl)) rfl rfl ?_
      refine zp_zret (pc := 23) (n := 0) hx hb hE hQ hU5 rfl (by decide) (zd_X12_isSign (23, .ireturn, 1, 0, []) (List.mem_of_getElem? (i := 13) rfl)) (j := 0) rfl (zp_o0 (by omega) (by omega) (by omega) (by omega)) ?_
      rw [hps]
      refine ⟨rfl, rfl, ?_⟩
      show (0 = 1 ↔ zp_n u.2.1 a 16 = 3 ∧ zp_n u.2.1 a 17 = p1)
      omega
    · refine zp_const (pc := 18) hx hb (zd_X12_isSign (18, .iconst 1, 1, 0, []) (List.mem_of_getElem? (i := 10) rfl)) rfl rfl ?_
      refine zp_goto (tgt := 23) (pc := 19) hx hb (zd_X12_isSign (19, .goto 4, 3, 0, []) (List.mem_of_getElem? (i := 11) rfl)) rfl ?_
      refine zp_zret (pc := 23) (n := 1) hx hb hE hQ hU5 rfl (by decide) (zd_X12_isSign (23, .ireturn, 1, 0, []) (List.mem_of_getElem? (i := 13) rfl)) (j := 0) rfl (zp_o0 (by omega) (by omega) (by omega) (by omega)) ?_
      rw [hps]
      refine ⟨rfl, rfl, ?_⟩
      show (1 = 1 ↔ zp_n u.2.1 a 16 = 3 ∧ zp_n u.2.1 a 17 = p1)
      omega
noncomputable def zψD_in : (Nat → Option Nat) → (Nat → Nat → Int) → List Int → (Nat → Option Nat) → (Nat → Nat → Int) → Int → Prop := fun P G ps P' G' rn => P' = P ∧ G' = G ∧ (rn = 1 ↔ ps.getD 1 0 ≤ ps.getD 0 0 ∧ ps.getD 0 0 ≤ ps.getD 2 0)
theorem zY_in {l : Launch} {w : zk_W} (hW : zh_W w) : zk_metX l w zt_dv zt_TB zK_in (zp_A zp_tA) (zp_B zψD_in) ∧ zk_cok w zt_TB zK_in := by
  refine zp_meth hW (pl := 1572) rfl (by decide +kernel) (fun p e R s m args below meth c Q u hx hb hE hQ hU5 heff hnL hok hφ => ?_)
  have hw := hW.1
  obtain ⟨p0, p1, p2, hps, k0, k1, k2⟩ := zp_ps3 hok
  rw [hps]
  show zp_J p l e R s m args below meth c Q w u [] 0 [(0, 1, p0), (2, 1, p1), (4, 1, p2)] [] u.1 (zp_n u.2.1)
  refine zp_load (pc := 0) hx hb (zd_X12_in (0, .lload_n 0, 1, 0, []) (List.mem_of_getElem? (i := 0) rfl)) rfl (j := 0) rfl ?_
  refine zp_load (pc := 1) hx hb (zd_X12_in (1, .lload_n 2, 1, 0, []) (List.mem_of_getElem? (i := 1) rfl)) rfl (j := 1) rfl ?_
  refine zp_lcmp (pc := 2) (tgt := 17) hx hb (zd_X12_in (2, .lcmp, 1, 0, []) (List.mem_of_getElem? (i := 2) rfl)) (zd_X12_in (3, .ifCond .lt 14, 3, 0, []) (List.mem_of_getElem? (i := 3) rfl)) rfl (fun (hcq25 : p0 < p1) => ?_) (fun (hcq25 : ¬ (p0 < p1)) => ?_)
  · refine zp_const (pc := 17) hx hb (zd_X12_in (17, .iconst 0, 1, 0, []) (List.mem_of_getElem? (i := 10) rfl)) rfl rfl ?_
    refine zp_zret (pc := 18) (n := 0) hx hb hE hQ hU5 rfl (by decide) (zd_X12_in (18, .ireturn, 1, 0, []) (List.mem_of_getElem? (i := 11) rfl)) (j := 0) rfl (zp_o0 (by omega) (by omega) (by omega) (by omega)) ?_
    rw [hps]
    refine ⟨rfl, rfl, ?_⟩
    show (0 = 1 ↔ p1 ≤ p0 ∧ p0 ≤ p2)
    omega
  · refine zp_load (pc := 6) hx hb (zd_X12_in (6, .lload_n 0, 1, 0, []) (List.mem_of_getElem? (i := 4) rfl)) rfl (j := 0) rfl ?_
    refine zp_load (pc := 7) hx hb (zd_X12_in (7, .lload 4, 2, 0, []) (List.mem_of_getElem? (i := 5) rfl)) rfl (j := 2) rfl ?_
    refine zp_lcmp (pc := 9) (tgt := 17) hx hb (zd_X12_in (9, .lcmp, 1, 0, []) (List.mem_of_getElem? (i := 6) rfl)) (zd_X12_in (10, .ifCond .gt 7, 3, 0, []) (List.mem_of_getElem? (i := 7) rfl)) rfl (fun (hcq26 : p2 < p0) => ?_) (fun (hcq26 : ¬ (p2 < p0)) => ?_)
    · refine zp_const (pc := 17) hx hb (zd_X12_in (17, .iconst 0, 1, 0, []) (List.mem_of_getElem? (i := 10) rfl)) rfl rfl ?_
      refine zp_zret (pc := 18) (n := 0) hx hb hE hQ hU5 rfl (by decide) (zd_X12_in (18, .ireturn, 1, 0, []) (List.mem_of_getElem? (i := 11) rfl)) (j := 0) rfl (zp_o0 (by omega) (by omega) (by omega) (by omega)) ?_
      rw [hps]
      refine ⟨rfl, rfl, ?_⟩
      show (0 = 1 ↔ p1 ≤ p0 ∧ p0 ≤ p2)
      omega
    · refine zp_const (pc := 13) hx hb (zd_X12_in (13, .iconst 1, 1, 0, []) (List.mem_of_getElem? (i := 8) rfl)) rfl rfl ?_
      refine zp_goto (tgt := 18) (pc := 14) hx hb (zd_X12_in (14, .goto 4, 3, 0, []) (List.mem_of_getElem? (i := 9) rfl)) rfl ?_
      refine zp_zret (pc := 18) (n := 1) hx hb hE hQ hU5 rfl (by decide) (zd_X12_in (18, .ireturn, 1, 0, []) (List.mem_of_getElem? (i := 11) rfl)) (j := 0) rfl (zp_o0 (by omega) (by omega) (by omega) (by omega)) ?_
      rw [hps]
      refine ⟨rfl, rfl, ?_⟩
      show (1 = 1 ↔ p1 ≤ p0 ∧ p0 ≤ p2)
      omega
noncomputable def zφD_mu (B : Nat → Int) (ln tk nl od : Nat) (pi : List (Int × Int)) (cd : yC) : (Nat → Option Nat) → (Nat → Nat → Int) → List Int → Prop := fun _ G ps => zD (zp_0 ps) G 0 B ln tk nl od pi cd
noncomputable def zψD_mu (B : Nat → Int) (ln tk nl od : Nat) (pi : List (Int × Int)) (cd : yC) : (Nat → Option Nat) → (Nat → Nat → Int) → List Int → (Nat → Option Nat) → (Nat → Nat → Int) → Int → Prop := fun P G ps P' G' rn => P' = P ∧ (ps.getD 1 0 ≠ 1 → zD (zp_0 ps) G' 1 B ln tk nl od pi cd ∧ G' (zp_0 ps) 18 = (zy_fr B ln tk : Int)) ∧ (ps.getD 1 0 = 1 → zD (zp_0 ps) G' 0 B ln (zy_to B ln tk) nl od pi cd)
theorem zY_mu {l : Launch} {w : zk_W} (hW : zh_W w) (B : Nat → Int) (ln tk nl od : Nat) (pi : List (Int × Int)) (cd : yC) : zk_metX l w zt_dv zt_TB zK_mu (zp_A (zφD_mu B ln tk nl od pi cd)) (zp_B (zψD_mu B ln tk nl od pi cd)) ∧ zk_cok w zt_TB zK_mu := by
  refine zp_meth hW (pl := 1708) rfl (by decide +kernel) (fun p e R s m args below meth c Q u hx hb hE hQ hU5 heff hnL hok hφ => ?_)
  have hw := hW.1
  obtain ⟨p0, p1, hps, k0, k1⟩ := zp_ps2 hok
  obtain ⟨a, rfl, hp⟩ := zp_this k0
  have hrm : zk_Kr (zk_ev (zp_E zK_mu)) = zk_Kr zK_mu := rfl
  rw [hps] at hφ ⊢
  have hi1 := zp_int k1
  have hφ : zD a (zp_n u.2.1) 0 B ln tk nl od pi cd := hφ
  have hD := hφ
  obtain ⟨⟨d13, dl, dt, d12, dB⟩, ⟨d14, d15, d16, d17⟩, ⟨d19, d18⟩, ⟨d23, d24, d25⟩, d26, ⟨d29, dp⟩, d30⟩ := hφ
  show zp_J p l e R s m args below meth c Q w u [] 0 [(0, 2, (a : Int)), (1, 0, p1)] [] u.1 (zp_n u.2.1)
  obtain ⟨f, hf⟩ : ∃ x : Nat, x = zy_fr B ln tk := ⟨_, rfl⟩
  rw [← hf] at d14
  have hf400 := (zy_fr_le (B := B) dt).2
  rw [← hf] at hf400
  refine zp_load (pc := 0) hx hb (zd_X12_must (0, .aload_n 0, 1, 0, []) (List.mem_of_getElem? (i := 0) rfl)) rfl (j := 0) rfl ?_
  refine zp_getf (n := 0) (pc := 1) hx hb hE hw (zd_X12_must (1, .getfield 240, 3, 0, []) (List.mem_of_getElem? (i := 1) rfl)) (j := 37) rfl rfl rfl hp d19 ?_
  refine zp_if (pc := 4) (tgt := 24) hx hb (zd_X12_must (4, .ifCond .ne 20, 3, 0, []) (List.mem_of_getElem? (i := 2) rfl)) rfl (fun (hcq27 : ¬ 0 = 0) => ?_) (fun (hcq27 : ¬ (¬ 0 = 0)) => ?_)
  · exfalso
    omega
  · refine zp_load (pc := 7) hx hb (zd_X12_must (7, .iload_n 1, 1, 0, []) (List.mem_of_getElem? (i := 3) rfl)) rfl (j := 1) rfl ?_
    refine zp_if (pc := 8) (tgt := 24) hx hb (zd_X12_must (8, .ifCond .ne 16, 3, 0, []) (List.mem_of_getElem? (i := 4) rfl)) rfl (fun (hcq28 : ¬ p1 = 0) => ?_) (fun (hcq28 : ¬ (¬ p1 = 0)) => ?_)
    · refine zp_load (pc := 24) hx hb (zd_X12_must (24, .aload_n 0, 1, 0, []) (List.mem_of_getElem? (i := 12) rfl)) rfl (j := 0) rfl ?_
      refine zp_getf (n := 0) (pc := 25) hx hb hE hw (zd_X12_must (25, .getfield 240, 3, 0, []) (List.mem_of_getElem? (i := 13) rfl)) (j := 37) rfl rfl rfl hp d19 ?_
      refine zp_if (pc := 28) (tgt := 35) hx hb (zd_X12_must (28, .ifCond .ne 7, 3, 0, []) (List.mem_of_getElem? (i := 14) rfl)) rfl (fun (hcq29 : ¬ 0 = 0) => ?_) (fun (hcq29 : ¬ (¬ 0 = 0)) => ?_)
      · exfalso
        omega
      · refine zp_load (pc := 31) hx hb (zd_X12_must (31, .aload_n 0, 1, 0, []) (List.mem_of_getElem? (i := 15) rfl)) rfl (j := 0) rfl ?_
        refine zp_call (pc := 32) (how := 0) (idx := 244) (mi := 212) (S := []) hx hb hE hw heff hrm (zY_nx hW B ln (zy_to B ln tk)) rfl (j := 14) rfl rfl (by decide +kernel) (zd_X12_must (32, .invokevirtual 244, 3, 0, []) (List.mem_of_getElem? (i := 16) rfl)) [(a : Int)] rfl ⟨zp_o2 hp, trivial⟩ (Nat.le_of_ble_eq_true rfl) (zD_y hD) (fun al hal rnn Pn Gn hextn hfrn hokn hcsn hpsin => ?_)
        obtain rfl := List.mem_singleton.mp hal
        obtain ⟨rfl, htn⟩ := hpsin
        have htn : zD a Gn 0 B ln (zy_to B ln tk) nl od pi cd := zD_nx hD htn
        refine zp_vret (pc := 35) hx hb hE hQ hU5 rfl (by decide) (zd_X12_must (35, .return_, 1, 0, []) (List.mem_of_getElem? (i := 17) rfl)) (j := 0) rfl ?_
        rw [hps]
        refine ⟨rfl, fun z => ?_, fun _ => htn⟩
        have z : p1 ≠ 1 := z
        omega
    · refine zp_load (pc := 11) hx hb (zd_X12_must (11, .aload_n 0, 1, 0, []) (List.mem_of_getElem? (i := 5) rfl)) rfl (j := 0) rfl ?_
      refine zp_const (pc := 12) hx hb (zd_X12_must (12, .iconst 1, 1, 0, []) (List.mem_of_getElem? (i := 6) rfl)) rfl rfl ?_
      refine zp_putf (pc := 13) hx hb hE hw heff (zd_X12_must (13, .putfield 240, 3, 0, []) (List.mem_of_getElem? (i := 7) rfl)) (j := 37) rfl rfl rfl hp (zp_o0 (by decide) (by decide) (by decide) (by decide)) ?_
      refine zp_load (pc := 16) hx hb (zd_X12_must (16, .aload_n 0, 1, 0, []) (List.mem_of_getElem? (i := 8) rfl)) rfl (j := 0) rfl ?_
      refine zp_load (pc := 17) hx hb (zd_X12_must (17, .aload_n 0, 1, 0, []) (List.mem_of_getElem? (i := 9) rfl)) rfl (j := 0) rfl ?_
      refine zp_getf (n := (f : Int)) (pc := 18) hx hb hE hw (zd_X12_must (18, .getfield 247, 3, 0, []) (List.mem_of_getElem? (i := 10) rfl)) (j := 32) rfl rfl rfl hp ((zp_set_ne (Or.inr (by decide))).trans (d14)) ?_
      refine zp_putf (pc := 21) hx hb hE hw heff (zd_X12_must (21, .putfield 38, 3, 0, []) (List.mem_of_getElem? (i := 11) rfl)) (j := 36) rfl rfl rfl hp (zp_o0 (by omega) (by omega) (by omega) (by omega)) ?_
      refine zp_load (pc := 24) hx hb (zd_X12_must (24, .aload_n 0, 1, 0, []) (List.mem_of_getElem? (i := 12) rfl)) rfl (j := 0) rfl ?_
      refine zp_getf (n := 1) (pc := 25) hx hb hE hw (zd_X12_must (25, .getfield 240, 3, 0, []) (List.mem_of_getElem? (i := 13) rfl)) (j := 37) rfl rfl rfl hp ((zp_set_ne (Or.inr (by decide))).trans (zp_set_self)) ?_
      refine zp_if (pc := 28) (tgt := 35) hx hb (zd_X12_must (28, .ifCond .ne 7, 3, 0, []) (List.mem_of_getElem? (i := 14) rfl)) rfl (fun (hcq30 : ¬ 1 = 0) => ?_) (fun (hcq30 : ¬ (¬ 1 = 0)) => ?_)
      · refine zp_vret (pc := 35) hx hb hE hQ hU5 rfl (by decide) (zd_X12_must (35, .return_, 1, 0, []) (List.mem_of_getElem? (i := 17) rfl)) (j := 0) rfl ?_
        rw [hps]
        refine ⟨rfl, fun _ => ⟨zD_18 (zD_19 hD), ?_⟩, fun z => ?_⟩
        · show (zp_set (zp_set (zp_n u.2.1) a 19 1) a 18 (f : Int)) a 18 = _
          rw [← hf]
          exact zp_set_self
        · have z : p1 = 1 := z
          omega
      · exfalso
        omega
noncomputable def zφD_nu (B : Nat → Int) (ln tk nl od : Nat) (pi : List (Int × Int)) (cd : yC) : (Nat → Option Nat) → (Nat → Nat → Int) → List Int → Prop := fun _ G ps => zD (zp_0 ps) G 0 B ln tk nl od pi cd
noncomputable def zψD_nu (B : Nat → Int) (ln tk nl od : Nat) (pi : List (Int × Int)) (cd : yC) : (Nat → Option Nat) → (Nat → Nat → Int) → List Int → (Nat → Option Nat) → (Nat → Nat → Int) → Int → Prop := fun P G ps P' G' rn => P' = P ∧ (¬ (zy_so B ln tk = 2 ∧ ps.getD 1 0 ≤ zy_wo B ln tk ∧ zy_wo B ln tk ≤ ps.getD 2 0) → zD (zp_0 ps) G' 1 B ln tk nl od pi cd ∧ G' (zp_0 ps) 18 = (zy_fr B ln tk : Int)) ∧ ((zy_so B ln tk = 2 ∧ ps.getD 1 0 ≤ zy_wo B ln tk ∧ zy_wo B ln tk ≤ ps.getD 2 0) → zD (zp_0 ps) G' 0 B ln (zy_to B ln tk) nl od pi cd ∧ (-2147483648 ≤ ps.getD 1 0 → ps.getD 2 0 ≤ 2147483647 → rn = zy_wo B ln tk))
theorem zY_nu {l : Launch} {w : zk_W} (hW : zh_W w) (B : Nat → Int) (ln tk nl od : Nat) (pi : List (Int × Int)) (cd : yC) : zk_metX l w zt_dv zt_TB zK_nu (zp_A (zφD_nu B ln tk nl od pi cd)) (zp_B (zψD_nu B ln tk nl od pi cd)) ∧ zk_cok w zt_TB zK_nu := by
  refine zp_meth hW (pl := 1754) rfl (by decide +kernel) (fun p e R s m args below meth c Q u hx hb hE hQ hU5 heff hnL hok hφ => ?_)
  have hw := hW.1
  obtain ⟨p0, p1, p2, hps, k0, k1, k2⟩ := zp_ps3 hok
  obtain ⟨a, rfl, hp⟩ := zp_this k0
  have hrm : zk_Kr (zk_ev (zp_E zK_nu)) = zk_Kr zK_nu := rfl
  rw [hps] at hφ ⊢
  have hφ : zD a (zp_n u.2.1) 0 B ln tk nl od pi cd := hφ
  have hD := hφ
  obtain ⟨⟨d13, dl, dt, d12, dB⟩, ⟨d14, d15, d16, d17⟩, ⟨d19, d18⟩, ⟨d23, d24, d25⟩, d26, ⟨d29, dp⟩, d30⟩ := hφ
  show zp_J p l e R s m args below meth c Q w u [] 0 [(0, 2, (a : Int)), (1, 1, p1), (3, 1, p2)] [] u.1 (zp_n u.2.1)
  refine zp_kn (k := 17) (a := a) hw (show zp_fd 92 17 = some (12, 1, 0, (-9223372036854775808), 9223372036854775807) from rfl) rfl hp (fun hk17 => ?_)
  have r17 : zk_rg 1 (zp_n u.2.1 a 17) := hk17.2.2
  rw [d17] at r17
  obtain ⟨wv, hwv⟩ : ∃ x : Int, x = zy_wo B ln tk := ⟨_, rfl⟩
  rw [← hwv] at d17 r17
  obtain ⟨so, hso⟩ : ∃ x : Nat, x = zy_so B ln tk := ⟨_, rfl⟩
  rw [← hso] at d16
  refine zp_load (pc := 0) hx hb (zd_X12_number (0, .aload_n 0, 1, 0, []) (List.mem_of_getElem? (i := 0) rfl)) rfl (j := 0) rfl ?_
  refine zp_getf (n := wv) (pc := 1) hx hb hE hw (zd_X12_number (1, .getfield 250, 3, 0, []) (List.mem_of_getElem? (i := 1) rfl)) (j := 35) rfl rfl rfl hp d17 ?_
  refine zp_l2i (pc := 4) hx hb (zd_X12_number (4, .l2i, 1, 0, []) (List.mem_of_getElem? (i := 2) rfl)) (fun x31 r_x31 e_x31 => ?_)
  have i_x31 := zp_rg0 r_x31
  refine zp_store (L' := [(5, 0, x31), (0, 2, (a : Int)), (1, 1, p1), (3, 1, p2)]) (pc := 5) hx hb hnL (zd_X12_number (5, .istore 5, 2, 0, []) (List.mem_of_getElem? (i := 3) rfl)) rfl rfl rfl ?_
  refine zp_load (pc := 7) hx hb (zd_X12_number (7, .aload_n 0, 1, 0, []) (List.mem_of_getElem? (i := 4) rfl)) rfl (j := 1) rfl ?_
  refine zp_load (pc := 8) hx hb (zd_X12_number (8, .aload_n 0, 1, 0, []) (List.mem_of_getElem? (i := 5) rfl)) rfl (j := 1) rfl ?_
  refine zp_getf (n := (so : Int)) (pc := 9) hx hb hE hw (zd_X12_number (9, .getfield 260, 3, 0, []) (List.mem_of_getElem? (i := 6) rfl)) (j := 34) rfl rfl rfl hp d16 ?_
  refine zp_const (pc := 12) hx hb (zd_X12_number (12, .iconst 2, 1, 0, []) (List.mem_of_getElem? (i := 7) rfl)) rfl rfl ?_
  refine zp_icmp (pc := 13) (tgt := 32) hx hb (zd_X12_number (13, .if_icmp .ne 19, 3, 0, []) (List.mem_of_getElem? (i := 8) rfl)) rfl (fun (hcq32 : ¬ (so : Int) = 2) => ?_) (fun (hcq32 : ¬ (¬ (so : Int) = 2)) => ?_)
  · refine zp_const (pc := 32) hx hb (zd_X12_number (32, .iconst 0, 1, 0, []) (List.mem_of_getElem? (i := 17) rfl)) rfl rfl ?_
    refine zp_call (pc := 33) (how := 0) (idx := 275) (mi := 217) (S := []) hx hb hE hw heff hrm (zY_mu hW B ln tk nl od pi cd) rfl (j := 19) rfl rfl (by decide +kernel) (zd_X12_number (33, .invokevirtual 275, 3, 0, []) (List.mem_of_getElem? (i := 18) rfl)) [(a : Int), 0] rfl ⟨zp_o2 hp, zp_o0 (by omega) (by omega) (by omega) (by omega), trivial⟩ (Nat.le_of_ble_eq_true rfl) hD (fun al hal rnm Pm Gm hextm hfrm hokm hcsm hpsim => ?_)
    obtain rfl := List.mem_singleton.mp hal
    obtain ⟨rfl, htm⟩ := hpsim
    have htm : ((0 : Int) ≠ 1 → zD a Gm 1 B ln tk nl od pi cd ∧ Gm a 18 = (zy_fr B ln tk : Int)) ∧ ((0 : Int) = 1 → zD a Gm 0 B ln (zy_to B ln tk) nl od pi cd) := htm
    refine zp_load (pc := 36) hx hb (zd_X12_number (36, .iload 5, 2, 0, []) (List.mem_of_getElem? (i := 19) rfl)) rfl (j := 0) rfl ?_
    refine zp_iret (pc := 38) (n := x31) hx hb hE hQ hU5 rfl (by decide) (zd_X12_number (38, .ireturn, 1, 0, []) (List.mem_of_getElem? (i := 20) rfl)) (j := 0) rfl (zp_o0 (by omega) (by omega) (by omega) (by omega)) ?_
    rw [hps]
    refine ⟨rfl, fun z => htm.1 (fun z1 => z ?_), fun z => ⟨htm.2 ?_, fun y1 y2 => ?_⟩⟩
    · have z1 : (0 : Int) = 1 := z1
      show zy_so B ln tk = 2 ∧ p1 ≤ zy_wo B ln tk ∧ zy_wo B ln tk ≤ p2
      rw [← hwv, ← hso]
      omega
    · have z : zy_so B ln tk = 2 ∧ p1 ≤ zy_wo B ln tk ∧ zy_wo B ln tk ≤ p2 := z
      exfalso
      rw [← hwv, ← hso] at z
      omega
    · have z : zy_so B ln tk = 2 ∧ p1 ≤ zy_wo B ln tk ∧ zy_wo B ln tk ≤ p2 := z
      have y1 : -2147483648 ≤ p1 := y1
      have y2 : p2 ≤ 2147483647 := y2
      rw [← hwv] at z ⊢
      exact e_x31 ⟨by omega, by omega⟩
  · refine zp_load (pc := 16) hx hb (zd_X12_number (16, .aload_n 0, 1, 0, []) (List.mem_of_getElem? (i := 9) rfl)) rfl (j := 1) rfl ?_
    refine zp_getf (n := wv) (pc := 17) hx hb hE hw (zd_X12_number (17, .getfield 250, 3, 0, []) (List.mem_of_getElem? (i := 10) rfl)) (j := 35) rfl rfl rfl hp d17 ?_
    refine zp_load (pc := 20) hx hb (zd_X12_number (20, .lload_n 1, 1, 0, []) (List.mem_of_getElem? (i := 11) rfl)) rfl (j := 2) rfl ?_
    refine zp_load (pc := 21) hx hb (zd_X12_number (21, .lload_n 3, 1, 0, []) (List.mem_of_getElem? (i := 12) rfl)) rfl (j := 3) rfl ?_
    refine zp_call (pc := 22) (how := 1) (idx := 181) (mi := 186) (S := [(2, (a : Int))]) hx hb hE hw heff hrm (zY_in hW) rfl (j := 2) rfl rfl (by decide +kernel) (zd_X12_number (22, .invokestatic 181, 3, 0, []) (List.mem_of_getElem? (i := 13) rfl)) [wv, p1, p2] rfl ⟨zp_o1 r17, k1, k2, trivial⟩ (Nat.le_of_ble_eq_true rfl) trivial (fun al hal rni Pi Gi hexti hfri hoki hcsi hpsii => ?_)
    obtain rfl := List.mem_singleton.mp hal
    have hri := zp_int (hoki _ rfl).1
    obtain ⟨hPei, hGei, hti⟩ := hpsii
    rw [hPei, hGei]
    have hti : rni = 1 ↔ p1 ≤ wv ∧ wv ≤ p2 := hti
    refine zp_if (pc := 25) (tgt := 32) hx hb (zd_X12_number (25, .ifCond .eq 7, 3, 0, []) (List.mem_of_getElem? (i := 14) rfl)) rfl (fun (hcq33 : rni = 0) => ?_) (fun (hcq33 : ¬ (rni = 0)) => ?_)
    · refine zp_const (pc := 32) hx hb (zd_X12_number (32, .iconst 0, 1, 0, []) (List.mem_of_getElem? (i := 17) rfl)) rfl rfl ?_
      refine zp_call (pc := 33) (how := 0) (idx := 275) (mi := 217) (S := []) hx hb hE hw heff hrm (zY_mu hW B ln tk nl od pi cd) rfl (j := 19) rfl rfl (by decide +kernel) (zd_X12_number (33, .invokevirtual 275, 3, 0, []) (List.mem_of_getElem? (i := 18) rfl)) [(a : Int), 0] rfl ⟨zp_o2 hp, zp_o0 (by omega) (by omega) (by omega) (by omega), trivial⟩ (Nat.le_of_ble_eq_true rfl) hD (fun al hal rnm Pm Gm hextm hfrm hokm hcsm hpsim => ?_)
      obtain rfl := List.mem_singleton.mp hal
      obtain ⟨rfl, htm⟩ := hpsim
      have htm : ((0 : Int) ≠ 1 → zD a Gm 1 B ln tk nl od pi cd ∧ Gm a 18 = (zy_fr B ln tk : Int)) ∧ ((0 : Int) = 1 → zD a Gm 0 B ln (zy_to B ln tk) nl od pi cd) := htm
      refine zp_load (pc := 36) hx hb (zd_X12_number (36, .iload 5, 2, 0, []) (List.mem_of_getElem? (i := 19) rfl)) rfl (j := 0) rfl ?_
      refine zp_iret (pc := 38) (n := x31) hx hb hE hQ hU5 rfl (by decide) (zd_X12_number (38, .ireturn, 1, 0, []) (List.mem_of_getElem? (i := 20) rfl)) (j := 0) rfl (zp_o0 (by omega) (by omega) (by omega) (by omega)) ?_
      rw [hps]
      refine ⟨rfl, fun z => htm.1 (fun z1 => z ?_), fun z => ⟨htm.2 ?_, fun y1 y2 => ?_⟩⟩
      · have z1 : (0 : Int) = 1 := z1
        show zy_so B ln tk = 2 ∧ p1 ≤ zy_wo B ln tk ∧ zy_wo B ln tk ≤ p2
        rw [← hwv, ← hso]
        omega
      · have z : zy_so B ln tk = 2 ∧ p1 ≤ zy_wo B ln tk ∧ zy_wo B ln tk ≤ p2 := z
        exfalso
        rw [← hwv, ← hso] at z
        omega
      · have z : zy_so B ln tk = 2 ∧ p1 ≤ zy_wo B ln tk ∧ zy_wo B ln tk ≤ p2 := z
        have y1 : -2147483648 ≤ p1 := y1
        have y2 : p2 ≤ 2147483647 := y2
        rw [← hwv] at z ⊢
        exact e_x31 ⟨by omega, by omega⟩
    · refine zp_const (pc := 28) hx hb (zd_X12_number (28, .iconst 1, 1, 0, []) (List.mem_of_getElem? (i := 15) rfl)) rfl rfl ?_
      refine zp_goto (tgt := 33) (pc := 29) hx hb (zd_X12_number (29, .goto 4, 3, 0, []) (List.mem_of_getElem? (i := 16) rfl)) rfl ?_
      refine zp_call (pc := 33) (how := 0) (idx := 275) (mi := 217) (S := []) hx hb hE hw heff hrm (zY_mu hW B ln tk nl od pi cd) rfl (j := 19) rfl rfl (by decide +kernel) (zd_X12_number (33, .invokevirtual 275, 3, 0, []) (List.mem_of_getElem? (i := 18) rfl)) [(a : Int), 1] rfl ⟨zp_o2 hp, zp_o0 (by omega) (by omega) (by omega) (by omega), trivial⟩ (Nat.le_of_ble_eq_true rfl) hD (fun al hal rnm Pm Gm hextm hfrm hokm hcsm hpsim => ?_)
      obtain rfl := List.mem_singleton.mp hal
      obtain ⟨rfl, htm⟩ := hpsim
      have htm : ((1 : Int) ≠ 1 → zD a Gm 1 B ln tk nl od pi cd ∧ Gm a 18 = (zy_fr B ln tk : Int)) ∧ ((1 : Int) = 1 → zD a Gm 0 B ln (zy_to B ln tk) nl od pi cd) := htm
      refine zp_load (pc := 36) hx hb (zd_X12_number (36, .iload 5, 2, 0, []) (List.mem_of_getElem? (i := 19) rfl)) rfl (j := 0) rfl ?_
      refine zp_iret (pc := 38) (n := x31) hx hb hE hQ hU5 rfl (by decide) (zd_X12_number (38, .ireturn, 1, 0, []) (List.mem_of_getElem? (i := 20) rfl)) (j := 0) rfl (zp_o0 (by omega) (by omega) (by omega) (by omega)) ?_
      rw [hps]
      refine ⟨rfl, fun z => htm.1 (fun z1 => z ?_), fun z => ⟨htm.2 ?_, fun y1 y2 => ?_⟩⟩
      · have z1 : (1 : Int) = 1 := z1
        show zy_so B ln tk = 2 ∧ p1 ≤ zy_wo B ln tk ∧ zy_wo B ln tk ≤ p2
        rw [← hwv, ← hso]
        omega
      · exact rfl
      · have z : zy_so B ln tk = 2 ∧ p1 ≤ zy_wo B ln tk ∧ zy_wo B ln tk ≤ p2 := z
        have y1 : -2147483648 ≤ p1 := y1
        have y2 : p2 ≤ 2147483647 := y2
        rw [← hwv] at z ⊢
        exact e_x31 ⟨by omega, by omega⟩
noncomputable def zφD_ob (B : Nat → Int) (ln tk nl od : Nat) (pi : List (Int × Int)) (cd : yC) : (Nat → Option Nat) → (Nat → Nat → Int) → List Int → Prop := fun _ G ps => zD (zp_0 ps) G 0 B ln tk nl od pi cd ∧ pi.length < 400
noncomputable def zψD_ob (B : Nat → Int) (ln tk nl od : Nat) (pi : List (Int × Int)) (cd : yC) : (Nat → Option Nat) → (Nat → Nat → Int) → List Int → (Nat → Option Nat) → (Nat → Nat → Int) → Int → Prop := fun P G ps P' G' rn => P' = P ∧ (8 ≤ od → zD (zp_0 ps) G' 1 B ln tk nl od pi cd ∧ G' (zp_0 ps) 18 = (zy_fr B ln tk : Int)) ∧ (od < 8 → zD (zp_0 ps) G' 0 B ln (zy_to B ln tk) nl (od + 1) ((ps.getD 1 0, 0) :: pi) cd)
theorem zY_ob {l : Launch} {w : zk_W} (hW : zh_W w) (B : Nat → Int) (ln tk nl od : Nat) (pi : List (Int × Int)) (cd : yC) : zk_metX l w zt_dv zt_TB zK_ob (zp_A (zφD_ob B ln tk nl od pi cd)) (zp_B (zψD_ob B ln tk nl od pi cd)) ∧ zk_cok w zt_TB zK_ob := by
  refine zp_meth hW (pl := 1729) rfl (by decide +kernel) (fun p e R s m args below meth c Q u hx hb hE hQ hU5 heff hnL hok hφ => ?_)
  have hw := hW.1
  obtain ⟨p0, p1, hps, k0, k1⟩ := zp_ps2 hok
  obtain ⟨a, rfl, hp⟩ := zp_this k0
  have hrm : zk_Kr (zk_ev (zp_E zK_ob)) = zk_Kr zK_ob := rfl
  rw [hps] at hφ ⊢
  have hi1 := zp_int k1
  have hφ : zD a (zp_n u.2.1) 0 B ln tk nl od pi cd ∧ pi.length < 400 := hφ
  obtain ⟨hD, hp4⟩ := hφ
  have hD2 := hD
  obtain ⟨⟨d13, dl, dt, d12, dB⟩, ⟨d14, d15, d16, d17⟩, ⟨d19, d18⟩, ⟨d23, d24, d25⟩, d26, ⟨d29, dp⟩, d30⟩ := hD2
  show zp_J p l e R s m args below meth c Q w u [] 0 [(0, 2, (a : Int)), (1, 0, p1)] [] u.1 (zp_n u.2.1)
  refine zp_load (pc := 0) hx hb (zd_X12_openBracket (0, .aload_n 0, 1, 0, []) (List.mem_of_getElem? (i := 0) rfl)) rfl (j := 0) rfl ?_
  refine zp_load (pc := 1) hx hb (zd_X12_openBracket (1, .aload_n 0, 1, 0, []) (List.mem_of_getElem? (i := 1) rfl)) rfl (j := 0) rfl ?_
  refine zp_getf (n := (od : Int)) (pc := 2) hx hb hE hw (zd_X12_openBracket (2, .getfield 304, 3, 0, []) (List.mem_of_getElem? (i := 2) rfl)) (j := 48) rfl rfl rfl hp d30 ?_
  refine zp_const (pc := 5) hx hb (zd_X12_openBracket (5, .bipush 8, 2, 0, []) (List.mem_of_getElem? (i := 3) rfl)) rfl rfl ?_
  refine zp_icmp (pc := 7) (tgt := 14) hx hb (zd_X12_openBracket (7, .if_icmp .ge 7, 3, 0, []) (List.mem_of_getElem? (i := 4) rfl)) rfl (fun (hcq34 : 8 ≤ (od : Int)) => ?_) (fun (hcq34 : ¬ (8 ≤ (od : Int))) => ?_)
  · refine zp_const (pc := 14) hx hb (zd_X12_openBracket (14, .iconst 0, 1, 0, []) (List.mem_of_getElem? (i := 7) rfl)) rfl rfl ?_
    refine zp_call (pc := 15) (how := 0) (idx := 275) (mi := 217) (S := []) hx hb hE hw heff hrm (zY_mu hW B ln tk nl od pi cd) rfl (j := 19) rfl rfl (by decide +kernel) (zd_X12_openBracket (15, .invokevirtual 275, 3, 0, []) (List.mem_of_getElem? (i := 8) rfl)) [(a : Int), 0] rfl ⟨zp_o2 hp, zp_o0 (by decide) (by decide) (by decide) (by decide), trivial⟩ (Nat.le_of_ble_eq_true rfl) hD (fun al hal rnm Pm Gm hextm hfrm hokm hcsm hpsim => ?_)
    obtain rfl := List.mem_singleton.mp hal
    obtain ⟨rfl, htm⟩ := hpsim
    have htm : zD a Gm 1 B ln tk nl od pi cd ∧ Gm a 18 = (zy_fr B ln tk : Int) := htm.1 (show (0 : Int) ≠ 1 by decide)
    have htm2 := htm.1
    obtain ⟨⟨m13, ml, mt, m12, mB⟩, ⟨m14, m15, m16, m17⟩, ⟨m19, m18⟩, ⟨m23, m24, m25⟩, m26, ⟨m29, mp⟩, m30⟩ := htm2
    refine zp_load (pc := 18) hx hb (zd_X12_openBracket (18, .aload_n 0, 1, 0, []) (List.mem_of_getElem? (i := 9) rfl)) rfl (j := 0) rfl ?_
    refine zp_getf (n := 1) (pc := 19) hx hb hE hw (zd_X12_openBracket (19, .getfield 240, 3, 0, []) (List.mem_of_getElem? (i := 10) rfl)) (j := 37) rfl rfl rfl hp m19 ?_
    refine zp_if (pc := 22) (tgt := 41) hx hb (zd_X12_openBracket (22, .ifCond .ne 19, 3, 0, []) (List.mem_of_getElem? (i := 11) rfl)) rfl (fun (hcq35 : ¬ 1 = 0) => ?_) (fun (hcq35 : ¬ (¬ 1 = 0)) => ?_)
    · refine zp_vret (pc := 41) hx hb hE hQ hU5 rfl (by decide) (zd_X12_openBracket (41, .return_, 1, 0, []) (List.mem_of_getElem? (i := 22) rfl)) (j := 0) rfl ?_
      rw [hps]
      exact ⟨rfl, fun _ => htm, fun z => absurd z (by omega)⟩
    · exfalso
      omega
  · refine zp_const (pc := 10) hx hb (zd_X12_openBracket (10, .iconst 1, 1, 0, []) (List.mem_of_getElem? (i := 5) rfl)) rfl rfl ?_
    refine zp_goto (tgt := 15) (pc := 11) hx hb (zd_X12_openBracket (11, .goto 4, 3, 0, []) (List.mem_of_getElem? (i := 6) rfl)) rfl ?_
    refine zp_call (pc := 15) (how := 0) (idx := 275) (mi := 217) (S := []) hx hb hE hw heff hrm (zY_mu hW B ln tk nl od pi cd) rfl (j := 19) rfl rfl (by decide +kernel) (zd_X12_openBracket (15, .invokevirtual 275, 3, 0, []) (List.mem_of_getElem? (i := 8) rfl)) [(a : Int), 1] rfl ⟨zp_o2 hp, zp_o0 (by decide) (by decide) (by decide) (by decide), trivial⟩ (Nat.le_of_ble_eq_true rfl) hD (fun al hal rnm Pm Gm hextm hfrm hokm hcsm hpsim => ?_)
    obtain rfl := List.mem_singleton.mp hal
    obtain ⟨rfl, htm⟩ := hpsim
    have htm : zD a Gm 0 B ln (zy_to B ln tk) nl od pi cd := htm.2 rfl
    have htm2 := htm
    obtain ⟨⟨m13, ml, mt, m12, mB⟩, ⟨m14, m15, m16, m17⟩, ⟨m19, m18⟩, ⟨m23, m24, m25⟩, m26, ⟨m29, mp⟩, m30⟩ := htm2
    refine zp_load (pc := 18) hx hb (zd_X12_openBracket (18, .aload_n 0, 1, 0, []) (List.mem_of_getElem? (i := 9) rfl)) rfl (j := 0) rfl ?_
    refine zp_getf (n := 0) (pc := 19) hx hb hE hw (zd_X12_openBracket (19, .getfield 240, 3, 0, []) (List.mem_of_getElem? (i := 10) rfl)) (j := 37) rfl rfl rfl hp m19 ?_
    refine zp_if (pc := 22) (tgt := 41) hx hb (zd_X12_openBracket (22, .ifCond .ne 19, 3, 0, []) (List.mem_of_getElem? (i := 11) rfl)) rfl (fun (hcq36 : ¬ 0 = 0) => ?_) (fun (hcq36 : ¬ (¬ 0 = 0)) => ?_)
    · exfalso
      omega
    · refine zp_load (pc := 25) hx hb (zd_X12_openBracket (25, .aload_n 0, 1, 0, []) (List.mem_of_getElem? (i := 12) rfl)) rfl (j := 0) rfl ?_
      refine zp_dup (pc := 26) hx hb (zd_X12_openBracket (26, .dup, 1, 0, []) (List.mem_of_getElem? (i := 13) rfl)) (show (2 : Nat) ≠ 1 by decide) ?_
      refine zp_getf (n := (od : Int)) (pc := 27) hx hb hE hw (zd_X12_openBracket (27, .getfield 304, 3, 0, []) (List.mem_of_getElem? (i := 14) rfl)) (j := 48) rfl rfl rfl hp m30 ?_
      refine zp_const (pc := 30) hx hb (zd_X12_openBracket (30, .iconst 1, 1, 0, []) (List.mem_of_getElem? (i := 15) rfl)) rfl rfl ?_
      refine zp_add (n := ((od : Int) + 1)) (pc := 31) hx hb (zd_X12_openBracket (31, .iadd, 1, 0, []) (List.mem_of_getElem? (i := 16) rfl)) (by omega) (zp_r0 (by omega) (by omega)) ?_
      refine zp_putf (pc := 32) hx hb hE hw heff (zd_X12_openBracket (32, .putfield 304, 3, 0, []) (List.mem_of_getElem? (i := 17) rfl)) (j := 48) rfl rfl rfl hp (zp_o0 (by omega) (by omega) (by omega) (by omega)) ?_
      refine zp_load (pc := 35) hx hb (zd_X12_openBracket (35, .aload_n 0, 1, 0, []) (List.mem_of_getElem? (i := 18) rfl)) rfl (j := 0) rfl ?_
      refine zp_load (pc := 36) hx hb (zd_X12_openBracket (36, .iload_n 1, 1, 0, []) (List.mem_of_getElem? (i := 19) rfl)) rfl (j := 1) rfl ?_
      refine zp_const (pc := 37) hx hb (zd_X12_openBracket (37, .iconst 0, 1, 0, []) (List.mem_of_getElem? (i := 20) rfl)) rfl rfl ?_
      have hD3 := zD_30 (v := ((od : Int) + 1)) (od' := od + 1) htm (by omega)
      refine zp_call (pc := 38) (how := 0) (idx := 307) (mi := 220) (S := []) hx hb hE hw heff hrm (zY_pu hW 0 B ln (zy_to B ln tk) nl (od + 1) pi cd) rfl (j := 22) rfl rfl (by decide +kernel) (zd_X12_openBracket (38, .invokevirtual 307, 3, 0, []) (List.mem_of_getElem? (i := 21) rfl)) [(a : Int), p1, 0] rfl ⟨zp_o2 hp, k1, zp_o0 (by decide) (by decide) (by decide) (by decide), trivial⟩ (Nat.le_of_ble_eq_true rfl) ⟨hD3, hp4⟩ (fun al hal rnp Pp Gp hextp hfrp hokp hcsp hpsip => ?_)
      obtain rfl := List.mem_singleton.mp hal
      obtain ⟨rfl, htp⟩ := hpsip
      refine zp_vret (pc := 41) hx hb hE hQ hU5 rfl (by decide) (zd_X12_openBracket (41, .return_, 1, 0, []) (List.mem_of_getElem? (i := 22) rfl)) (j := 0) rfl ?_
      rw [hps]
      exact ⟨rfl, fun z => absurd z (by omega), fun _ => htp⟩
noncomputable def zφD_lf (B : Nat → Int) (ln tk nl od : Nat) (pi : List (Int × Int)) (cd : yC) : (Nat → Option Nat) → (Nat → Nat → Int) → List Int → Prop := fun _ G ps => zD (zp_0 ps) G 0 B ln tk nl od pi cd ∧ (ps.getD 1 0 = 1 → cd.2.2 < 400) ∧ nl ≤ 1000
noncomputable def zψD_lf (B : Nat → Int) (ln tk nl od : Nat) (pi : List (Int × Int)) (cd : yC) : (Nat → Option Nat) → (Nat → Nat → Int) → List Int → (Nat → Option Nat) → (Nat → Nat → Int) → Int → Prop := fun P G ps P' G' rn => P' = P ∧ (¬ (ps.getD 1 0 = 1 ∧ nl < 50) → zD (zp_0 ps) G' 1 B ln tk nl od pi cd ∧ G' (zp_0 ps) 18 = (zy_fr B ln tk : Int)) ∧ (ps.getD 1 0 = 1 ∧ nl < 50 → zD (zp_0 ps) G' 0 B ln (zy_to B ln tk) (nl + 1) od pi (yu cd.1 cd.2.2 (ps.getD 2 0), yu cd.2.1 cd.2.2 (ps.getD 3 0), cd.2.2 + 1))
theorem zY_lf {l : Launch} {w : zk_W} (hW : zh_W w) (B : Nat → Int) (ln tk nl od : Nat) (pi : List (Int × Int)) (cd : yC) : zk_metX l w zt_dv zt_TB zK_lf (zp_A (zφD_lf B ln tk nl od pi cd)) (zp_B (zψD_lf B ln tk nl od pi cd)) ∧ zk_cok w zt_TB zK_lf := by
  refine zp_meth hW (pl := 1746) rfl (by decide +kernel) (fun p e R s m args below meth c Q u hx hb hE hQ hU5 heff hnL hok hφ => ?_)
  have hw := hW.1
  obtain ⟨p0, p1, p2, p3, hps, k0, k1, k2, k3⟩ := zp_ps4 hok
  obtain ⟨a, rfl, hp⟩ := zp_this k0
  have hrm : zk_Kr (zk_ev (zp_E zK_lf)) = zk_Kr zK_lf := rfl
  rw [hps] at hφ ⊢
  have hi1 := zp_int k1
  have hi2 := zp_int k2
  have hi3 := zp_int k3
  have hφ : zD a (zp_n u.2.1) 0 B ln tk nl od pi cd ∧ (p1 = 1 → cd.2.2 < 400) ∧ nl ≤ 1000 := hφ
  obtain ⟨hD, hc4, hn4⟩ := hφ
  have hD2 := hD
  obtain ⟨⟨d13, dl, dt, d12, dB⟩, ⟨d14, d15, d16, d17⟩, ⟨d19, d18⟩, ⟨d23, d24, d25⟩, d26, ⟨d29, dp⟩, d30⟩ := hD2
  show zp_J p l e R s m args below meth c Q w u [] 0 [(0, 2, (a : Int)), (1, 0, p1), (2, 0, p2), (3, 0, p3)] [] u.1 (zp_n u.2.1)
  refine zp_load (pc := 0) hx hb (zd_X12_leaf (0, .aload_n 0, 1, 0, []) (List.mem_of_getElem? (i := 0) rfl)) rfl (j := 0) rfl ?_
  refine zp_load (pc := 1) hx hb (zd_X12_leaf (1, .iload_n 1, 1, 0, []) (List.mem_of_getElem? (i := 1) rfl)) rfl (j := 1) rfl ?_
  refine zp_if (pc := 2) (tgt := 18) hx hb (zd_X12_leaf (2, .ifCond .eq 16, 3, 0, []) (List.mem_of_getElem? (i := 2) rfl)) rfl (fun (hcq37 : p1 = 0) => ?_) (fun (hcq37 : ¬ (p1 = 0)) => ?_)
  · refine zp_const (pc := 18) hx hb (zd_X12_leaf (18, .iconst 0, 1, 0, []) (List.mem_of_getElem? (i := 9) rfl)) rfl rfl ?_
    refine zp_call (pc := 19) (how := 0) (idx := 275) (mi := 217) (S := []) hx hb hE hw heff hrm (zY_mu hW B ln tk nl od pi cd) rfl (j := 19) rfl rfl (by decide +kernel) (zd_X12_leaf (19, .invokevirtual 275, 3, 0, []) (List.mem_of_getElem? (i := 10) rfl)) [(a : Int), 0] rfl ⟨zp_o2 hp, zp_o0 (by decide) (by decide) (by decide) (by decide), trivial⟩ (Nat.le_of_ble_eq_true rfl) hD (fun al hal rnm Pm Gm hextm hfrm hokm hcsm hpsim => ?_)
    obtain rfl := List.mem_singleton.mp hal
    obtain ⟨rfl, htm⟩ := hpsim
    have htm : zD a Gm 1 B ln tk nl od pi cd ∧ Gm a 18 = (zy_fr B ln tk : Int) := htm.1 (show (0 : Int) ≠ 1 by decide)
    have htm2 := htm.1
    obtain ⟨⟨m13, ml, mt, m12, mB⟩, ⟨m14, m15, m16, m17⟩, ⟨m19, m18⟩, ⟨m23, m24, m25⟩, m26, ⟨m29, mp⟩, m30⟩ := htm2
    refine zp_load (pc := 22) hx hb (zd_X12_leaf (22, .aload_n 0, 1, 0, []) (List.mem_of_getElem? (i := 11) rfl)) rfl (j := 0) rfl ?_
    refine zp_getf (n := 1) (pc := 23) hx hb hE hw (zd_X12_leaf (23, .getfield 240, 3, 0, []) (List.mem_of_getElem? (i := 12) rfl)) (j := 37) rfl rfl rfl hp m19 ?_
    refine zp_if (pc := 26) (tgt := 45) hx hb (zd_X12_leaf (26, .ifCond .ne 19, 3, 0, []) (List.mem_of_getElem? (i := 13) rfl)) rfl (fun (hcq38 : ¬ 1 = 0) => ?_) (fun (hcq38 : ¬ (¬ 1 = 0)) => ?_)
    · refine zp_vret (pc := 45) hx hb hE hQ hU5 rfl (by decide) (zd_X12_leaf (45, .return_, 1, 0, []) (List.mem_of_getElem? (i := 24) rfl)) (j := 0) rfl ?_
      rw [hps]
      refine ⟨rfl, fun _ => htm, fun z => ?_⟩
      have z : p1 = 1 ∧ nl < 50 := z
      exfalso
      omega
    · exfalso
      omega
  · refine zp_load (pc := 5) hx hb (zd_X12_leaf (5, .aload_n 0, 1, 0, []) (List.mem_of_getElem? (i := 3) rfl)) rfl (j := 0) rfl ?_
    refine zp_getf (n := (nl : Int)) (pc := 6) hx hb hE hw (zd_X12_leaf (6, .getfield 310, 3, 0, []) (List.mem_of_getElem? (i := 4) rfl)) (j := 44) rfl rfl rfl hp d26 ?_
    refine zp_const (pc := 9) hx hb (zd_X12_leaf (9, .bipush 50, 2, 0, []) (List.mem_of_getElem? (i := 5) rfl)) rfl rfl ?_
    refine zp_icmp (pc := 11) (tgt := 18) hx hb (zd_X12_leaf (11, .if_icmp .ge 7, 3, 0, []) (List.mem_of_getElem? (i := 6) rfl)) rfl (fun (hcq39 : 50 ≤ (nl : Int)) => ?_) (fun (hcq39 : ¬ (50 ≤ (nl : Int))) => ?_)
    · refine zp_const (pc := 18) hx hb (zd_X12_leaf (18, .iconst 0, 1, 0, []) (List.mem_of_getElem? (i := 9) rfl)) rfl rfl ?_
      refine zp_call (pc := 19) (how := 0) (idx := 275) (mi := 217) (S := []) hx hb hE hw heff hrm (zY_mu hW B ln tk nl od pi cd) rfl (j := 19) rfl rfl (by decide +kernel) (zd_X12_leaf (19, .invokevirtual 275, 3, 0, []) (List.mem_of_getElem? (i := 10) rfl)) [(a : Int), 0] rfl ⟨zp_o2 hp, zp_o0 (by decide) (by decide) (by decide) (by decide), trivial⟩ (Nat.le_of_ble_eq_true rfl) hD (fun al hal rnm Pm Gm hextm hfrm hokm hcsm hpsim => ?_)
      obtain rfl := List.mem_singleton.mp hal
      obtain ⟨rfl, htm⟩ := hpsim
      have htm : zD a Gm 1 B ln tk nl od pi cd ∧ Gm a 18 = (zy_fr B ln tk : Int) := htm.1 (show (0 : Int) ≠ 1 by decide)
      have htm2 := htm.1
      obtain ⟨⟨m13, ml, mt, m12, mB⟩, ⟨m14, m15, m16, m17⟩, ⟨m19, m18⟩, ⟨m23, m24, m25⟩, m26, ⟨m29, mp⟩, m30⟩ := htm2
      refine zp_load (pc := 22) hx hb (zd_X12_leaf (22, .aload_n 0, 1, 0, []) (List.mem_of_getElem? (i := 11) rfl)) rfl (j := 0) rfl ?_
      refine zp_getf (n := 1) (pc := 23) hx hb hE hw (zd_X12_leaf (23, .getfield 240, 3, 0, []) (List.mem_of_getElem? (i := 12) rfl)) (j := 37) rfl rfl rfl hp m19 ?_
      refine zp_if (pc := 26) (tgt := 45) hx hb (zd_X12_leaf (26, .ifCond .ne 19, 3, 0, []) (List.mem_of_getElem? (i := 13) rfl)) rfl (fun (hcq40 : ¬ 1 = 0) => ?_) (fun (hcq40 : ¬ (¬ 1 = 0)) => ?_)
      · refine zp_vret (pc := 45) hx hb hE hQ hU5 rfl (by decide) (zd_X12_leaf (45, .return_, 1, 0, []) (List.mem_of_getElem? (i := 24) rfl)) (j := 0) rfl ?_
        rw [hps]
        refine ⟨rfl, fun _ => htm, fun z => ?_⟩
        have z : p1 = 1 ∧ nl < 50 := z
        exfalso
        omega
      · exfalso
        omega
    · refine zp_const (pc := 14) hx hb (zd_X12_leaf (14, .iconst 1, 1, 0, []) (List.mem_of_getElem? (i := 7) rfl)) rfl rfl ?_
      refine zp_goto (tgt := 19) (pc := 15) hx hb (zd_X12_leaf (15, .goto 4, 3, 0, []) (List.mem_of_getElem? (i := 8) rfl)) rfl ?_
      refine zp_call (pc := 19) (how := 0) (idx := 275) (mi := 217) (S := []) hx hb hE hw heff hrm (zY_mu hW B ln tk nl od pi cd) rfl (j := 19) rfl rfl (by decide +kernel) (zd_X12_leaf (19, .invokevirtual 275, 3, 0, []) (List.mem_of_getElem? (i := 10) rfl)) [(a : Int), 1] rfl ⟨zp_o2 hp, zp_o0 (by decide) (by decide) (by decide) (by decide), trivial⟩ (Nat.le_of_ble_eq_true rfl) hD (fun al hal rnm Pm Gm hextm hfrm hokm hcsm hpsim => ?_)
      obtain rfl := List.mem_singleton.mp hal
      obtain ⟨rfl, htm⟩ := hpsim
      have htm : zD a Gm 0 B ln (zy_to B ln tk) nl od pi cd := htm.2 rfl
      have htm2 := htm
      obtain ⟨⟨m13, ml, mt, m12, mB⟩, ⟨m14, m15, m16, m17⟩, ⟨m19, m18⟩, ⟨m23, m24, m25⟩, m26, ⟨m29, mp⟩, m30⟩ := htm2
      refine zp_load (pc := 22) hx hb (zd_X12_leaf (22, .aload_n 0, 1, 0, []) (List.mem_of_getElem? (i := 11) rfl)) rfl (j := 0) rfl ?_
      refine zp_getf (n := 0) (pc := 23) hx hb hE hw (zd_X12_leaf (23, .getfield 240, 3, 0, []) (List.mem_of_getElem? (i := 12) rfl)) (j := 37) rfl rfl rfl hp m19 ?_
      refine zp_if (pc := 26) (tgt := 45) hx hb (zd_X12_leaf (26, .ifCond .ne 19, 3, 0, []) (List.mem_of_getElem? (i := 13) rfl)) rfl (fun (hcq41 : ¬ 0 = 0) => ?_) (fun (hcq41 : ¬ (¬ 0 = 0)) => ?_)
      · exfalso
        omega
      · refine zp_load (pc := 29) hx hb (zd_X12_leaf (29, .aload_n 0, 1, 0, []) (List.mem_of_getElem? (i := 14) rfl)) rfl (j := 0) rfl ?_
        refine zp_load (pc := 30) hx hb (zd_X12_leaf (30, .iload_n 2, 1, 0, []) (List.mem_of_getElem? (i := 15) rfl)) rfl (j := 2) rfl ?_
        refine zp_load (pc := 31) hx hb (zd_X12_leaf (31, .iload_n 3, 1, 0, []) (List.mem_of_getElem? (i := 16) rfl)) rfl (j := 3) rfl ?_
        refine zp_call (pc := 32) (how := 0) (idx := 288) (mi := 227) (S := []) hx hb hE hw heff hrm (zY_em hW 0 B ln (zy_to B ln tk) nl od pi cd) rfl (j := 29) rfl rfl (by decide +kernel) (zd_X12_leaf (32, .invokevirtual 288, 3, 0, []) (List.mem_of_getElem? (i := 17) rfl)) [(a : Int), p2, p3] rfl ⟨zp_o2 hp, k2, k3, trivial⟩ (Nat.le_of_ble_eq_true rfl) ⟨htm, hc4 (by omega)⟩ (fun al hal rne Pe Ge hexte hfre hoke hcse hpsie => ?_)
        obtain rfl := List.mem_singleton.mp hal
        obtain ⟨rfl, hte⟩ := hpsie
        have hte : zD a Ge 0 B ln (zy_to B ln tk) nl od pi (yu cd.1 cd.2.2 p2, yu cd.2.1 cd.2.2 p3, cd.2.2 + 1) := hte
        have hte2 := hte
        obtain ⟨⟨e13, el, et, e12, eB⟩, ⟨e14, e15, e16, e17⟩, ⟨e19, e18⟩, ⟨e23, e24, e25⟩, e26, ⟨e29, ep⟩, e30⟩ := hte2
        refine zp_load (pc := 35) hx hb (zd_X12_leaf (35, .aload_n 0, 1, 0, []) (List.mem_of_getElem? (i := 18) rfl)) rfl (j := 0) rfl ?_
        refine zp_dup (pc := 36) hx hb (zd_X12_leaf (36, .dup, 1, 0, []) (List.mem_of_getElem? (i := 19) rfl)) (show (2 : Nat) ≠ 1 by decide) ?_
        refine zp_getf (n := (nl : Int)) (pc := 37) hx hb hE hw (zd_X12_leaf (37, .getfield 310, 3, 0, []) (List.mem_of_getElem? (i := 20) rfl)) (j := 44) rfl rfl rfl hp e26 ?_
        refine zp_const (pc := 40) hx hb (zd_X12_leaf (40, .iconst 1, 1, 0, []) (List.mem_of_getElem? (i := 21) rfl)) rfl rfl ?_
        refine zp_add (n := ((nl : Int) + 1)) (pc := 41) hx hb (zd_X12_leaf (41, .iadd, 1, 0, []) (List.mem_of_getElem? (i := 22) rfl)) (by omega) (zp_r0 (by omega) (by omega)) ?_
        refine zp_putf (pc := 42) hx hb hE hw heff (zd_X12_leaf (42, .putfield 310, 3, 0, []) (List.mem_of_getElem? (i := 23) rfl)) (j := 44) rfl rfl rfl hp (zp_o0 (by omega) (by omega) (by omega) (by omega)) ?_
        refine zp_vret (pc := 45) hx hb hE hQ hU5 rfl (by decide) (zd_X12_leaf (45, .return_, 1, 0, []) (List.mem_of_getElem? (i := 24) rfl)) (j := 0) rfl ?_
        rw [hps]
        refine ⟨rfl, fun z => absurd ?_ z, fun _ => zD_26 hte (by omega)⟩
        show p1 = 1 ∧ nl < 50
        omega
noncomputable def zφD_nn (pi : List (Int × Int)) : (Nat → Option Nat) → (Nat → Nat → Int) → List Int → Prop := fun _ G ps => zDp (zv G (zp_0 ps) 27) (zv G (zp_0 ps) 28) pi ∧ G (zp_0 ps) 29 = (pi.length : Int) ∧ ∀ e ∈ pi, e.1 ≤ 32
noncomputable def zψD_nn (pi : List (Int × Int)) : (Nat → Option Nat) → (Nat → Nat → Int) → List Int → (Nat → Option Nat) → (Nat → Nat → Int) → Int → Prop := fun P G ps P' G' rn => P' = P ∧ G' = G ∧ rn = ym_in pi
theorem zY_nn {l : Launch} {w : zk_W} (hW : zh_W w) (pi : List (Int × Int)) : zk_metX l w zt_dv zt_TB zK_nn (zp_A (zφD_nn pi)) (zp_B (zψD_nn pi)) ∧ zk_cok w zt_TB zK_nn := by
  refine zp_meth hW (pl := 1769) rfl (by decide +kernel) (fun p e R s m args below meth c Q u hx hb hE hQ hU5 heff hnL hok hφ => ?_)
  have hw := hW.1
  obtain ⟨p0, hps, k0⟩ := zp_ps1 hok
  obtain ⟨a, rfl, hp⟩ := zp_this k0
  have hrm : zk_Kr (zk_ev (zp_E zK_nn)) = zk_Kr zK_nn := rfl
  rw [hps] at hφ ⊢
  have hφ : zDp (zv (zp_n u.2.1) a 27) (zv (zp_n u.2.1) a 28) pi ∧ zp_n u.2.1 a 29 = (pi.length : Int) ∧ ∀ e ∈ pi, e.1 ≤ 32 := hφ
  obtain ⟨hpl, h29, h32⟩ := hφ
  show zp_J p l e R s m args below meth c Q w u [] 0 [(0, 2, (a : Int))] [] u.1 (zp_n u.2.1)
  refine zp_kn (k := 27) (a := a) hw (show zp_fd 92 27 = some (12, 2, 70, 0, 0) from rfl) rfl hp (fun hk27 => ?_)
  obtain ⟨b27, hb27, hq27⟩ := zp_this hk27
  obtain ⟨pd, hpd⟩ : ∃ x : Nat, x = pi.length := ⟨_, rfl⟩
  rw [← hpd] at h29
  refine zp_kn (k := 29) (a := a) hw (show zp_fd 92 29 = some (12, 0, 0, 0, 400) from rfl) rfl hp (fun hk29 => ?_)
  have hx29 := zp_int hk29
  rw [h29] at hx29
  have loop : ∀ (n k : Nat) (its : Int), pd - k < n → k ≤ pd → its = ym_in (pi.drop (pd - k)) → zp_J p l e R s m args below meth c Q w u [] 4 [(2, 0, (k : Int)), (1, 0, its), (0, 2, (a : Int))] [] u.1 (zp_n u.2.1) := by
    intro n
    induction n with
    | zero => intro k its h; exact absurd h (Nat.not_lt_zero _)
    | succ n ih =>
      intro k its hn hk hinv
      have hits := zDq_in (L := pi.drop (pd - k)) (fun e he => h32 e (List.mem_of_mem_drop he))
      rw [← hinv] at hits
      refine zp_load (pc := 4) hx hb (zd_X12_inner (4, .iload_n 2, 1, 0, []) (List.mem_of_getElem? (i := 4) rfl)) rfl (j := 0) rfl ?_
      refine zp_load (pc := 5) hx hb (zd_X12_inner (5, .aload_n 0, 1, 0, []) (List.mem_of_getElem? (i := 5) rfl)) rfl (j := 2) rfl ?_
      refine zp_getf (n := (pd : Int)) (pc := 6) hx hb hE hw (zd_X12_inner (6, .getfield 282, 3, 0, []) (List.mem_of_getElem? (i := 6) rfl)) (j := 47) rfl rfl rfl hp h29 ?_
      refine zp_icmp (pc := 9) (tgt := 40) hx hb (zd_X12_inner (9, .if_icmp .ge 31, 3, 0, []) (List.mem_of_getElem? (i := 7) rfl)) rfl (fun (hcq42 : (pd : Int) ≤ (k : Int)) => ?_) (fun (hcq42 : ¬ ((pd : Int) ≤ (k : Int))) => ?_)
      · refine zp_load (pc := 40) hx hb (zd_X12_inner (40, .iload_n 1, 1, 0, []) (List.mem_of_getElem? (i := 23) rfl)) rfl (j := 1) rfl ?_
        refine zp_iret (pc := 41) (n := its) hx hb hE hQ hU5 rfl (by decide) (zd_X12_inner (41, .ireturn, 1, 0, []) (List.mem_of_getElem? (i := 24) rfl)) (j := 0) rfl (zp_o0 (by omega) (by omega) (by omega) (by omega)) ?_
        rw [hps]
        refine ⟨rfl, rfl, ?_⟩
        show its = ym_in pi
        have hkp : pd - k = 0 := by omega
        rw [hinv, hkp]
        rfl
      · have hlt : k < pd := by omega
        obtain ⟨eo, et, hd, ho⟩ := zDp_at hpl (by omega : k < pi.length)
        rw [← hpd] at hd
        rw [zv_eq hb27] at ho
        have hem : eo ≤ 32 := h32 (eo, et) (List.mem_of_mem_drop (show (eo, et) ∈ pi.drop (pd - k - 1) by rw [hd]; exact List.mem_cons_self))
        have hnx : ym_in (pi.drop (pd - (k + 1))) = if 31 ≤ eo then eo else its := by
          rw [show pd - (k + 1) = pd - k - 1 by omega, hd, hinv]
          rfl
        refine zp_load (pc := 12) hx hb (zd_X12_inner (12, .aload_n 0, 1, 0, []) (List.mem_of_getElem? (i := 8) rfl)) rfl (j := 2) rfl ?_
        refine zp_getf (n := (b27 : Int)) (pc := 13) hx hb hE hw (zd_X12_inner (13, .getfield 51, 3, 0, []) (List.mem_of_getElem? (i := 9) rfl)) (j := 45) rfl rfl rfl hp hb27 ?_
        refine zp_load (pc := 16) hx hb (zd_X12_inner (16, .iload_n 2, 1, 0, []) (List.mem_of_getElem? (i := 10) rfl)) rfl (j := 0) rfl ?_
        refine zp_iald (j := k) (v := eo) (pc := 17) hx hb hw (zd_X12_inner (17, .iaload, 1, 0, []) (List.mem_of_getElem? (i := 11) rfl)) (show zp_ia 1 70 = some (400, 0, 0, (-2147483648), 2147483647) from rfl) hq27 (by omega) (by omega) ho (fun hk43 => ?_)
        have hk43b := zp_int hk43
        refine zp_const (pc := 18) hx hb (zd_X12_inner (18, .bipush 31, 2, 0, []) (List.mem_of_getElem? (i := 12) rfl)) rfl rfl ?_
        refine zp_icmp (pc := 20) (tgt := 32) hx hb (zd_X12_inner (20, .if_icmp .lt 12, 3, 0, []) (List.mem_of_getElem? (i := 13) rfl)) rfl (fun (hcq44 : eo < 31) => ?_) (fun (hcq44 : ¬ (eo < 31)) => ?_)
        · refine zp_load (pc := 32) hx hb (zd_X12_inner (32, .iload_n 1, 1, 0, []) (List.mem_of_getElem? (i := 19) rfl)) rfl (j := 1) rfl ?_
          refine zp_store (L' := [(1, 0, its), (2, 0, (k : Int)), (0, 2, (a : Int))]) (pc := 33) hx hb hnL (zd_X12_inner (33, .istore_n 1, 1, 0, []) (List.mem_of_getElem? (i := 20) rfl)) rfl rfl rfl ?_
          refine zp_iinc (L' := [(2, 0, ((k : Int) + 1)), (1, 0, its), (0, 2, (a : Int))]) (n := ((k : Int) + 1)) (pc := 34) hx hb hnL (zd_X12_inner (34, .iinc 2 1, 3, 0, []) (List.mem_of_getElem? (i := 21) rfl)) (j := 1) rfl (by omega) (zp_r0 (by omega) (by omega)) rfl rfl ?_
          refine zp_goto (tgt := 4) (pc := 37) hx hb (zd_X12_inner (37, .goto (-33), 3, 0, []) (List.mem_of_getElem? (i := 22) rfl)) rfl ?_
          exact ih (k + 1) its (by omega) (by omega) (by rw [hnx]; exact (if_neg (by omega)).symm)
        · refine zp_load (pc := 23) hx hb (zd_X12_inner (23, .aload_n 0, 1, 0, []) (List.mem_of_getElem? (i := 14) rfl)) rfl (j := 2) rfl ?_
          refine zp_getf (n := (b27 : Int)) (pc := 24) hx hb hE hw (zd_X12_inner (24, .getfield 51, 3, 0, []) (List.mem_of_getElem? (i := 15) rfl)) (j := 45) rfl rfl rfl hp hb27 ?_
          refine zp_load (pc := 27) hx hb (zd_X12_inner (27, .iload_n 2, 1, 0, []) (List.mem_of_getElem? (i := 16) rfl)) rfl (j := 0) rfl ?_
          refine zp_iald (j := k) (v := eo) (pc := 28) hx hb hw (zd_X12_inner (28, .iaload, 1, 0, []) (List.mem_of_getElem? (i := 17) rfl)) (show zp_ia 1 70 = some (400, 0, 0, (-2147483648), 2147483647) from rfl) hq27 (by omega) (by omega) ho (fun hk45 => ?_)
          have hk45b := zp_int hk45
          refine zp_goto (tgt := 33) (pc := 29) hx hb (zd_X12_inner (29, .goto 4, 3, 0, []) (List.mem_of_getElem? (i := 18) rfl)) rfl ?_
          refine zp_store (L' := [(1, 0, eo), (2, 0, (k : Int)), (0, 2, (a : Int))]) (pc := 33) hx hb hnL (zd_X12_inner (33, .istore_n 1, 1, 0, []) (List.mem_of_getElem? (i := 20) rfl)) rfl rfl rfl ?_
          refine zp_iinc (L' := [(2, 0, ((k : Int) + 1)), (1, 0, eo), (0, 2, (a : Int))]) (n := ((k : Int) + 1)) (pc := 34) hx hb hnL (zd_X12_inner (34, .iinc 2 1, 3, 0, []) (List.mem_of_getElem? (i := 21) rfl)) (j := 1) rfl (by omega) (zp_r0 (by omega) (by omega)) rfl rfl ?_
          refine zp_goto (tgt := 4) (pc := 37) hx hb (zd_X12_inner (37, .goto (-33), 3, 0, []) (List.mem_of_getElem? (i := 22) rfl)) rfl ?_
          exact ih (k + 1) eo (by omega) (by omega) (by rw [hnx]; exact (if_pos (by omega)).symm)
  refine zp_const (pc := 0) hx hb (zd_X12_inner (0, .iconst (-1), 1, 0, []) (List.mem_of_getElem? (i := 0) rfl)) rfl rfl ?_
  refine zp_store (L' := [(1, 0, (-1)), (0, 2, (a : Int))]) (pc := 1) hx hb hnL (zd_X12_inner (1, .istore_n 1, 1, 0, []) (List.mem_of_getElem? (i := 1) rfl)) rfl rfl rfl ?_
  refine zp_const (pc := 2) hx hb (zd_X12_inner (2, .iconst 0, 1, 0, []) (List.mem_of_getElem? (i := 2) rfl)) rfl rfl ?_
  refine zp_store (L' := [(2, 0, 0), (1, 0, (-1)), (0, 2, (a : Int))]) (pc := 3) hx hb hnL (zd_X12_inner (3, .istore_n 2, 1, 0, []) (List.mem_of_getElem? (i := 3) rfl)) rfl rfl rfl ?_
  refine loop (pd + 1) 0 (-1) (by omega) (by omega) ?_
  rw [show pd - 0 = pi.length by omega, List.drop_length]
  rfl
noncomputable def zφD_ic (pi : List (Int × Int)) : (Nat → Option Nat) → (Nat → Nat → Int) → List Int → Prop := fun _ G ps => zDp (zv G (zp_0 ps) 27) (zv G (zp_0 ps) 28) pi ∧ G (zp_0 ps) 29 = (pi.length : Int)
noncomputable def zψD_ic (pi : List (Int × Int)) : (Nat → Option Nat) → (Nat → Nat → Int) → List Int → (Nat → Option Nat) → (Nat → Nat → Int) → Int → Prop := fun P G ps P' G' rn => P' = P ∧ G' = G ∧ (rn = 1 ↔ ym_cd pi = true)
theorem zY_ic {l : Launch} {w : zk_W} (hW : zh_W w) (pi : List (Int × Int)) : zk_metX l w zt_dv zt_TB zK_ic (zp_A (zφD_ic pi)) (zp_B (zψD_ic pi)) ∧ zk_cok w zt_TB zK_ic := by
  refine zp_meth hW (pl := 1773) rfl (by decide +kernel) (fun p e R s m args below meth c Q u hx hb hE hQ hU5 heff hnL hok hφ => ?_)
  have hw := hW.1
  obtain ⟨p0, hps, k0⟩ := zp_ps1 hok
  obtain ⟨a, rfl, hp⟩ := zp_this k0
  have hrm : zk_Kr (zk_ev (zp_E zK_ic)) = zk_Kr zK_ic := rfl
  rw [hps] at hφ ⊢
  have hφ : zDp (zv (zp_n u.2.1) a 27) (zv (zp_n u.2.1) a 28) pi ∧ zp_n u.2.1 a 29 = (pi.length : Int) := hφ
  obtain ⟨hpl, h29⟩ := hφ
  show zp_J p l e R s m args below meth c Q w u [] 0 [(0, 2, (a : Int))] [] u.1 (zp_n u.2.1)
  refine zp_kn (k := 27) (a := a) hw (show zp_fd 92 27 = some (12, 2, 70, 0, 0) from rfl) rfl hp (fun hk27 => ?_)
  obtain ⟨b27, hb27, hq27⟩ := zp_this hk27
  obtain ⟨pd, hpd⟩ : ∃ x : Nat, x = pi.length := ⟨_, rfl⟩
  rw [← hpd] at h29
  refine zp_kn (k := 29) (a := a) hw (show zp_fd 92 29 = some (12, 0, 0, 0, 400) from rfl) rfl hp (fun hk29 => ?_)
  have hx29 := zp_int hk29
  rw [h29] at hx29
  have loop : ∀ (L : List (Int × Int)), L.length ≤ pd → zDp (zv (zp_n u.2.1) a 27) (zv (zp_n u.2.1) a 28) L → ym_cd pi = ym_cd L → zp_J p l e R s m args below meth c Q w u [] 7 [(1, 0, (L.length : Int) - 1), (0, 2, (a : Int))] [] u.1 (zp_n u.2.1) := by
    intro L
    induction L with
    | nil =>
      intro hn hL hcd
      show zp_J p l e R s m args below meth c Q w u [] 7 [(1, 0, (-1)), (0, 2, (a : Int))] [] u.1 (zp_n u.2.1)
      refine zp_load (pc := 7) hx hb (zd_X12_isCompared (7, .iload_n 1, 1, 0, []) (List.mem_of_getElem? (i := 5) rfl)) rfl (j := 0) rfl ?_
      refine zp_if (pc := 8) (tgt := 36) hx hb (zd_X12_isCompared (8, .ifCond .lt 28, 3, 0, []) (List.mem_of_getElem? (i := 6) rfl)) rfl (fun (hcq46 : (-1) < 0) => ?_) (fun (hcq46 : ¬ ((-1) < 0)) => ?_)
      · refine zp_load (pc := 36) hx hb (zd_X12_isCompared (36, .iload_n 1, 1, 0, []) (List.mem_of_getElem? (i := 18) rfl)) rfl (j := 0) rfl ?_
        refine zp_if (pc := 37) (tgt := 63) hx hb (zd_X12_isCompared (37, .ifCond .lt 26, 3, 0, []) (List.mem_of_getElem? (i := 19) rfl)) rfl (fun (hcq47 : (-1) < 0) => ?_) (fun (hcq47 : ¬ ((-1) < 0)) => ?_)
        · refine zp_const (pc := 63) hx hb (zd_X12_isCompared (63, .iconst 0, 1, 0, []) (List.mem_of_getElem? (i := 31) rfl)) rfl rfl ?_
          refine zp_zret (pc := 64) (n := 0) hx hb hE hQ hU5 rfl (by decide) (zd_X12_isCompared (64, .ireturn, 1, 0, []) (List.mem_of_getElem? (i := 32) rfl)) (j := 0) rfl (zp_o0 (by omega) (by omega) (by omega) (by omega)) ?_
          rw [hps]
          refine ⟨rfl, rfl, ?_⟩
          show (0 = 1 ↔ ym_cd pi = true)
          rw [hcd]
          exact ⟨fun z => absurd z (by decide), fun z => by cases z⟩
        · exfalso
          omega
      · exfalso
        omega
    | cons hd r ih =>
      obtain ⟨eo, et⟩ := hd
      intro hn hL hcd
      obtain ⟨k, hk⟩ : ∃ x : Nat, x = r.length := ⟨_, rfl⟩
      have hn : r.length + 1 ≤ pd := hn
      obtain ⟨L1, L2, L3⟩ := hL
      rw [← hk] at L1
      have L1 : zv (zp_n u.2.1) a 27 k = eo := L1
      rw [zv_eq hb27] at L1
      rw [show (((eo, et) :: r).length : Int) - 1 = (k : Int) by have : ((eo, et) :: r).length = r.length + 1 := rfl; omega]
      have hce : ym_cd ((eo, et) :: r) = if 20 ≤ eo ∧ eo ≤ 24 then ym_cd r else decide (25 ≤ eo ∧ eo ≤ 27) := rfl
      rw [hce] at hcd
      rw [← hk] at ih
      refine zp_load (pc := 7) hx hb (zd_X12_isCompared (7, .iload_n 1, 1, 0, []) (List.mem_of_getElem? (i := 5) rfl)) rfl (j := 0) rfl ?_
      refine zp_if (pc := 8) (tgt := 36) hx hb (zd_X12_isCompared (8, .ifCond .lt 28, 3, 0, []) (List.mem_of_getElem? (i := 6) rfl)) rfl (fun (hcq48 : (k : Int) < 0) => ?_) (fun (hcq48 : ¬ ((k : Int) < 0)) => ?_)
      · refine zp_load (pc := 36) hx hb (zd_X12_isCompared (36, .iload_n 1, 1, 0, []) (List.mem_of_getElem? (i := 18) rfl)) rfl (j := 0) rfl ?_
        refine zp_if (pc := 37) (tgt := 63) hx hb (zd_X12_isCompared (37, .ifCond .lt 26, 3, 0, []) (List.mem_of_getElem? (i := 19) rfl)) rfl (fun (hcq49 : (k : Int) < 0) => ?_) (fun (hcq49 : ¬ ((k : Int) < 0)) => ?_)
        · refine zp_const (pc := 63) hx hb (zd_X12_isCompared (63, .iconst 0, 1, 0, []) (List.mem_of_getElem? (i := 31) rfl)) rfl rfl ?_
          refine zp_zret (pc := 64) (n := 0) hx hb hE hQ hU5 rfl (by decide) (zd_X12_isCompared (64, .ireturn, 1, 0, []) (List.mem_of_getElem? (i := 32) rfl)) (j := 0) rfl (zp_o0 (by omega) (by omega) (by omega) (by omega)) ?_
          rw [hps]
          refine ⟨rfl, rfl, ?_⟩
          show (0 = 1 ↔ ym_cd pi = true)
          rw [hcd, if_neg (by omega)]
          exact ⟨fun z => absurd z (by decide), fun z => absurd (of_decide_eq_true z) (by omega)⟩
        · refine zp_load (pc := 40) hx hb (zd_X12_isCompared (40, .aload_n 0, 1, 0, []) (List.mem_of_getElem? (i := 20) rfl)) rfl (j := 1) rfl ?_
          refine zp_getf (n := (b27 : Int)) (pc := 41) hx hb hE hw (zd_X12_isCompared (41, .getfield 51, 3, 0, []) (List.mem_of_getElem? (i := 21) rfl)) (j := 45) rfl rfl rfl hp hb27 ?_
          refine zp_load (pc := 44) hx hb (zd_X12_isCompared (44, .iload_n 1, 1, 0, []) (List.mem_of_getElem? (i := 22) rfl)) rfl (j := 0) rfl ?_
          refine zp_iald (j := k) (v := eo) (pc := 45) hx hb hw (zd_X12_isCompared (45, .iaload, 1, 0, []) (List.mem_of_getElem? (i := 23) rfl)) (show zp_ia 1 70 = some (400, 0, 0, (-2147483648), 2147483647) from rfl) hq27 (by omega) (by omega) L1 (fun hk50 => ?_)
          have hk50b := zp_int hk50
          refine zp_i2l (pc := 46) hx hb (zd_X12_isCompared (46, .i2l, 1, 0, []) (List.mem_of_getElem? (i := 24) rfl)) ?_
          refine zp_ldc2 (pc := 47) hx hb hE (zd_X12_isCompared (47, .ldc2_w 296, 3, 0, []) (List.mem_of_getElem? (i := 25) rfl)) (j := 100) rfl ?_
          refine zp_ldc2 (pc := 50) hx hb hE (zd_X12_isCompared (50, .ldc2_w 298, 3, 0, []) (List.mem_of_getElem? (i := 26) rfl)) (j := 101) rfl ?_
          refine zp_call (pc := 53) (how := 1) (idx := 181) (mi := 186) (S := []) hx hb hE hw heff hrm (zY_in hW) rfl (j := 2) rfl rfl (by decide +kernel) (zd_X12_isCompared (53, .invokestatic 181, 3, 0, []) (List.mem_of_getElem? (i := 27) rfl)) [eo, 25, 27] rfl ⟨zp_o1 (zp_r1 (by omega) (by omega)), zp_o1 ⟨by decide, by decide⟩, zp_o1 ⟨by decide, by decide⟩, trivial⟩ (Nat.le_of_ble_eq_true rfl) trivial (fun al hal rnj Pj Gj hextj hfrj hokj hcsj hpsij => ?_)
          obtain rfl := List.mem_singleton.mp hal
          have hrj := zp_int (hokj _ rfl).1
          obtain ⟨hPej, hGej, htj⟩ := hpsij
          rw [hPej, hGej]
          have htj : rnj = 1 ↔ 25 ≤ eo ∧ eo ≤ 27 := htj
          refine zp_if (pc := 56) (tgt := 63) hx hb (zd_X12_isCompared (56, .ifCond .eq 7, 3, 0, []) (List.mem_of_getElem? (i := 28) rfl)) rfl (fun (hcq51 : rnj = 0) => ?_) (fun (hcq51 : ¬ (rnj = 0)) => ?_)
          · refine zp_const (pc := 63) hx hb (zd_X12_isCompared (63, .iconst 0, 1, 0, []) (List.mem_of_getElem? (i := 31) rfl)) rfl rfl ?_
            refine zp_zret (pc := 64) (n := 0) hx hb hE hQ hU5 rfl (by decide) (zd_X12_isCompared (64, .ireturn, 1, 0, []) (List.mem_of_getElem? (i := 32) rfl)) (j := 0) rfl (zp_o0 (by omega) (by omega) (by omega) (by omega)) ?_
            rw [hps]
            refine ⟨rfl, rfl, ?_⟩
            show (0 = 1 ↔ ym_cd pi = true)
            rw [hcd, if_neg (by omega)]
            exact ⟨fun z => absurd z (by decide), fun z => absurd (of_decide_eq_true z) (by omega)⟩
          · refine zp_const (pc := 59) hx hb (zd_X12_isCompared (59, .iconst 1, 1, 0, []) (List.mem_of_getElem? (i := 29) rfl)) rfl rfl ?_
            refine zp_goto (tgt := 64) (pc := 60) hx hb (zd_X12_isCompared (60, .goto 4, 3, 0, []) (List.mem_of_getElem? (i := 30) rfl)) rfl ?_
            refine zp_zret (pc := 64) (n := 1) hx hb hE hQ hU5 rfl (by decide) (zd_X12_isCompared (64, .ireturn, 1, 0, []) (List.mem_of_getElem? (i := 32) rfl)) (j := 0) rfl (zp_o0 (by omega) (by omega) (by omega) (by omega)) ?_
            rw [hps]
            refine ⟨rfl, rfl, ?_⟩
            show (1 = 1 ↔ ym_cd pi = true)
            rw [hcd, if_neg (by omega)]
            exact ⟨fun _ => decide_eq_true (by omega), fun _ => rfl⟩
      · refine zp_load (pc := 11) hx hb (zd_X12_isCompared (11, .aload_n 0, 1, 0, []) (List.mem_of_getElem? (i := 7) rfl)) rfl (j := 1) rfl ?_
        refine zp_getf (n := (b27 : Int)) (pc := 12) hx hb hE hw (zd_X12_isCompared (12, .getfield 51, 3, 0, []) (List.mem_of_getElem? (i := 8) rfl)) (j := 45) rfl rfl rfl hp hb27 ?_
        refine zp_load (pc := 15) hx hb (zd_X12_isCompared (15, .iload_n 1, 1, 0, []) (List.mem_of_getElem? (i := 9) rfl)) rfl (j := 0) rfl ?_
        refine zp_iald (j := k) (v := eo) (pc := 16) hx hb hw (zd_X12_isCompared (16, .iaload, 1, 0, []) (List.mem_of_getElem? (i := 10) rfl)) (show zp_ia 1 70 = some (400, 0, 0, (-2147483648), 2147483647) from rfl) hq27 (by omega) (by omega) L1 (fun hk52 => ?_)
        have hk52b := zp_int hk52
        refine zp_i2l (pc := 17) hx hb (zd_X12_isCompared (17, .i2l, 1, 0, []) (List.mem_of_getElem? (i := 11) rfl)) ?_
        refine zp_ldc2 (pc := 18) hx hb hE (zd_X12_isCompared (18, .ldc2_w 292, 3, 0, []) (List.mem_of_getElem? (i := 12) rfl)) (j := 98) rfl ?_
        refine zp_ldc2 (pc := 21) hx hb hE (zd_X12_isCompared (21, .ldc2_w 294, 3, 0, []) (List.mem_of_getElem? (i := 13) rfl)) (j := 99) rfl ?_
        refine zp_call (pc := 24) (how := 1) (idx := 181) (mi := 186) (S := []) hx hb hE hw heff hrm (zY_in hW) rfl (j := 2) rfl rfl (by decide +kernel) (zd_X12_isCompared (24, .invokestatic 181, 3, 0, []) (List.mem_of_getElem? (i := 14) rfl)) [eo, 20, 24] rfl ⟨zp_o1 (zp_r1 (by omega) (by omega)), zp_o1 ⟨by decide, by decide⟩, zp_o1 ⟨by decide, by decide⟩, trivial⟩ (Nat.le_of_ble_eq_true rfl) trivial (fun al hal rni Pi Gi hexti hfri hoki hcsi hpsii => ?_)
        obtain rfl := List.mem_singleton.mp hal
        have hri := zp_int (hoki _ rfl).1
        obtain ⟨hPei, hGei, hti⟩ := hpsii
        rw [hPei, hGei]
        have hti : rni = 1 ↔ 20 ≤ eo ∧ eo ≤ 24 := hti
        refine zp_if (pc := 27) (tgt := 36) hx hb (zd_X12_isCompared (27, .ifCond .eq 9, 3, 0, []) (List.mem_of_getElem? (i := 15) rfl)) rfl (fun (hcq53 : rni = 0) => ?_) (fun (hcq53 : ¬ (rni = 0)) => ?_)
        · refine zp_load (pc := 36) hx hb (zd_X12_isCompared (36, .iload_n 1, 1, 0, []) (List.mem_of_getElem? (i := 18) rfl)) rfl (j := 0) rfl ?_
          refine zp_if (pc := 37) (tgt := 63) hx hb (zd_X12_isCompared (37, .ifCond .lt 26, 3, 0, []) (List.mem_of_getElem? (i := 19) rfl)) rfl (fun (hcq54 : (k : Int) < 0) => ?_) (fun (hcq54 : ¬ ((k : Int) < 0)) => ?_)
          · refine zp_const (pc := 63) hx hb (zd_X12_isCompared (63, .iconst 0, 1, 0, []) (List.mem_of_getElem? (i := 31) rfl)) rfl rfl ?_
            refine zp_zret (pc := 64) (n := 0) hx hb hE hQ hU5 rfl (by decide) (zd_X12_isCompared (64, .ireturn, 1, 0, []) (List.mem_of_getElem? (i := 32) rfl)) (j := 0) rfl (zp_o0 (by omega) (by omega) (by omega) (by omega)) ?_
            rw [hps]
            refine ⟨rfl, rfl, ?_⟩
            show (0 = 1 ↔ ym_cd pi = true)
            rw [hcd, if_neg (by omega)]
            exact ⟨fun z => absurd z (by decide), fun z => absurd (of_decide_eq_true z) (by omega)⟩
          · refine zp_load (pc := 40) hx hb (zd_X12_isCompared (40, .aload_n 0, 1, 0, []) (List.mem_of_getElem? (i := 20) rfl)) rfl (j := 1) rfl ?_
            refine zp_getf (n := (b27 : Int)) (pc := 41) hx hb hE hw (zd_X12_isCompared (41, .getfield 51, 3, 0, []) (List.mem_of_getElem? (i := 21) rfl)) (j := 45) rfl rfl rfl hp hb27 ?_
            refine zp_load (pc := 44) hx hb (zd_X12_isCompared (44, .iload_n 1, 1, 0, []) (List.mem_of_getElem? (i := 22) rfl)) rfl (j := 0) rfl ?_
            refine zp_iald (j := k) (v := eo) (pc := 45) hx hb hw (zd_X12_isCompared (45, .iaload, 1, 0, []) (List.mem_of_getElem? (i := 23) rfl)) (show zp_ia 1 70 = some (400, 0, 0, (-2147483648), 2147483647) from rfl) hq27 (by omega) (by omega) L1 (fun hk55 => ?_)
            have hk55b := zp_int hk55
            refine zp_i2l (pc := 46) hx hb (zd_X12_isCompared (46, .i2l, 1, 0, []) (List.mem_of_getElem? (i := 24) rfl)) ?_
            refine zp_ldc2 (pc := 47) hx hb hE (zd_X12_isCompared (47, .ldc2_w 296, 3, 0, []) (List.mem_of_getElem? (i := 25) rfl)) (j := 100) rfl ?_
            refine zp_ldc2 (pc := 50) hx hb hE (zd_X12_isCompared (50, .ldc2_w 298, 3, 0, []) (List.mem_of_getElem? (i := 26) rfl)) (j := 101) rfl ?_
            refine zp_call (pc := 53) (how := 1) (idx := 181) (mi := 186) (S := []) hx hb hE hw heff hrm (zY_in hW) rfl (j := 2) rfl rfl (by decide +kernel) (zd_X12_isCompared (53, .invokestatic 181, 3, 0, []) (List.mem_of_getElem? (i := 27) rfl)) [eo, 25, 27] rfl ⟨zp_o1 (zp_r1 (by omega) (by omega)), zp_o1 ⟨by decide, by decide⟩, zp_o1 ⟨by decide, by decide⟩, trivial⟩ (Nat.le_of_ble_eq_true rfl) trivial (fun al hal rnj Pj Gj hextj hfrj hokj hcsj hpsij => ?_)
            obtain rfl := List.mem_singleton.mp hal
            have hrj := zp_int (hokj _ rfl).1
            obtain ⟨hPej, hGej, htj⟩ := hpsij
            rw [hPej, hGej]
            have htj : rnj = 1 ↔ 25 ≤ eo ∧ eo ≤ 27 := htj
            refine zp_if (pc := 56) (tgt := 63) hx hb (zd_X12_isCompared (56, .ifCond .eq 7, 3, 0, []) (List.mem_of_getElem? (i := 28) rfl)) rfl (fun (hcq56 : rnj = 0) => ?_) (fun (hcq56 : ¬ (rnj = 0)) => ?_)
            · refine zp_const (pc := 63) hx hb (zd_X12_isCompared (63, .iconst 0, 1, 0, []) (List.mem_of_getElem? (i := 31) rfl)) rfl rfl ?_
              refine zp_zret (pc := 64) (n := 0) hx hb hE hQ hU5 rfl (by decide) (zd_X12_isCompared (64, .ireturn, 1, 0, []) (List.mem_of_getElem? (i := 32) rfl)) (j := 0) rfl (zp_o0 (by omega) (by omega) (by omega) (by omega)) ?_
              rw [hps]
              refine ⟨rfl, rfl, ?_⟩
              show (0 = 1 ↔ ym_cd pi = true)
              rw [hcd, if_neg (by omega)]
              exact ⟨fun z => absurd z (by decide), fun z => absurd (of_decide_eq_true z) (by omega)⟩
            · refine zp_const (pc := 59) hx hb (zd_X12_isCompared (59, .iconst 1, 1, 0, []) (List.mem_of_getElem? (i := 29) rfl)) rfl rfl ?_
              refine zp_goto (tgt := 64) (pc := 60) hx hb (zd_X12_isCompared (60, .goto 4, 3, 0, []) (List.mem_of_getElem? (i := 30) rfl)) rfl ?_
              refine zp_zret (pc := 64) (n := 1) hx hb hE hQ hU5 rfl (by decide) (zd_X12_isCompared (64, .ireturn, 1, 0, []) (List.mem_of_getElem? (i := 32) rfl)) (j := 0) rfl (zp_o0 (by omega) (by omega) (by omega) (by omega)) ?_
              rw [hps]
              refine ⟨rfl, rfl, ?_⟩
              show (1 = 1 ↔ ym_cd pi = true)
              rw [hcd, if_neg (by omega)]
              exact ⟨fun _ => decide_eq_true (by omega), fun _ => rfl⟩
        · refine zp_iinc (L' := [(1, 0, ((k : Int) - 1)), (0, 2, (a : Int))]) (n := ((k : Int) - 1)) (pc := 30) hx hb hnL (zd_X12_isCompared (30, .iinc 1 (-1), 3, 0, []) (List.mem_of_getElem? (i := 16) rfl)) (j := 0) rfl (by omega) (zp_r0 (by omega) (by omega)) rfl rfl ?_
          refine zp_goto (tgt := 7) (pc := 33) hx hb (zd_X12_isCompared (33, .goto (-26), 3, 0, []) (List.mem_of_getElem? (i := 17) rfl)) rfl ?_
          rw [if_pos (by omega)] at hcd
          have ih2 := ih (by omega) L3 hcd
          rw [show ((k : Int) - 1) = ((k : Int) - 1) by omega] at ih2
          exact ih2
  refine zp_load (pc := 0) hx hb (zd_X12_isCompared (0, .aload_n 0, 1, 0, []) (List.mem_of_getElem? (i := 0) rfl)) rfl (j := 0) rfl ?_
  refine zp_getf (n := (pd : Int)) (pc := 1) hx hb hE hw (zd_X12_isCompared (1, .getfield 282, 3, 0, []) (List.mem_of_getElem? (i := 1) rfl)) (j := 47) rfl rfl rfl hp h29 ?_
  refine zp_const (pc := 4) hx hb (zd_X12_isCompared (4, .iconst 1, 1, 0, []) (List.mem_of_getElem? (i := 2) rfl)) rfl rfl ?_
  refine zp_sub (n := ((pd : Int) - 1)) (pc := 5) hx hb (zd_X12_isCompared (5, .isub, 1, 0, []) (List.mem_of_getElem? (i := 3) rfl)) (by omega) (zp_r0 (by omega) (by omega)) ?_
  refine zp_store (L' := [(1, 0, ((pd : Int) - 1)), (0, 2, (a : Int))]) (pc := 6) hx hb hnL (zd_X12_isCompared (6, .istore_n 1, 1, 0, []) (List.mem_of_getElem? (i := 4) rfl)) rfl rfl rfl ?_
  have h0 := loop pi (by omega) hpl rfl
  rw [← hpd] at h0
  rw [show ((pd : Int) - 1) = ((pd : Int) - 1) by omega] at h0
  exact h0
noncomputable def zφD_pt : (Nat → Option Nat) → (Nat → Nat → Int) → List Int → Prop := fun _ G ps => ∀ k : Nat, k < 9 → zv G (zp_0 ps) 31 k = ywd.getD k 0
noncomputable def zψD_pt : (Nat → Option Nat) → (Nat → Nat → Int) → List Int → (Nat → Option Nat) → (Nat → Nat → Int) → Int → Prop := fun P G ps P' G' rn => P' = P ∧ G' = G ∧ rn = if G (zp_0 ps) 16 = 1 then ych ywd 1 (G (zp_0 ps) 17) else -1
theorem zY_pt {l : Launch} {w : zk_W} (hW : zh_W w) : zk_metX l w zt_dv zt_TB zK_pt (zp_A zφD_pt) (zp_B zψD_pt) ∧ zk_cok w zt_TB zK_pt := by
  refine zp_meth hW (pl := 1741) rfl (by decide +kernel) (fun p e R s m args below meth c Q u hx hb hE hQ hU5 heff hnL hok hφ => ?_)
  have hw := hW.1
  obtain ⟨p0, hps, k0⟩ := zp_ps1 hok
  obtain ⟨a, rfl, hp⟩ := zp_this k0
  have hrm : zk_Kr (zk_ev (zp_E zK_pt)) = zk_Kr zK_pt := rfl
  rw [hps] at hφ ⊢
  have hφ : ∀ k : Nat, k < 9 → zv (zp_n u.2.1) a 31 k = ywd.getD k 0 := hφ
  show zp_J p l e R s m args below meth c Q w u [] 0 [(0, 2, (a : Int))] [] u.1 (zp_n u.2.1)
  refine zp_kn (k := 31) (a := a) hw (show zp_fd 92 31 = some (12, 2, 72, 0, 0) from rfl) rfl hp (fun hk31 => ?_)
  obtain ⟨b31, hb31, hq31⟩ := zp_this hk31
  have loop : ∀ (n k : Nat) (its : Int), 9 - k < n → k ≤ 9 → ((its = -1 ∧ ∀ i : Nat, i < k → ¬ (zp_n u.2.1 a 16 = 1 ∧ zp_n u.2.1 a 17 = ywd.getD i 0)) ∨ ∃ i : Nat, i < k ∧ its = (i : Int) + 1 ∧ zp_n u.2.1 a 16 = 1 ∧ zp_n u.2.1 a 17 = ywd.getD i 0) → zp_J p l e R s m args below meth c Q w u [] 4 [(2, 0, (k : Int)), (1, 0, its), (0, 2, (a : Int))] [] u.1 (zp_n u.2.1) := by
    intro n
    induction n with
    | zero => intro k its h; exact absurd h (Nat.not_lt_zero _)
    | succ n ih =>
      intro k its hn hk hinv
      replace hinv : zHid _ := hinv
      have hits : -1 ≤ its ∧ its ≤ 9 := by
        rcases hinv with ⟨h1, -⟩ | ⟨i, h1, h2, -⟩ <;> omega
      refine zp_load (pc := 4) hx hb (zd_X12_partAt (4, .iload_n 2, 1, 0, []) (List.mem_of_getElem? (i := 4) rfl)) rfl (j := 0) rfl ?_
      refine zp_const (pc := 5) hx hb (zd_X12_partAt (5, .bipush 9, 2, 0, []) (List.mem_of_getElem? (i := 5) rfl)) rfl rfl ?_
      refine zp_icmp (pc := 7) (tgt := 37) hx hb (zd_X12_partAt (7, .if_icmp .ge 30, 3, 0, []) (List.mem_of_getElem? (i := 6) rfl)) rfl (fun (hcq57 : 9 ≤ (k : Int)) => ?_) (fun (hcq57 : ¬ (9 ≤ (k : Int))) => ?_)
      · refine zp_load (pc := 37) hx hb (zd_X12_partAt (37, .iload_n 1, 1, 0, []) (List.mem_of_getElem? (i := 22) rfl)) rfl (j := 1) rfl ?_
        refine zp_iret (pc := 38) (n := its) hx hb hE hQ hU5 rfl (by decide) (zd_X12_partAt (38, .ireturn, 1, 0, []) (List.mem_of_getElem? (i := 23) rfl)) (j := 0) rfl (zp_o0 (by omega) (by omega) (by omega) (by omega)) ?_
        rw [hps]
        refine ⟨rfl, rfl, ?_⟩
        show its = if zp_n u.2.1 a 16 = 1 then ych ywd 1 (zp_n u.2.1 a 17) else -1
        have hk9 : k = 9 := by omega
        subst hk9
        rcases hinv with ⟨h1, h2⟩ | ⟨i, h1, h2, h3, h4⟩
        · rw [h1]
          by_cases z : zp_n u.2.1 a 16 = 1
          · rw [if_pos z, ych_no (L := ywd) (fun i hi y => h2 i hi ⟨z, y⟩)]
          · rw [if_neg z]
        · rw [if_pos h3, ych_at ywd_d h1 h4, h2]
          omega
      · have hwk := hφ k (by omega)
        rw [zv_eq hb31] at hwk
        refine zp_load (pc := 10) hx hb (zd_X12_partAt (10, .aload_n 0, 1, 0, []) (List.mem_of_getElem? (i := 7) rfl)) rfl (j := 2) rfl ?_
        refine zp_load (pc := 11) hx hb (zd_X12_partAt (11, .aload_n 0, 1, 0, []) (List.mem_of_getElem? (i := 8) rfl)) rfl (j := 2) rfl ?_
        refine zp_getf (n := (b31 : Int)) (pc := 12) hx hb hE hw (zd_X12_partAt (12, .getfield 75, 3, 0, []) (List.mem_of_getElem? (i := 9) rfl)) (j := 49) rfl rfl rfl hp hb31 ?_
        refine zp_load (pc := 15) hx hb (zd_X12_partAt (15, .iload_n 2, 1, 0, []) (List.mem_of_getElem? (i := 10) rfl)) rfl (j := 0) rfl ?_
        refine zp_lald (j := k) (v := (ywd.getD k 0)) (pc := 16) hx hb hw (zd_X12_partAt (16, .laload, 1, 0, []) (List.mem_of_getElem? (i := 11) rfl)) (show zp_ia 2 72 = some (9, 1, 0, (-9223372036854775808), 9223372036854775807) from rfl) hq31 (by omega) (by omega) hwk ?_
        refine zp_sk (k := 1) (j := 0) rfl (fun hlw => ?_)
        refine zp_call (pc := 17) (how := 0) (idx := 300) (mi := 216) (S := []) hx hb hE hw heff hrm (zY_wo hW) rfl (j := 18) rfl rfl (by decide +kernel) (zd_X12_partAt (17, .invokevirtual 300, 3, 0, []) (List.mem_of_getElem? (i := 12) rfl)) [(a : Int), (ywd.getD k 0)] rfl ⟨zp_o2 hp, zp_o1 (by assumption), trivial⟩ (Nat.le_of_ble_eq_true rfl) trivial (fun al hal rnw Pw Gw hextw hfrw hokw hcsw hpsiw => ?_)
        obtain rfl := List.mem_singleton.mp hal
        have hrw := zp_int (hokw _ rfl).1
        obtain ⟨hPew, hGew, htw⟩ := hpsiw
        rw [hPew, hGew]
        have htw : rnw = 1 ↔ zp_n u.2.1 a 16 = 1 ∧ zp_n u.2.1 a 17 = ywd.getD k 0 := htw
        refine zp_if (pc := 20) (tgt := 29) hx hb (zd_X12_partAt (20, .ifCond .eq 9, 3, 0, []) (List.mem_of_getElem? (i := 13) rfl)) rfl (fun (hcq59 : rnw = 0) => ?_) (fun (hcq59 : ¬ (rnw = 0)) => ?_)
        · refine zp_load (pc := 29) hx hb (zd_X12_partAt (29, .iload_n 1, 1, 0, []) (List.mem_of_getElem? (i := 18) rfl)) rfl (j := 1) rfl ?_
          refine zp_store (L' := [(1, 0, its), (2, 0, (k : Int)), (0, 2, (a : Int))]) (pc := 30) hx hb hnL (zd_X12_partAt (30, .istore_n 1, 1, 0, []) (List.mem_of_getElem? (i := 19) rfl)) rfl rfl rfl ?_
          refine zp_iinc (L' := [(2, 0, ((k : Int) + 1)), (1, 0, its), (0, 2, (a : Int))]) (n := ((k : Int) + 1)) (pc := 31) hx hb hnL (zd_X12_partAt (31, .iinc 2 1, 3, 0, []) (List.mem_of_getElem? (i := 20) rfl)) (j := 1) rfl (by omega) (zp_r0 (by omega) (by omega)) rfl rfl ?_
          refine zp_goto (tgt := 4) (pc := 34) hx hb (zd_X12_partAt (34, .goto (-30), 3, 0, []) (List.mem_of_getElem? (i := 21) rfl)) rfl ?_
          refine ih (k + 1) its (by omega) (by omega) ?_
          have hno : ¬ (zp_n u.2.1 a 16 = 1 ∧ zp_n u.2.1 a 17 = ywd.getD k 0) := fun z => by
            have := htw.mpr z
            omega
          rcases hinv with ⟨h1, h2⟩ | ⟨i, h1, h2, h3⟩
          · refine Or.inl ⟨h1, fun i hi => ?_⟩
            by_cases hik : i = k
            · rw [hik]; exact hno
            · exact h2 i (by omega)
          · exact Or.inr ⟨i, by omega, h2, h3⟩
        · refine zp_load (pc := 23) hx hb (zd_X12_partAt (23, .iload_n 2, 1, 0, []) (List.mem_of_getElem? (i := 14) rfl)) rfl (j := 0) rfl ?_
          refine zp_const (pc := 24) hx hb (zd_X12_partAt (24, .iconst 1, 1, 0, []) (List.mem_of_getElem? (i := 15) rfl)) rfl rfl ?_
          refine zp_add (n := ((k : Int) + 1)) (pc := 25) hx hb (zd_X12_partAt (25, .iadd, 1, 0, []) (List.mem_of_getElem? (i := 16) rfl)) (by omega) (zp_r0 (by omega) (by omega)) ?_
          refine zp_goto (tgt := 30) (pc := 26) hx hb (zd_X12_partAt (26, .goto 4, 3, 0, []) (List.mem_of_getElem? (i := 17) rfl)) rfl ?_
          refine zp_store (L' := [(1, 0, ((k : Int) + 1)), (2, 0, (k : Int)), (0, 2, (a : Int))]) (pc := 30) hx hb hnL (zd_X12_partAt (30, .istore_n 1, 1, 0, []) (List.mem_of_getElem? (i := 19) rfl)) rfl rfl rfl ?_
          refine zp_iinc (L' := [(2, 0, ((k : Int) + 1)), (1, 0, ((k : Int) + 1)), (0, 2, (a : Int))]) (n := ((k : Int) + 1)) (pc := 31) hx hb hnL (zd_X12_partAt (31, .iinc 2 1, 3, 0, []) (List.mem_of_getElem? (i := 20) rfl)) (j := 1) rfl (by omega) (zp_r0 (by omega) (by omega)) rfl rfl ?_
          refine zp_goto (tgt := 4) (pc := 34) hx hb (zd_X12_partAt (34, .goto (-30), 3, 0, []) (List.mem_of_getElem? (i := 21) rfl)) rfl ?_
          refine ih (k + 1) ((k : Int) + 1) (by omega) (by omega) ?_
          exact Or.inr ⟨k, by omega, by omega, htw.mp (by omega)⟩
  refine zp_const (pc := 0) hx hb (zd_X12_partAt (0, .iconst (-1), 1, 0, []) (List.mem_of_getElem? (i := 0) rfl)) rfl rfl ?_
  refine zp_store (L' := [(1, 0, (-1)), (0, 2, (a : Int))]) (pc := 1) hx hb hnL (zd_X12_partAt (1, .istore_n 1, 1, 0, []) (List.mem_of_getElem? (i := 1) rfl)) rfl rfl rfl ?_
  refine zp_const (pc := 2) hx hb (zd_X12_partAt (2, .iconst 0, 1, 0, []) (List.mem_of_getElem? (i := 2) rfl)) rfl rfl ?_
  refine zp_store (L' := [(2, 0, 0), (1, 0, (-1)), (0, 2, (a : Int))]) (pc := 3) hx hb hnL (zd_X12_partAt (3, .istore_n 2, 1, 0, []) (List.mem_of_getElem? (i := 3) rfl)) rfl rfl rfl ?_
  exact loop 10 0 (-1) (by omega) (by omega) (Or.inl ⟨rfl, fun i hi => absurd hi (Nat.not_lt_zero i)⟩)
noncomputable def zφD_ot : (Nat → Option Nat) → (Nat → Nat → Int) → List Int → Prop := fun _ G ps => ∀ k : Nat, k < 7 → zv G (zp_0 ps) 32 k = ywo.getD k 0
noncomputable def zψD_ot : (Nat → Option Nat) → (Nat → Nat → Int) → List Int → (Nat → Option Nat) → (Nat → Nat → Int) → Int → Prop := fun P G ps P' G' rn => P' = P ∧ G' = G ∧ rn = if G (zp_0 ps) 16 = 1 then ych ywo 1 (G (zp_0 ps) 17) else -1
theorem zY_ot {l : Launch} {w : zk_W} (hW : zh_W w) : zk_metX l w zt_dv zt_TB zK_ot (zp_A zφD_ot) (zp_B zψD_ot) ∧ zk_cok w zt_TB zK_ot := by
  refine zp_meth hW (pl := 1737) rfl (by decide +kernel) (fun p e R s m args below meth c Q u hx hb hE hQ hU5 heff hnL hok hφ => ?_)
  have hw := hW.1
  obtain ⟨p0, hps, k0⟩ := zp_ps1 hok
  obtain ⟨a, rfl, hp⟩ := zp_this k0
  have hrm : zk_Kr (zk_ev (zp_E zK_ot)) = zk_Kr zK_ot := rfl
  rw [hps] at hφ ⊢
  have hφ : ∀ k : Nat, k < 7 → zv (zp_n u.2.1) a 32 k = ywo.getD k 0 := hφ
  show zp_J p l e R s m args below meth c Q w u [] 0 [(0, 2, (a : Int))] [] u.1 (zp_n u.2.1)
  refine zp_kn (k := 32) (a := a) hw (show zp_fd 92 32 = some (12, 2, 73, 0, 0) from rfl) rfl hp (fun hk32 => ?_)
  obtain ⟨b32, hb32, hq32⟩ := zp_this hk32
  have loop : ∀ (n k : Nat) (its : Int), 7 - k < n → k ≤ 7 → ((its = -1 ∧ ∀ i : Nat, i < k → ¬ (zp_n u.2.1 a 16 = 1 ∧ zp_n u.2.1 a 17 = ywo.getD i 0)) ∨ ∃ i : Nat, i < k ∧ its = (i : Int) + 1 ∧ zp_n u.2.1 a 16 = 1 ∧ zp_n u.2.1 a 17 = ywo.getD i 0) → zp_J p l e R s m args below meth c Q w u [] 4 [(2, 0, (k : Int)), (1, 0, its), (0, 2, (a : Int))] [] u.1 (zp_n u.2.1) := by
    intro n
    induction n with
    | zero => intro k its h; exact absurd h (Nat.not_lt_zero _)
    | succ n ih =>
      intro k its hn hk hinv
      replace hinv : zHid _ := hinv
      have hits : -1 ≤ its ∧ its ≤ 7 := by
        rcases hinv with ⟨h1, -⟩ | ⟨i, h1, h2, -⟩ <;> omega
      refine zp_load (pc := 4) hx hb (zd_X12_orderPartAt (4, .iload_n 2, 1, 0, []) (List.mem_of_getElem? (i := 4) rfl)) rfl (j := 0) rfl ?_
      refine zp_const (pc := 5) hx hb (zd_X12_orderPartAt (5, .bipush 7, 2, 0, []) (List.mem_of_getElem? (i := 5) rfl)) rfl rfl ?_
      refine zp_icmp (pc := 7) (tgt := 37) hx hb (zd_X12_orderPartAt (7, .if_icmp .ge 30, 3, 0, []) (List.mem_of_getElem? (i := 6) rfl)) rfl (fun (hcq60 : 7 ≤ (k : Int)) => ?_) (fun (hcq60 : ¬ (7 ≤ (k : Int))) => ?_)
      · refine zp_load (pc := 37) hx hb (zd_X12_orderPartAt (37, .iload_n 1, 1, 0, []) (List.mem_of_getElem? (i := 22) rfl)) rfl (j := 1) rfl ?_
        refine zp_iret (pc := 38) (n := its) hx hb hE hQ hU5 rfl (by decide) (zd_X12_orderPartAt (38, .ireturn, 1, 0, []) (List.mem_of_getElem? (i := 23) rfl)) (j := 0) rfl (zp_o0 (by omega) (by omega) (by omega) (by omega)) ?_
        rw [hps]
        refine ⟨rfl, rfl, ?_⟩
        show its = if zp_n u.2.1 a 16 = 1 then ych ywo 1 (zp_n u.2.1 a 17) else -1
        have hk9 : k = 7 := by omega
        subst hk9
        rcases hinv with ⟨h1, h2⟩ | ⟨i, h1, h2, h3, h4⟩
        · rw [h1]
          by_cases z : zp_n u.2.1 a 16 = 1
          · rw [if_pos z, ych_no (L := ywo) (fun i hi y => h2 i hi ⟨z, y⟩)]
          · rw [if_neg z]
        · rw [if_pos h3, ych_at ywo_d h1 h4, h2]
          omega
      · have hwk := hφ k (by omega)
        rw [zv_eq hb32] at hwk
        refine zp_load (pc := 10) hx hb (zd_X12_orderPartAt (10, .aload_n 0, 1, 0, []) (List.mem_of_getElem? (i := 7) rfl)) rfl (j := 2) rfl ?_
        refine zp_load (pc := 11) hx hb (zd_X12_orderPartAt (11, .aload_n 0, 1, 0, []) (List.mem_of_getElem? (i := 8) rfl)) rfl (j := 2) rfl ?_
        refine zp_getf (n := (b32 : Int)) (pc := 12) hx hb hE hw (zd_X12_orderPartAt (12, .getfield 85, 3, 0, []) (List.mem_of_getElem? (i := 9) rfl)) (j := 50) rfl rfl rfl hp hb32 ?_
        refine zp_load (pc := 15) hx hb (zd_X12_orderPartAt (15, .iload_n 2, 1, 0, []) (List.mem_of_getElem? (i := 10) rfl)) rfl (j := 0) rfl ?_
        refine zp_lald (j := k) (v := (ywo.getD k 0)) (pc := 16) hx hb hw (zd_X12_orderPartAt (16, .laload, 1, 0, []) (List.mem_of_getElem? (i := 11) rfl)) (show zp_ia 2 73 = some (7, 1, 0, (-9223372036854775808), 9223372036854775807) from rfl) hq32 (by omega) (by omega) hwk ?_
        refine zp_sk (k := 1) (j := 0) rfl (fun hlw => ?_)
        refine zp_call (pc := 17) (how := 0) (idx := 300) (mi := 216) (S := []) hx hb hE hw heff hrm (zY_wo hW) rfl (j := 18) rfl rfl (by decide +kernel) (zd_X12_orderPartAt (17, .invokevirtual 300, 3, 0, []) (List.mem_of_getElem? (i := 12) rfl)) [(a : Int), (ywo.getD k 0)] rfl ⟨zp_o2 hp, zp_o1 (by assumption), trivial⟩ (Nat.le_of_ble_eq_true rfl) trivial (fun al hal rnw Pw Gw hextw hfrw hokw hcsw hpsiw => ?_)
        obtain rfl := List.mem_singleton.mp hal
        have hrw := zp_int (hokw _ rfl).1
        obtain ⟨hPew, hGew, htw⟩ := hpsiw
        rw [hPew, hGew]
        have htw : rnw = 1 ↔ zp_n u.2.1 a 16 = 1 ∧ zp_n u.2.1 a 17 = ywo.getD k 0 := htw
        refine zp_if (pc := 20) (tgt := 29) hx hb (zd_X12_orderPartAt (20, .ifCond .eq 9, 3, 0, []) (List.mem_of_getElem? (i := 13) rfl)) rfl (fun (hcq62 : rnw = 0) => ?_) (fun (hcq62 : ¬ (rnw = 0)) => ?_)
        · refine zp_load (pc := 29) hx hb (zd_X12_orderPartAt (29, .iload_n 1, 1, 0, []) (List.mem_of_getElem? (i := 18) rfl)) rfl (j := 1) rfl ?_
          refine zp_store (L' := [(1, 0, its), (2, 0, (k : Int)), (0, 2, (a : Int))]) (pc := 30) hx hb hnL (zd_X12_orderPartAt (30, .istore_n 1, 1, 0, []) (List.mem_of_getElem? (i := 19) rfl)) rfl rfl rfl ?_
          refine zp_iinc (L' := [(2, 0, ((k : Int) + 1)), (1, 0, its), (0, 2, (a : Int))]) (n := ((k : Int) + 1)) (pc := 31) hx hb hnL (zd_X12_orderPartAt (31, .iinc 2 1, 3, 0, []) (List.mem_of_getElem? (i := 20) rfl)) (j := 1) rfl (by omega) (zp_r0 (by omega) (by omega)) rfl rfl ?_
          refine zp_goto (tgt := 4) (pc := 34) hx hb (zd_X12_orderPartAt (34, .goto (-30), 3, 0, []) (List.mem_of_getElem? (i := 21) rfl)) rfl ?_
          refine ih (k + 1) its (by omega) (by omega) ?_
          have hno : ¬ (zp_n u.2.1 a 16 = 1 ∧ zp_n u.2.1 a 17 = ywo.getD k 0) := fun z => by
            have := htw.mpr z
            omega
          rcases hinv with ⟨h1, h2⟩ | ⟨i, h1, h2, h3⟩
          · refine Or.inl ⟨h1, fun i hi => ?_⟩
            by_cases hik : i = k
            · rw [hik]; exact hno
            · exact h2 i (by omega)
          · exact Or.inr ⟨i, by omega, h2, h3⟩
        · refine zp_load (pc := 23) hx hb (zd_X12_orderPartAt (23, .iload_n 2, 1, 0, []) (List.mem_of_getElem? (i := 14) rfl)) rfl (j := 0) rfl ?_
          refine zp_const (pc := 24) hx hb (zd_X12_orderPartAt (24, .iconst 1, 1, 0, []) (List.mem_of_getElem? (i := 15) rfl)) rfl rfl ?_
          refine zp_add (n := ((k : Int) + 1)) (pc := 25) hx hb (zd_X12_orderPartAt (25, .iadd, 1, 0, []) (List.mem_of_getElem? (i := 16) rfl)) (by omega) (zp_r0 (by omega) (by omega)) ?_
          refine zp_goto (tgt := 30) (pc := 26) hx hb (zd_X12_orderPartAt (26, .goto 4, 3, 0, []) (List.mem_of_getElem? (i := 17) rfl)) rfl ?_
          refine zp_store (L' := [(1, 0, ((k : Int) + 1)), (2, 0, (k : Int)), (0, 2, (a : Int))]) (pc := 30) hx hb hnL (zd_X12_orderPartAt (30, .istore_n 1, 1, 0, []) (List.mem_of_getElem? (i := 19) rfl)) rfl rfl rfl ?_
          refine zp_iinc (L' := [(2, 0, ((k : Int) + 1)), (1, 0, ((k : Int) + 1)), (0, 2, (a : Int))]) (n := ((k : Int) + 1)) (pc := 31) hx hb hnL (zd_X12_orderPartAt (31, .iinc 2 1, 3, 0, []) (List.mem_of_getElem? (i := 20) rfl)) (j := 1) rfl (by omega) (zp_r0 (by omega) (by omega)) rfl rfl ?_
          refine zp_goto (tgt := 4) (pc := 34) hx hb (zd_X12_orderPartAt (34, .goto (-30), 3, 0, []) (List.mem_of_getElem? (i := 21) rfl)) rfl ?_
          refine ih (k + 1) ((k : Int) + 1) (by omega) (by omega) ?_
          exact Or.inr ⟨k, by omega, by omega, htw.mp (by omega)⟩
  refine zp_const (pc := 0) hx hb (zd_X12_orderPartAt (0, .iconst (-1), 1, 0, []) (List.mem_of_getElem? (i := 0) rfl)) rfl rfl ?_
  refine zp_store (L' := [(1, 0, (-1)), (0, 2, (a : Int))]) (pc := 1) hx hb hnL (zd_X12_orderPartAt (1, .istore_n 1, 1, 0, []) (List.mem_of_getElem? (i := 1) rfl)) rfl rfl rfl ?_
  refine zp_const (pc := 2) hx hb (zd_X12_orderPartAt (2, .iconst 0, 1, 0, []) (List.mem_of_getElem? (i := 2) rfl)) rfl rfl ?_
  refine zp_store (L' := [(2, 0, 0), (1, 0, (-1)), (0, 2, (a : Int))]) (pc := 3) hx hb hnL (zd_X12_orderPartAt (3, .istore_n 2, 1, 0, []) (List.mem_of_getElem? (i := 3) rfl)) rfl rfl rfl ?_
  exact loop 8 0 (-1) (by omega) (by omega) (Or.inl ⟨rfl, fun i hi => absurd hi (Nat.not_lt_zero i)⟩)
