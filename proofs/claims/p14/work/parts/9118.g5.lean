/-! part g5: the reference: isSo, tells, exactly -/
/-- a clause, were its kind asked -/
noncomputable def yw_v (en : Int → Int → Int) (K : yK) : Option Int := if yw_tb en K = true then yw_s en K else none
theorem yw_1v {en : Int → Int → Int} {h : Int} {K : yK} : yw_1 en h K = if K.1 = h then yw_v en K else none := by
  unfold yw_1 yw_v
  by_cases h1 : K.1 = h
  · by_cases h2 : yw_tb en K = true
    · rw [if_pos ⟨h1, h2⟩, if_pos h1, if_pos h2]
    · rw [if_neg (fun z => h2 z.2), if_pos h1, if_neg h2]
  · rw [if_neg (fun z => h1 z.1), if_neg h1]
/-- the clauses of a law in the row -/
noncomputable def zg_cl (R : Nat → Int) (L : Nat) : Nat → Int := fun j => R (L + 2 + j)
theorem zg_cle {R : Nat → Int} {L c k : Nat} : zg_cl R L (8 * c + k) = R (L + 8 * c + (k + 2)) := by
  unfold zg_cl
  congr 1
  omega
noncomputable def zK_sov : zk_K := (zt_mn 242, prog_14_method_66_code, 2, (Option.some Jvm.ClassFile.FieldType.boolean), 1, 12, [(2, 13, 0, 0), (0, 0, 182, 4770)], [(some (0, 0, 0, 1), [])], [(13, 38, 0), (13, 39, 0), (13, 40, 0), (77, 1001, 0)], (2, 96, 0, 0))
noncomputable def zφ_sov (b3 b35 b37 L c : Nat) (R St : Nat → Int) (K : yK) : (Nat → Option Nat) → (Nat → Nat → Int) → List Int → Prop := fun P G ps => zgR (zp_0 ps) b3 b35 b37 L R St G ∧ P b3 = some 59 ∧ P b35 = some 75 ∧ P b37 = some 77 ∧ L ≤ 4680 ∧ (∀ j, j < 5580 → -2147483648 ≤ R j ∧ R j ≤ 2147483647) ∧ (∀ j, j < 13 → -2147483648 ≤ St j ∧ St j ≤ 2147483648) ∧ (ps.getD 1 0) = (L : Int) + 8 * (c : Int) + 2 ∧ c < 12 ∧ zLc (zg_cl R L) (zg_op R L) (zg_ar R L) 400 c K
noncomputable def zψ_sov (b3 b35 b37 L c : Nat) (R St : Nat → Int) (K : yK) : (Nat → Option Nat) → (Nat → Nat → Int) → List Int → (Nat → Option Nat) → (Nat → Nat → Int) → Int → Prop := fun P G ps P' G' rn => P' = P ∧ (∀ v, yw_v (zg_en St) K = some v → rn = 1 ∧ (¬ K.1 = 4 → (-2147483648 ≤ v ∧ v ≤ 2147483648) ∧ G' (zp_0 ps) 40 = v)) ∧ (yw_v (zg_en St) K = none → rn = 0)
set_option maxHeartbeats 4000000 in
theorem zX_sov {l : Launch} {w : zk_W} (hW : zh_W w) (b3 b35 b37 L c : Nat) (R St : Nat → Int) (K : yK) : zk_metX l w zt_dv zt_TB zK_sov (zp_A (zφ_sov b3 b35 b37 L c R St K)) (zp_B (zψ_sov b3 b35 b37 L c R St K)) ∧ zk_cok w zt_TB zK_sov := by
  refine zp_methX (cn := "WoundTownModel") zp_lkall hW (pl := 1817) rfl (by decide +kernel) (fun p e Rm s m args below meth cc9 Q u hx hb hE hQ hU5 heff hnL hok hφ => ?_)
  have hw := hW.1
  obtain ⟨p0, p1, hps, k0, k1⟩ := zp_ps2 hok
  obtain ⟨a, rfl, hp⟩ := zp_this k0
  have hrm : zk_Kr (zk_ev (zt_types, zp_lk, zt_dv, [], [], zp_lc, zK_sov)) = zk_Kr zK_sov := rfl
  rw [hps] at hφ ⊢
  have hi1 := zp_int k1
  have hφ : zgR a b3 b35 b37 L R St (zp_n u.2.1) ∧ u.1 b3 = some 59 ∧ u.1 b35 = some 75 ∧ u.1 b37 = some 77 ∧ L ≤ 4680 ∧ (∀ j, j < 5580 → -2147483648 ≤ R j ∧ R j ≤ 2147483647) ∧ (∀ j, j < 13 → -2147483648 ≤ St j ∧ St j ≤ 2147483648) ∧ p1 = (L : Int) + 8 * (c : Int) + 2 ∧ c < 12 ∧ zLc (zg_cl R L) (zg_op R L) (zg_ar R L) 400 c K := hφ
  obtain ⟨hm, q3, q35, q37, hL, hR, hSt, hp1, hc12, hK⟩ := hφ
  subst hp1
  obtain ⟨h1, h2, h3, h4, h5, h6⟩ := hK
  have h1 : R (L + 8 * c + 2) = K.1 := (zg_cle (k := 0)).symm.trans h1
  rcases h4 with ⟨s0, s1⟩ | ⟨xs9, s0, s1, bs, es, ks, fs, s2, s3, s4, s6, s5⟩
  · rcases h6 with ⟨t0, t1, t2, t3⟩ | ⟨yt, t0, ⟨bt, et, kt, ft, t1, t2, t3, t4, t5⟩, t6⟩
    · have t7 : R (L + 8 * c + 7) = R (L + 8 * c + 8) := zg_cle.symm.trans (t1.trans zg_cle)
      have e7 := hm.2.2.2.2.2.1 (L + 8 * c + 7)
      have e8 := hm.2.2.2.2.2.1 (L + 8 * c + 8)
      show zp_J p l e Rm s m args below meth cc9 Q w u [] 0 [(0, 2, (a : Int)), (1, 0, ((L : Int) + 8 * (c : Int) + 2))] [] u.1 (zp_n u.2.1)
      refine zp_load (pc := 0) hx hb (zd_X12_isSo (0, .aload_n 0, 1, 0, []) (List.mem_of_getElem? (i := 0) rfl)) rfl (j := 0) rfl ?_
      refine zp_getf (n := (b3 : Int)) (pc := 1) hx hb hE hw (zd_X12_isSo (1, .getfield 13, 3, 0, []) (List.mem_of_getElem? (i := 1) rfl)) (j := 21) rfl rfl rfl hp hm.2.1 ?_
      refine zp_load (pc := 4) hx hb (zd_X12_isSo (4, .iload_n 1, 1, 0, []) (List.mem_of_getElem? (i := 2) rfl)) rfl (j := 1) rfl ?_
      refine zp_const (pc := 5) hx hb (zd_X12_isSo (5, .iconst 5, 1, 0, []) (List.mem_of_getElem? (i := 3) rfl)) rfl rfl ?_
      refine zp_add (n := ((L : Int) + 8 * (c : Int) + 7)) (pc := 6) hx hb (zd_X12_isSo (6, .iadd, 1, 0, []) (List.mem_of_getElem? (i := 4) rfl)) (by omega) (zp_r0 (by omega) (by omega)) ?_
      refine zp_ialdT (j := (L + 8 * c + 7)) (v := ((zp_n u.2.1) b3 (2000 + (L + 8 * c + 7)))) (pc := 7) hx hb hw (zd_X12_isSo (7, .iaload, 1, 0, []) (List.mem_of_getElem? (i := 5) rfl)) zl_T59 rfl (zl_kd ((L + 8 * c + 7))) q3 (by omega) (show (L + 8 * c + 7) < 5580 by omega) rfl (fun hk21 => ?_)
      refine zp_load (pc := 8) hx hb (zd_X12_isSo (8, .aload_n 0, 1, 0, []) (List.mem_of_getElem? (i := 6) rfl)) rfl (j := 0) rfl ?_
      refine zp_getf (n := (b3 : Int)) (pc := 9) hx hb hE hw (zd_X12_isSo (9, .getfield 13, 3, 0, []) (List.mem_of_getElem? (i := 7) rfl)) (j := 21) rfl rfl rfl hp hm.2.1 ?_
      refine zp_load (pc := 12) hx hb (zd_X12_isSo (12, .iload_n 1, 1, 0, []) (List.mem_of_getElem? (i := 8) rfl)) rfl (j := 1) rfl ?_
      refine zp_const (pc := 13) hx hb (zd_X12_isSo (13, .bipush 6, 2, 0, []) (List.mem_of_getElem? (i := 9) rfl)) rfl rfl ?_
      refine zp_add (n := ((L : Int) + 8 * (c : Int) + 8)) (pc := 15) hx hb (zd_X12_isSo (15, .iadd, 1, 0, []) (List.mem_of_getElem? (i := 10) rfl)) (by omega) (zp_r0 (by omega) (by omega)) ?_
      refine zp_ialdT (j := (L + 8 * c + 8)) (v := ((zp_n u.2.1) b3 (2000 + (L + 8 * c + 8)))) (pc := 16) hx hb hw (zd_X12_isSo (16, .iaload, 1, 0, []) (List.mem_of_getElem? (i := 11) rfl)) zl_T59 rfl (zl_kd ((L + 8 * c + 8))) q3 (by omega) (show (L + 8 * c + 8) < 5580 by omega) rfl (fun hk22 => ?_)
      refine zp_icmp (pc := 17) (tgt := 59) hx hb (zd_X12_isSo (17, .if_icmp .ge 42, 3, 0, []) (List.mem_of_getElem? (i := 12) rfl)) rfl (fun (hc23 : ((zp_n u.2.1) b3 (2000 + (L + 8 * c + 8))) ≤ ((zp_n u.2.1) b3 (2000 + (L + 8 * c + 7)))) => ?_) (fun (hc23 : ¬ (((zp_n u.2.1) b3 (2000 + (L + 8 * c + 8))) ≤ ((zp_n u.2.1) b3 (2000 + (L + 8 * c + 7))))) => ?_)
      · refine zp_load (pc := 59) hx hb (zd_X12_isSo (59, .aload_n 0, 1, 0, []) (List.mem_of_getElem? (i := 37) rfl)) rfl (j := 0) rfl ?_
        refine zp_getf (n := (b3 : Int)) (pc := 60) hx hb hE hw (zd_X12_isSo (60, .getfield 13, 3, 0, []) (List.mem_of_getElem? (i := 38) rfl)) (j := 21) rfl rfl rfl hp hm.2.1 ?_
        refine zp_load (pc := 63) hx hb (zd_X12_isSo (63, .iload_n 1, 1, 0, []) (List.mem_of_getElem? (i := 39) rfl)) rfl (j := 1) rfl ?_
        refine zp_ialdT (j := (L + 8 * c + 2)) (v := (R (L + 8 * c + 2))) (pc := 64) hx hb hw (zd_X12_isSo (64, .iaload, 1, 0, []) (List.mem_of_getElem? (i := 40) rfl)) zl_T59 rfl (zl_kd ((L + 8 * c + 2))) q3 (by omega) (show (L + 8 * c + 2) < 5580 by omega) (hm.2.2.2.2.2.1 _) (fun hk24 => ?_)
        refine zp_const (pc := 65) hx hb (zd_X12_isSo (65, .iconst 4, 1, 0, []) (List.mem_of_getElem? (i := 41) rfl)) rfl rfl ?_
        refine zp_icmp (pc := 66) (tgt := 110) hx hb (zd_X12_isSo (66, .if_icmp .eq 44, 3, 0, []) (List.mem_of_getElem? (i := 42) rfl)) rfl (fun (hc25 : (R (L + 8 * c + 2)) = 4) => ?_) (fun (hc25 : ¬ ((R (L + 8 * c + 2)) = 4)) => ?_)
        · refine zp_const (pc := 110) hx hb (zd_X12_isSo (110, .iconst 1, 1, 0, []) (List.mem_of_getElem? (i := 68) rfl)) rfl rfl ?_
          refine zp_zret (pc := 111) (n := 1) hx hb hE hQ hU5 rfl (by decide) (zd_X12_isSo (111, .ireturn, 1, 0, []) (List.mem_of_getElem? (i := 69) rfl)) (j := 0) rfl (zp_o0 (by omega) (by omega) (by omega) (by omega)) ?_
          rw [hps]
          show u.1 = u.1 ∧ (∀ v, yw_v (zg_en St) K = some v → 1 = 1 ∧ (¬ K.1 = 4 → (-2147483648 ≤ v ∧ v ≤ 2147483648) ∧ (zp_n u.2.1) a 40 = v)) ∧ (yw_v (zg_en St) K = none → 1 = 0)
          have hz : yw_v (zg_en St) K = (some 1) := by
            unfold yw_v
            rw [if_pos (by unfold yw_tb; rw [t0])]
            unfold yw_s
            rw [s0]
          refine ⟨rfl, fun v hv => ⟨rfl, fun h9 => ?_⟩, fun hv => ?_⟩
          · rw [hz] at hv
            have hv := Option.some.inj hv
            exact absurd s1 h9
          · rw [hz] at hv
            cases hv
        · exfalso
          omega
      · exfalso
        omega
    · have t1 : R (L + 8 * c + 7) = (bt : Int) := zg_cle.symm.trans t1
      have t2 : R (L + 8 * c + 8) = (et : Int) := zg_cle.symm.trans t2
      have tl := yE_lt t5
      show zp_J p l e Rm s m args below meth cc9 Q w u [] 0 [(0, 2, (a : Int)), (1, 0, ((L : Int) + 8 * (c : Int) + 2))] [] u.1 (zp_n u.2.1)
      refine zp_load (pc := 0) hx hb (zd_X12_isSo (0, .aload_n 0, 1, 0, []) (List.mem_of_getElem? (i := 0) rfl)) rfl (j := 0) rfl ?_
      refine zp_getf (n := (b3 : Int)) (pc := 1) hx hb hE hw (zd_X12_isSo (1, .getfield 13, 3, 0, []) (List.mem_of_getElem? (i := 1) rfl)) (j := 21) rfl rfl rfl hp hm.2.1 ?_
      refine zp_load (pc := 4) hx hb (zd_X12_isSo (4, .iload_n 1, 1, 0, []) (List.mem_of_getElem? (i := 2) rfl)) rfl (j := 1) rfl ?_
      refine zp_const (pc := 5) hx hb (zd_X12_isSo (5, .iconst 5, 1, 0, []) (List.mem_of_getElem? (i := 3) rfl)) rfl rfl ?_
      refine zp_add (n := ((L : Int) + 8 * (c : Int) + 7)) (pc := 6) hx hb (zd_X12_isSo (6, .iadd, 1, 0, []) (List.mem_of_getElem? (i := 4) rfl)) (by omega) (zp_r0 (by omega) (by omega)) ?_
      refine zp_ialdT (j := (L + 8 * c + 7)) (v := (bt : Int)) (pc := 7) hx hb hw (zd_X12_isSo (7, .iaload, 1, 0, []) (List.mem_of_getElem? (i := 5) rfl)) zl_T59 rfl (zl_kd ((L + 8 * c + 7))) q3 (by omega) (show (L + 8 * c + 7) < 5580 by omega) ((hm.2.2.2.2.2.1 _).trans t1) (fun hk26 => ?_)
      refine zp_load (pc := 8) hx hb (zd_X12_isSo (8, .aload_n 0, 1, 0, []) (List.mem_of_getElem? (i := 6) rfl)) rfl (j := 0) rfl ?_
      refine zp_getf (n := (b3 : Int)) (pc := 9) hx hb hE hw (zd_X12_isSo (9, .getfield 13, 3, 0, []) (List.mem_of_getElem? (i := 7) rfl)) (j := 21) rfl rfl rfl hp hm.2.1 ?_
      refine zp_load (pc := 12) hx hb (zd_X12_isSo (12, .iload_n 1, 1, 0, []) (List.mem_of_getElem? (i := 8) rfl)) rfl (j := 1) rfl ?_
      refine zp_const (pc := 13) hx hb (zd_X12_isSo (13, .bipush 6, 2, 0, []) (List.mem_of_getElem? (i := 9) rfl)) rfl rfl ?_
      refine zp_add (n := ((L : Int) + 8 * (c : Int) + 8)) (pc := 15) hx hb (zd_X12_isSo (15, .iadd, 1, 0, []) (List.mem_of_getElem? (i := 10) rfl)) (by omega) (zp_r0 (by omega) (by omega)) ?_
      refine zp_ialdT (j := (L + 8 * c + 8)) (v := (et : Int)) (pc := 16) hx hb hw (zd_X12_isSo (16, .iaload, 1, 0, []) (List.mem_of_getElem? (i := 11) rfl)) zl_T59 rfl (zl_kd ((L + 8 * c + 8))) q3 (by omega) (show (L + 8 * c + 8) < 5580 by omega) ((hm.2.2.2.2.2.1 _).trans t2) (fun hk27 => ?_)
      refine zp_icmp (pc := 17) (tgt := 59) hx hb (zd_X12_isSo (17, .if_icmp .ge 42, 3, 0, []) (List.mem_of_getElem? (i := 12) rfl)) rfl (fun (hc28 : (et : Int) ≤ (bt : Int)) => ?_) (fun (hc28 : ¬ ((et : Int) ≤ (bt : Int))) => ?_)
      · exfalso
        omega
      · refine zp_load (pc := 20) hx hb (zd_X12_isSo (20, .aload_n 0, 1, 0, []) (List.mem_of_getElem? (i := 13) rfl)) rfl (j := 0) rfl ?_
        refine zp_load (pc := 21) hx hb (zd_X12_isSo (21, .aload_n 0, 1, 0, []) (List.mem_of_getElem? (i := 14) rfl)) rfl (j := 0) rfl ?_
        refine zp_getf (n := (b3 : Int)) (pc := 22) hx hb hE hw (zd_X12_isSo (22, .getfield 13, 3, 0, []) (List.mem_of_getElem? (i := 15) rfl)) (j := 21) rfl rfl rfl hp hm.2.1 ?_
        refine zp_load (pc := 25) hx hb (zd_X12_isSo (25, .iload_n 1, 1, 0, []) (List.mem_of_getElem? (i := 16) rfl)) rfl (j := 1) rfl ?_
        refine zp_const (pc := 26) hx hb (zd_X12_isSo (26, .iconst 5, 1, 0, []) (List.mem_of_getElem? (i := 17) rfl)) rfl rfl ?_
        refine zp_add (n := ((L : Int) + 8 * (c : Int) + 7)) (pc := 27) hx hb (zd_X12_isSo (27, .iadd, 1, 0, []) (List.mem_of_getElem? (i := 18) rfl)) (by omega) (zp_r0 (by omega) (by omega)) ?_
        refine zp_ialdT (j := (L + 8 * c + 7)) (v := (bt : Int)) (pc := 28) hx hb hw (zd_X12_isSo (28, .iaload, 1, 0, []) (List.mem_of_getElem? (i := 19) rfl)) zl_T59 rfl (zl_kd ((L + 8 * c + 7))) q3 (by omega) (show (L + 8 * c + 7) < 5580 by omega) ((hm.2.2.2.2.2.1 _).trans t1) (fun hk29 => ?_)
        refine zp_load (pc := 29) hx hb (zd_X12_isSo (29, .aload_n 0, 1, 0, []) (List.mem_of_getElem? (i := 20) rfl)) rfl (j := 0) rfl ?_
        refine zp_getf (n := (b3 : Int)) (pc := 30) hx hb hE hw (zd_X12_isSo (30, .getfield 13, 3, 0, []) (List.mem_of_getElem? (i := 21) rfl)) (j := 21) rfl rfl rfl hp hm.2.1 ?_
        refine zp_load (pc := 33) hx hb (zd_X12_isSo (33, .iload_n 1, 1, 0, []) (List.mem_of_getElem? (i := 22) rfl)) rfl (j := 1) rfl ?_
        refine zp_const (pc := 34) hx hb (zd_X12_isSo (34, .bipush 6, 2, 0, []) (List.mem_of_getElem? (i := 23) rfl)) rfl rfl ?_
        refine zp_add (n := ((L : Int) + 8 * (c : Int) + 8)) (pc := 36) hx hb (zd_X12_isSo (36, .iadd, 1, 0, []) (List.mem_of_getElem? (i := 24) rfl)) (by omega) (zp_r0 (by omega) (by omega)) ?_
        refine zp_ialdT (j := (L + 8 * c + 8)) (v := (et : Int)) (pc := 37) hx hb hw (zd_X12_isSo (37, .iaload, 1, 0, []) (List.mem_of_getElem? (i := 25) rfl)) zl_T59 rfl (zl_kd ((L + 8 * c + 8))) q3 (by omega) (show (L + 8 * c + 8) < 5580 by omega) ((hm.2.2.2.2.2.1 _).trans t2) (fun hk30 => ?_)
        refine zp_call (pc := 38) (how := 0) (idx := 405) (mi := 243) (S := []) hx hb hE hw heff hrm (zX_ra0 hW b3 b35 b37 L ft kt R St yt) rfl (j := 43) rfl rfl (by decide +kernel) (zd_X12_isSo (38, .invokevirtual 405, 3, 0, []) (List.mem_of_getElem? (i := 26) rfl)) [(a : Int), (bt : Int), (et : Int)] rfl ⟨zp_o2 hp, zp_o0 (by omega) (by omega) (by omega) (by omega), zp_o0 (by omega) (by omega) (by omega) (by omega), trivial⟩ (Nat.le_of_ble_eq_true rfl) ⟨hm, q3, q35, q37, hL, hR, hSt, (show yE (zg_op R L) (zg_ar R L) ft ((bt : Nat) : Int).toNat ((et : Nat) : Int).toNat kt yt by rw [Int.toNat_natCast, Int.toNat_natCast]; exact t5), by omega⟩ (fun al hal rnt Pt Gt hextt hfrt hokt hcst hpsit => ?_)
        obtain rfl := List.mem_singleton.mp hal
        have yat := hextt _ _ hp
        have yb3t := hextt _ _ q3
        have yb35t := hextt _ _ q35
        have yb37t := hextt _ _ q37
        obtain ⟨hPt, hvt, hnt⟩ := hpsit
        have hmt := zgR_f hm hp q3 q35 hfrt rfl
        subst hPt
        cases hyt : yt (zg_en St) with
        | none =>
          have r38 := hnt hyt
          refine zp_load (pc := 41) hx hb (zd_X12_isSo (41, .aload_n 0, 1, 0, []) (List.mem_of_getElem? (i := 27) rfl)) rfl (j := 0) rfl ?_
          refine zp_getf (n := 1) (pc := 42) hx hb hE hw (zd_X12_isSo (42, .getfield 388, 3, 0, []) (List.mem_of_getElem? (i := 28) rfl)) (j := 56) rfl rfl rfl hp r38 ?_
          refine zp_if (pc := 45) (tgt := 57) hx hb (zd_X12_isSo (45, .ifCond .ne 12, 3, 0, []) (List.mem_of_getElem? (i := 29) rfl)) rfl (fun (hc31 : ¬ 1 = 0) => ?_) (fun (hc31 : ¬ (¬ 1 = 0)) => ?_)
          · refine zp_const (pc := 57) hx hb (zd_X12_isSo (57, .iconst 0, 1, 0, []) (List.mem_of_getElem? (i := 35) rfl)) rfl rfl ?_
            refine zp_zret (pc := 58) (n := 0) hx hb hE hQ hU5 rfl (by decide) (zd_X12_isSo (58, .ireturn, 1, 0, []) (List.mem_of_getElem? (i := 36) rfl)) (j := 0) rfl (zp_o0 (by omega) (by omega) (by omega) (by omega)) ?_
            rw [hps]
            show u.1 = u.1 ∧ (∀ v, yw_v (zg_en St) K = some v → 0 = 1 ∧ (¬ K.1 = 4 → (-2147483648 ≤ v ∧ v ≤ 2147483648) ∧ Gt a 40 = v)) ∧ (yw_v (zg_en St) K = none → 0 = 0)
            have hz : yw_v (zg_en St) K = none := by
              unfold yw_v
              rw [if_neg (by unfold yw_tb; rw [t0]; intro h9; have h10 := of_decide_eq_true h9; rw [hyt] at h10; cases h10)]
            exact ⟨rfl, fun v hv => (by rw [hz] at hv; cases hv), fun _ => rfl⟩
          · exfalso
            omega
        | some v8 =>
          obtain ⟨hb8, r38, r39⟩ := hvt v8 hyt
          have ht8 := t6 _ _ hyt
          refine zp_load (pc := 41) hx hb (zd_X12_isSo (41, .aload_n 0, 1, 0, []) (List.mem_of_getElem? (i := 27) rfl)) rfl (j := 0) rfl ?_
          refine zp_getf (n := 0) (pc := 42) hx hb hE hw (zd_X12_isSo (42, .getfield 388, 3, 0, []) (List.mem_of_getElem? (i := 28) rfl)) (j := 56) rfl rfl rfl hp r38 ?_
          refine zp_if (pc := 45) (tgt := 57) hx hb (zd_X12_isSo (45, .ifCond .ne 12, 3, 0, []) (List.mem_of_getElem? (i := 29) rfl)) rfl (fun (hc32 : ¬ 0 = 0) => ?_) (fun (hc32 : ¬ (¬ 0 = 0)) => ?_)
          · exfalso
            omega
          · refine zp_load (pc := 48) hx hb (zd_X12_isSo (48, .aload_n 0, 1, 0, []) (List.mem_of_getElem? (i := 30) rfl)) rfl (j := 0) rfl ?_
            refine zp_getf (n := v8) (pc := 49) hx hb hE hw (zd_X12_isSo (49, .getfield 402, 3, 0, []) (List.mem_of_getElem? (i := 31) rfl)) (j := 57) rfl rfl rfl hp r39 ?_
            refine zp_const (pc := 52) hx hb (zd_X12_isSo (52, .lconst 0, 1, 0, []) (List.mem_of_getElem? (i := 32) rfl)) rfl rfl ?_
            refine zp_lcmp (pc := 53) (tgt := 59) hx hb (zd_X12_isSo (53, .lcmp, 1, 0, []) (List.mem_of_getElem? (i := 33) rfl)) (zd_X12_isSo (54, .ifCond .ne 5, 3, 0, []) (List.mem_of_getElem? (i := 34) rfl)) rfl (fun (hc33 : ¬ v8 = 0) => ?_) (fun (hc33 : ¬ (¬ v8 = 0)) => ?_)
            · refine zp_load (pc := 59) hx hb (zd_X12_isSo (59, .aload_n 0, 1, 0, []) (List.mem_of_getElem? (i := 37) rfl)) rfl (j := 0) rfl ?_
              refine zp_getf (n := (b3 : Int)) (pc := 60) hx hb hE hw (zd_X12_isSo (60, .getfield 13, 3, 0, []) (List.mem_of_getElem? (i := 38) rfl)) (j := 21) rfl rfl rfl hp hmt.2.1 ?_
              refine zp_load (pc := 63) hx hb (zd_X12_isSo (63, .iload_n 1, 1, 0, []) (List.mem_of_getElem? (i := 39) rfl)) rfl (j := 1) rfl ?_
              refine zp_ialdT (j := (L + 8 * c + 2)) (v := (R (L + 8 * c + 2))) (pc := 64) hx hb hw (zd_X12_isSo (64, .iaload, 1, 0, []) (List.mem_of_getElem? (i := 40) rfl)) zl_T59 rfl (zl_kd ((L + 8 * c + 2))) q3 (by omega) (show (L + 8 * c + 2) < 5580 by omega) (hmt.2.2.2.2.2.1 _) (fun hk34 => ?_)
              refine zp_const (pc := 65) hx hb (zd_X12_isSo (65, .iconst 4, 1, 0, []) (List.mem_of_getElem? (i := 41) rfl)) rfl rfl ?_
              refine zp_icmp (pc := 66) (tgt := 110) hx hb (zd_X12_isSo (66, .if_icmp .eq 44, 3, 0, []) (List.mem_of_getElem? (i := 42) rfl)) rfl (fun (hc35 : (R (L + 8 * c + 2)) = 4) => ?_) (fun (hc35 : ¬ ((R (L + 8 * c + 2)) = 4)) => ?_)
              · refine zp_const (pc := 110) hx hb (zd_X12_isSo (110, .iconst 1, 1, 0, []) (List.mem_of_getElem? (i := 68) rfl)) rfl rfl ?_
                refine zp_zret (pc := 111) (n := 1) hx hb hE hQ hU5 rfl (by decide) (zd_X12_isSo (111, .ireturn, 1, 0, []) (List.mem_of_getElem? (i := 69) rfl)) (j := 0) rfl (zp_o0 (by omega) (by omega) (by omega) (by omega)) ?_
                rw [hps]
                show u.1 = u.1 ∧ (∀ v, yw_v (zg_en St) K = some v → 1 = 1 ∧ (¬ K.1 = 4 → (-2147483648 ≤ v ∧ v ≤ 2147483648) ∧ Gt a 40 = v)) ∧ (yw_v (zg_en St) K = none → 1 = 0)
                have hz : yw_v (zg_en St) K = (some 1) := by
                  unfold yw_v
                  rw [if_pos (by unfold yw_tb; rw [t0]; exact decide_eq_true (by rw [hyt]; congr 1; omega))]
                  unfold yw_s
                  rw [s0]
                refine ⟨rfl, fun v hv => ⟨rfl, fun h9 => ?_⟩, fun hv => ?_⟩
                · rw [hz] at hv
                  have hv := Option.some.inj hv
                  exact absurd s1 h9
                · rw [hz] at hv
                  cases hv
              · exfalso
                omega
            · refine zp_const (pc := 57) hx hb (zd_X12_isSo (57, .iconst 0, 1, 0, []) (List.mem_of_getElem? (i := 35) rfl)) rfl rfl ?_
              refine zp_zret (pc := 58) (n := 0) hx hb hE hQ hU5 rfl (by decide) (zd_X12_isSo (58, .ireturn, 1, 0, []) (List.mem_of_getElem? (i := 36) rfl)) (j := 0) rfl (zp_o0 (by omega) (by omega) (by omega) (by omega)) ?_
              rw [hps]
              show u.1 = u.1 ∧ (∀ v, yw_v (zg_en St) K = some v → 0 = 1 ∧ (¬ K.1 = 4 → (-2147483648 ≤ v ∧ v ≤ 2147483648) ∧ Gt a 40 = v)) ∧ (yw_v (zg_en St) K = none → 0 = 0)
              have hz : yw_v (zg_en St) K = none := by
                unfold yw_v
                rw [if_neg (by unfold yw_tb; rw [t0]; intro h9; have h10 := of_decide_eq_true h9; rw [hyt] at h10; have h11 := Option.some.inj h10; omega)]
              exact ⟨rfl, fun v hv => (by rw [hz] at hv; cases hv), fun _ => rfl⟩
  · have s2 : R (L + 8 * c + 5) = (bs : Int) := zg_cle.symm.trans s2
    have s3 : R (L + 8 * c + 6) = (es : Int) := zg_cle.symm.trans s3
    have sl := yE_lt s5
    rcases h6 with ⟨t0, t1, t2, t3⟩ | ⟨yt, t0, ⟨bt, et, kt, ft, t1, t2, t3, t4, t5⟩, t6⟩
    · have t7 : R (L + 8 * c + 7) = R (L + 8 * c + 8) := zg_cle.symm.trans (t1.trans zg_cle)
      have e7 := hm.2.2.2.2.2.1 (L + 8 * c + 7)
      have e8 := hm.2.2.2.2.2.1 (L + 8 * c + 8)
      show zp_J p l e Rm s m args below meth cc9 Q w u [] 0 [(0, 2, (a : Int)), (1, 0, ((L : Int) + 8 * (c : Int) + 2))] [] u.1 (zp_n u.2.1)
      refine zp_load (pc := 0) hx hb (zd_X12_isSo (0, .aload_n 0, 1, 0, []) (List.mem_of_getElem? (i := 0) rfl)) rfl (j := 0) rfl ?_
      refine zp_getf (n := (b3 : Int)) (pc := 1) hx hb hE hw (zd_X12_isSo (1, .getfield 13, 3, 0, []) (List.mem_of_getElem? (i := 1) rfl)) (j := 21) rfl rfl rfl hp hm.2.1 ?_
      refine zp_load (pc := 4) hx hb (zd_X12_isSo (4, .iload_n 1, 1, 0, []) (List.mem_of_getElem? (i := 2) rfl)) rfl (j := 1) rfl ?_
      refine zp_const (pc := 5) hx hb (zd_X12_isSo (5, .iconst 5, 1, 0, []) (List.mem_of_getElem? (i := 3) rfl)) rfl rfl ?_
      refine zp_add (n := ((L : Int) + 8 * (c : Int) + 7)) (pc := 6) hx hb (zd_X12_isSo (6, .iadd, 1, 0, []) (List.mem_of_getElem? (i := 4) rfl)) (by omega) (zp_r0 (by omega) (by omega)) ?_
      refine zp_ialdT (j := (L + 8 * c + 7)) (v := ((zp_n u.2.1) b3 (2000 + (L + 8 * c + 7)))) (pc := 7) hx hb hw (zd_X12_isSo (7, .iaload, 1, 0, []) (List.mem_of_getElem? (i := 5) rfl)) zl_T59 rfl (zl_kd ((L + 8 * c + 7))) q3 (by omega) (show (L + 8 * c + 7) < 5580 by omega) rfl (fun hk36 => ?_)
      refine zp_load (pc := 8) hx hb (zd_X12_isSo (8, .aload_n 0, 1, 0, []) (List.mem_of_getElem? (i := 6) rfl)) rfl (j := 0) rfl ?_
      refine zp_getf (n := (b3 : Int)) (pc := 9) hx hb hE hw (zd_X12_isSo (9, .getfield 13, 3, 0, []) (List.mem_of_getElem? (i := 7) rfl)) (j := 21) rfl rfl rfl hp hm.2.1 ?_
      refine zp_load (pc := 12) hx hb (zd_X12_isSo (12, .iload_n 1, 1, 0, []) (List.mem_of_getElem? (i := 8) rfl)) rfl (j := 1) rfl ?_
      refine zp_const (pc := 13) hx hb (zd_X12_isSo (13, .bipush 6, 2, 0, []) (List.mem_of_getElem? (i := 9) rfl)) rfl rfl ?_
      refine zp_add (n := ((L : Int) + 8 * (c : Int) + 8)) (pc := 15) hx hb (zd_X12_isSo (15, .iadd, 1, 0, []) (List.mem_of_getElem? (i := 10) rfl)) (by omega) (zp_r0 (by omega) (by omega)) ?_
      refine zp_ialdT (j := (L + 8 * c + 8)) (v := ((zp_n u.2.1) b3 (2000 + (L + 8 * c + 8)))) (pc := 16) hx hb hw (zd_X12_isSo (16, .iaload, 1, 0, []) (List.mem_of_getElem? (i := 11) rfl)) zl_T59 rfl (zl_kd ((L + 8 * c + 8))) q3 (by omega) (show (L + 8 * c + 8) < 5580 by omega) rfl (fun hk37 => ?_)
      refine zp_icmp (pc := 17) (tgt := 59) hx hb (zd_X12_isSo (17, .if_icmp .ge 42, 3, 0, []) (List.mem_of_getElem? (i := 12) rfl)) rfl (fun (hc38 : ((zp_n u.2.1) b3 (2000 + (L + 8 * c + 8))) ≤ ((zp_n u.2.1) b3 (2000 + (L + 8 * c + 7)))) => ?_) (fun (hc38 : ¬ (((zp_n u.2.1) b3 (2000 + (L + 8 * c + 8))) ≤ ((zp_n u.2.1) b3 (2000 + (L + 8 * c + 7))))) => ?_)
      · refine zp_load (pc := 59) hx hb (zd_X12_isSo (59, .aload_n 0, 1, 0, []) (List.mem_of_getElem? (i := 37) rfl)) rfl (j := 0) rfl ?_
        refine zp_getf (n := (b3 : Int)) (pc := 60) hx hb hE hw (zd_X12_isSo (60, .getfield 13, 3, 0, []) (List.mem_of_getElem? (i := 38) rfl)) (j := 21) rfl rfl rfl hp hm.2.1 ?_
        refine zp_load (pc := 63) hx hb (zd_X12_isSo (63, .iload_n 1, 1, 0, []) (List.mem_of_getElem? (i := 39) rfl)) rfl (j := 1) rfl ?_
        refine zp_ialdT (j := (L + 8 * c + 2)) (v := (R (L + 8 * c + 2))) (pc := 64) hx hb hw (zd_X12_isSo (64, .iaload, 1, 0, []) (List.mem_of_getElem? (i := 40) rfl)) zl_T59 rfl (zl_kd ((L + 8 * c + 2))) q3 (by omega) (show (L + 8 * c + 2) < 5580 by omega) (hm.2.2.2.2.2.1 _) (fun hk39 => ?_)
        refine zp_const (pc := 65) hx hb (zd_X12_isSo (65, .iconst 4, 1, 0, []) (List.mem_of_getElem? (i := 41) rfl)) rfl rfl ?_
        refine zp_icmp (pc := 66) (tgt := 110) hx hb (zd_X12_isSo (66, .if_icmp .eq 44, 3, 0, []) (List.mem_of_getElem? (i := 42) rfl)) rfl (fun (hc40 : (R (L + 8 * c + 2)) = 4) => ?_) (fun (hc40 : ¬ ((R (L + 8 * c + 2)) = 4)) => ?_)
        · exfalso
          omega
        · refine zp_load (pc := 69) hx hb (zd_X12_isSo (69, .aload_n 0, 1, 0, []) (List.mem_of_getElem? (i := 43) rfl)) rfl (j := 0) rfl ?_
          refine zp_load (pc := 70) hx hb (zd_X12_isSo (70, .aload_n 0, 1, 0, []) (List.mem_of_getElem? (i := 44) rfl)) rfl (j := 0) rfl ?_
          refine zp_getf (n := (b3 : Int)) (pc := 71) hx hb hE hw (zd_X12_isSo (71, .getfield 13, 3, 0, []) (List.mem_of_getElem? (i := 45) rfl)) (j := 21) rfl rfl rfl hp hm.2.1 ?_
          refine zp_load (pc := 74) hx hb (zd_X12_isSo (74, .iload_n 1, 1, 0, []) (List.mem_of_getElem? (i := 46) rfl)) rfl (j := 1) rfl ?_
          refine zp_const (pc := 75) hx hb (zd_X12_isSo (75, .iconst 3, 1, 0, []) (List.mem_of_getElem? (i := 47) rfl)) rfl rfl ?_
          refine zp_add (n := ((L : Int) + 8 * (c : Int) + 5)) (pc := 76) hx hb (zd_X12_isSo (76, .iadd, 1, 0, []) (List.mem_of_getElem? (i := 48) rfl)) (by omega) (zp_r0 (by omega) (by omega)) ?_
          refine zp_ialdT (j := (L + 8 * c + 5)) (v := (bs : Int)) (pc := 77) hx hb hw (zd_X12_isSo (77, .iaload, 1, 0, []) (List.mem_of_getElem? (i := 49) rfl)) zl_T59 rfl (zl_kd ((L + 8 * c + 5))) q3 (by omega) (show (L + 8 * c + 5) < 5580 by omega) ((hm.2.2.2.2.2.1 _).trans s2) (fun hk41 => ?_)
          refine zp_load (pc := 78) hx hb (zd_X12_isSo (78, .aload_n 0, 1, 0, []) (List.mem_of_getElem? (i := 50) rfl)) rfl (j := 0) rfl ?_
          refine zp_getf (n := (b3 : Int)) (pc := 79) hx hb hE hw (zd_X12_isSo (79, .getfield 13, 3, 0, []) (List.mem_of_getElem? (i := 51) rfl)) (j := 21) rfl rfl rfl hp hm.2.1 ?_
          refine zp_load (pc := 82) hx hb (zd_X12_isSo (82, .iload_n 1, 1, 0, []) (List.mem_of_getElem? (i := 52) rfl)) rfl (j := 1) rfl ?_
          refine zp_const (pc := 83) hx hb (zd_X12_isSo (83, .iconst 4, 1, 0, []) (List.mem_of_getElem? (i := 53) rfl)) rfl rfl ?_
          refine zp_add (n := ((L : Int) + 8 * (c : Int) + 6)) (pc := 84) hx hb (zd_X12_isSo (84, .iadd, 1, 0, []) (List.mem_of_getElem? (i := 54) rfl)) (by omega) (zp_r0 (by omega) (by omega)) ?_
          refine zp_ialdT (j := (L + 8 * c + 6)) (v := (es : Int)) (pc := 85) hx hb hw (zd_X12_isSo (85, .iaload, 1, 0, []) (List.mem_of_getElem? (i := 55) rfl)) zl_T59 rfl (zl_kd ((L + 8 * c + 6))) q3 (by omega) (show (L + 8 * c + 6) < 5580 by omega) ((hm.2.2.2.2.2.1 _).trans s3) (fun hk42 => ?_)
          refine zp_call (pc := 86) (how := 0) (idx := 405) (mi := 243) (S := []) hx hb hE hw heff hrm (zX_ra0 hW b3 b35 b37 L fs ks R St xs9) rfl (j := 43) rfl rfl (by decide +kernel) (zd_X12_isSo (86, .invokevirtual 405, 3, 0, []) (List.mem_of_getElem? (i := 56) rfl)) [(a : Int), (bs : Int), (es : Int)] rfl ⟨zp_o2 hp, zp_o0 (by omega) (by omega) (by omega) (by omega), zp_o0 (by omega) (by omega) (by omega) (by omega), trivial⟩ (Nat.le_of_ble_eq_true rfl) ⟨hm, q3, q35, q37, hL, hR, hSt, (show yE (zg_op R L) (zg_ar R L) fs ((bs : Nat) : Int).toNat ((es : Nat) : Int).toNat ks xs9 by rw [Int.toNat_natCast, Int.toNat_natCast]; exact s5), by omega⟩ (fun al hal rns Ps Gs hexts hfrs hoks hcss hpsis => ?_)
          obtain rfl := List.mem_singleton.mp hal
          have yas := hexts _ _ hp
          have yb3s := hexts _ _ q3
          have yb35s := hexts _ _ q35
          have yb37s := hexts _ _ q37
          obtain ⟨hPs, hvs, hns⟩ := hpsis
          have hms := zgR_f hm hp q3 q35 hfrs rfl
          subst hPs
          cases hxs : xs9 (zg_en St) with
          | none =>
            have r38 := hns hxs
            refine zp_kn (k := 39) (a := a) hw (show zp_fd 13 39 = some (12, 1, 0, (-9223372036854775808), 9223372036854775807) from rfl) rfl hp (fun hk39 => ?_)
            have hr39 : zk_rg 1 (Gs a 39) := hk39.2.2
            refine zp_load (pc := 89) hx hb (zd_X12_isSo (89, .aload_n 0, 1, 0, []) (List.mem_of_getElem? (i := 57) rfl)) rfl (j := 0) rfl ?_
            refine zp_load (pc := 90) hx hb (zd_X12_isSo (90, .aload_n 0, 1, 0, []) (List.mem_of_getElem? (i := 58) rfl)) rfl (j := 0) rfl ?_
            refine zp_getf (n := (Gs a 39)) (pc := 91) hx hb hE hw (zd_X12_isSo (91, .getfield 402, 3, 0, []) (List.mem_of_getElem? (i := 59) rfl)) (j := 57) rfl rfl rfl hp rfl ?_
            refine zp_putf (pc := 94) hx hb hE hw heff (zd_X12_isSo (94, .putfield 408, 3, 0, []) (List.mem_of_getElem? (i := 60) rfl)) (j := 58) rfl rfl rfl hp (zp_o1 (by first | assumption | exact zp_r1 (by omega) (by omega))) ?_
            refine zp_load (pc := 97) hx hb (zd_X12_isSo (97, .aload_n 0, 1, 0, []) (List.mem_of_getElem? (i := 61) rfl)) rfl (j := 0) rfl ?_
            refine zp_getf (n := 1) (pc := 98) hx hb hE hw (zd_X12_isSo (98, .getfield 388, 3, 0, []) (List.mem_of_getElem? (i := 62) rfl)) (j := 56) rfl rfl rfl hp ((zp_set_ne (Or.inr (by decide))).trans (r38)) ?_
            refine zp_if (pc := 101) (tgt := 108) hx hb (zd_X12_isSo (101, .ifCond .ne 7, 3, 0, []) (List.mem_of_getElem? (i := 63) rfl)) rfl (fun (hc43 : ¬ 1 = 0) => ?_) (fun (hc43 : ¬ (¬ 1 = 0)) => ?_)
            · refine zp_const (pc := 108) hx hb (zd_X12_isSo (108, .iconst 0, 1, 0, []) (List.mem_of_getElem? (i := 66) rfl)) rfl rfl ?_
              refine zp_zret (pc := 109) (n := 0) hx hb hE hQ hU5 rfl (by decide) (zd_X12_isSo (109, .ireturn, 1, 0, []) (List.mem_of_getElem? (i := 67) rfl)) (j := 0) rfl (zp_o0 (by omega) (by omega) (by omega) (by omega)) ?_
              rw [hps]
              show u.1 = u.1 ∧ (∀ v, yw_v (zg_en St) K = some v → 0 = 1 ∧ (¬ K.1 = 4 → (-2147483648 ≤ v ∧ v ≤ 2147483648) ∧ (zp_set Gs a 40 (Gs a 39)) a 40 = v)) ∧ (yw_v (zg_en St) K = none → 0 = 0)
              have hz : yw_v (zg_en St) K = none := by
                unfold yw_v
                rw [if_pos (by unfold yw_tb; rw [t0])]
                unfold yw_s
                rw [s0]
                exact hxs
              exact ⟨rfl, fun v hv => (by rw [hz] at hv; cases hv), fun _ => rfl⟩
            · exfalso
              omega
          | some v9 =>
            obtain ⟨hb9, r38, r39⟩ := hvs v9 hxs
            refine zp_load (pc := 89) hx hb (zd_X12_isSo (89, .aload_n 0, 1, 0, []) (List.mem_of_getElem? (i := 57) rfl)) rfl (j := 0) rfl ?_
            refine zp_load (pc := 90) hx hb (zd_X12_isSo (90, .aload_n 0, 1, 0, []) (List.mem_of_getElem? (i := 58) rfl)) rfl (j := 0) rfl ?_
            refine zp_getf (n := v9) (pc := 91) hx hb hE hw (zd_X12_isSo (91, .getfield 402, 3, 0, []) (List.mem_of_getElem? (i := 59) rfl)) (j := 57) rfl rfl rfl hp r39 ?_
            refine zp_putf (pc := 94) hx hb hE hw heff (zd_X12_isSo (94, .putfield 408, 3, 0, []) (List.mem_of_getElem? (i := 60) rfl)) (j := 58) rfl rfl rfl hp (zp_o1 (by first | assumption | exact zp_r1 (by omega) (by omega))) ?_
            refine zp_load (pc := 97) hx hb (zd_X12_isSo (97, .aload_n 0, 1, 0, []) (List.mem_of_getElem? (i := 61) rfl)) rfl (j := 0) rfl ?_
            refine zp_getf (n := 0) (pc := 98) hx hb hE hw (zd_X12_isSo (98, .getfield 388, 3, 0, []) (List.mem_of_getElem? (i := 62) rfl)) (j := 56) rfl rfl rfl hp ((zp_set_ne (Or.inr (by decide))).trans (r38)) ?_
            refine zp_if (pc := 101) (tgt := 108) hx hb (zd_X12_isSo (101, .ifCond .ne 7, 3, 0, []) (List.mem_of_getElem? (i := 63) rfl)) rfl (fun (hc44 : ¬ 0 = 0) => ?_) (fun (hc44 : ¬ (¬ 0 = 0)) => ?_)
            · exfalso
              omega
            · refine zp_const (pc := 104) hx hb (zd_X12_isSo (104, .iconst 1, 1, 0, []) (List.mem_of_getElem? (i := 64) rfl)) rfl rfl ?_
              refine zp_goto (tgt := 109) (pc := 105) hx hb (zd_X12_isSo (105, .goto 4, 3, 0, []) (List.mem_of_getElem? (i := 65) rfl)) rfl ?_
              have ez : (zp_set Gs a 40 v9) a 40 = v9 := zp_set_self
              refine zp_zret (pc := 109) (n := 1) hx hb hE hQ hU5 rfl (by decide) (zd_X12_isSo (109, .ireturn, 1, 0, []) (List.mem_of_getElem? (i := 67) rfl)) (j := 0) rfl (zp_o0 (by omega) (by omega) (by omega) (by omega)) ?_
              rw [hps]
              show u.1 = u.1 ∧ (∀ v, yw_v (zg_en St) K = some v → 1 = 1 ∧ (¬ K.1 = 4 → (-2147483648 ≤ v ∧ v ≤ 2147483648) ∧ (zp_set Gs a 40 v9) a 40 = v)) ∧ (yw_v (zg_en St) K = none → 1 = 0)
              have hz : yw_v (zg_en St) K = (some v9) := by
                unfold yw_v
                rw [if_pos (by unfold yw_tb; rw [t0])]
                unfold yw_s
                rw [s0]
                exact hxs
              refine ⟨rfl, fun v hv => ⟨rfl, fun h9 => ?_⟩, fun hv => ?_⟩
              · rw [hz] at hv
                have hv := Option.some.inj hv
                exact ⟨hv ▸ hb9, ez.trans hv⟩
              · rw [hz] at hv
                cases hv
      · exfalso
        omega
    · have t1 : R (L + 8 * c + 7) = (bt : Int) := zg_cle.symm.trans t1
      have t2 : R (L + 8 * c + 8) = (et : Int) := zg_cle.symm.trans t2
      have tl := yE_lt t5
      show zp_J p l e Rm s m args below meth cc9 Q w u [] 0 [(0, 2, (a : Int)), (1, 0, ((L : Int) + 8 * (c : Int) + 2))] [] u.1 (zp_n u.2.1)
      refine zp_load (pc := 0) hx hb (zd_X12_isSo (0, .aload_n 0, 1, 0, []) (List.mem_of_getElem? (i := 0) rfl)) rfl (j := 0) rfl ?_
      refine zp_getf (n := (b3 : Int)) (pc := 1) hx hb hE hw (zd_X12_isSo (1, .getfield 13, 3, 0, []) (List.mem_of_getElem? (i := 1) rfl)) (j := 21) rfl rfl rfl hp hm.2.1 ?_
      refine zp_load (pc := 4) hx hb (zd_X12_isSo (4, .iload_n 1, 1, 0, []) (List.mem_of_getElem? (i := 2) rfl)) rfl (j := 1) rfl ?_
      refine zp_const (pc := 5) hx hb (zd_X12_isSo (5, .iconst 5, 1, 0, []) (List.mem_of_getElem? (i := 3) rfl)) rfl rfl ?_
      refine zp_add (n := ((L : Int) + 8 * (c : Int) + 7)) (pc := 6) hx hb (zd_X12_isSo (6, .iadd, 1, 0, []) (List.mem_of_getElem? (i := 4) rfl)) (by omega) (zp_r0 (by omega) (by omega)) ?_
      refine zp_ialdT (j := (L + 8 * c + 7)) (v := (bt : Int)) (pc := 7) hx hb hw (zd_X12_isSo (7, .iaload, 1, 0, []) (List.mem_of_getElem? (i := 5) rfl)) zl_T59 rfl (zl_kd ((L + 8 * c + 7))) q3 (by omega) (show (L + 8 * c + 7) < 5580 by omega) ((hm.2.2.2.2.2.1 _).trans t1) (fun hk45 => ?_)
      refine zp_load (pc := 8) hx hb (zd_X12_isSo (8, .aload_n 0, 1, 0, []) (List.mem_of_getElem? (i := 6) rfl)) rfl (j := 0) rfl ?_
      refine zp_getf (n := (b3 : Int)) (pc := 9) hx hb hE hw (zd_X12_isSo (9, .getfield 13, 3, 0, []) (List.mem_of_getElem? (i := 7) rfl)) (j := 21) rfl rfl rfl hp hm.2.1 ?_
      refine zp_load (pc := 12) hx hb (zd_X12_isSo (12, .iload_n 1, 1, 0, []) (List.mem_of_getElem? (i := 8) rfl)) rfl (j := 1) rfl ?_
      refine zp_const (pc := 13) hx hb (zd_X12_isSo (13, .bipush 6, 2, 0, []) (List.mem_of_getElem? (i := 9) rfl)) rfl rfl ?_
      refine zp_add (n := ((L : Int) + 8 * (c : Int) + 8)) (pc := 15) hx hb (zd_X12_isSo (15, .iadd, 1, 0, []) (List.mem_of_getElem? (i := 10) rfl)) (by omega) (zp_r0 (by omega) (by omega)) ?_
      refine zp_ialdT (j := (L + 8 * c + 8)) (v := (et : Int)) (pc := 16) hx hb hw (zd_X12_isSo (16, .iaload, 1, 0, []) (List.mem_of_getElem? (i := 11) rfl)) zl_T59 rfl (zl_kd ((L + 8 * c + 8))) q3 (by omega) (show (L + 8 * c + 8) < 5580 by omega) ((hm.2.2.2.2.2.1 _).trans t2) (fun hk46 => ?_)
      refine zp_icmp (pc := 17) (tgt := 59) hx hb (zd_X12_isSo (17, .if_icmp .ge 42, 3, 0, []) (List.mem_of_getElem? (i := 12) rfl)) rfl (fun (hc47 : (et : Int) ≤ (bt : Int)) => ?_) (fun (hc47 : ¬ ((et : Int) ≤ (bt : Int))) => ?_)
      · exfalso
        omega
      · refine zp_load (pc := 20) hx hb (zd_X12_isSo (20, .aload_n 0, 1, 0, []) (List.mem_of_getElem? (i := 13) rfl)) rfl (j := 0) rfl ?_
        refine zp_load (pc := 21) hx hb (zd_X12_isSo (21, .aload_n 0, 1, 0, []) (List.mem_of_getElem? (i := 14) rfl)) rfl (j := 0) rfl ?_
        refine zp_getf (n := (b3 : Int)) (pc := 22) hx hb hE hw (zd_X12_isSo (22, .getfield 13, 3, 0, []) (List.mem_of_getElem? (i := 15) rfl)) (j := 21) rfl rfl rfl hp hm.2.1 ?_
        refine zp_load (pc := 25) hx hb (zd_X12_isSo (25, .iload_n 1, 1, 0, []) (List.mem_of_getElem? (i := 16) rfl)) rfl (j := 1) rfl ?_
        refine zp_const (pc := 26) hx hb (zd_X12_isSo (26, .iconst 5, 1, 0, []) (List.mem_of_getElem? (i := 17) rfl)) rfl rfl ?_
        refine zp_add (n := ((L : Int) + 8 * (c : Int) + 7)) (pc := 27) hx hb (zd_X12_isSo (27, .iadd, 1, 0, []) (List.mem_of_getElem? (i := 18) rfl)) (by omega) (zp_r0 (by omega) (by omega)) ?_
        refine zp_ialdT (j := (L + 8 * c + 7)) (v := (bt : Int)) (pc := 28) hx hb hw (zd_X12_isSo (28, .iaload, 1, 0, []) (List.mem_of_getElem? (i := 19) rfl)) zl_T59 rfl (zl_kd ((L + 8 * c + 7))) q3 (by omega) (show (L + 8 * c + 7) < 5580 by omega) ((hm.2.2.2.2.2.1 _).trans t1) (fun hk48 => ?_)
        refine zp_load (pc := 29) hx hb (zd_X12_isSo (29, .aload_n 0, 1, 0, []) (List.mem_of_getElem? (i := 20) rfl)) rfl (j := 0) rfl ?_
        refine zp_getf (n := (b3 : Int)) (pc := 30) hx hb hE hw (zd_X12_isSo (30, .getfield 13, 3, 0, []) (List.mem_of_getElem? (i := 21) rfl)) (j := 21) rfl rfl rfl hp hm.2.1 ?_
        refine zp_load (pc := 33) hx hb (zd_X12_isSo (33, .iload_n 1, 1, 0, []) (List.mem_of_getElem? (i := 22) rfl)) rfl (j := 1) rfl ?_
        refine zp_const (pc := 34) hx hb (zd_X12_isSo (34, .bipush 6, 2, 0, []) (List.mem_of_getElem? (i := 23) rfl)) rfl rfl ?_
        refine zp_add (n := ((L : Int) + 8 * (c : Int) + 8)) (pc := 36) hx hb (zd_X12_isSo (36, .iadd, 1, 0, []) (List.mem_of_getElem? (i := 24) rfl)) (by omega) (zp_r0 (by omega) (by omega)) ?_
        refine zp_ialdT (j := (L + 8 * c + 8)) (v := (et : Int)) (pc := 37) hx hb hw (zd_X12_isSo (37, .iaload, 1, 0, []) (List.mem_of_getElem? (i := 25) rfl)) zl_T59 rfl (zl_kd ((L + 8 * c + 8))) q3 (by omega) (show (L + 8 * c + 8) < 5580 by omega) ((hm.2.2.2.2.2.1 _).trans t2) (fun hk49 => ?_)
        refine zp_call (pc := 38) (how := 0) (idx := 405) (mi := 243) (S := []) hx hb hE hw heff hrm (zX_ra0 hW b3 b35 b37 L ft kt R St yt) rfl (j := 43) rfl rfl (by decide +kernel) (zd_X12_isSo (38, .invokevirtual 405, 3, 0, []) (List.mem_of_getElem? (i := 26) rfl)) [(a : Int), (bt : Int), (et : Int)] rfl ⟨zp_o2 hp, zp_o0 (by omega) (by omega) (by omega) (by omega), zp_o0 (by omega) (by omega) (by omega) (by omega), trivial⟩ (Nat.le_of_ble_eq_true rfl) ⟨hm, q3, q35, q37, hL, hR, hSt, (show yE (zg_op R L) (zg_ar R L) ft ((bt : Nat) : Int).toNat ((et : Nat) : Int).toNat kt yt by rw [Int.toNat_natCast, Int.toNat_natCast]; exact t5), by omega⟩ (fun al hal rnt Pt Gt hextt hfrt hokt hcst hpsit => ?_)
        obtain rfl := List.mem_singleton.mp hal
        have yat := hextt _ _ hp
        have yb3t := hextt _ _ q3
        have yb35t := hextt _ _ q35
        have yb37t := hextt _ _ q37
        obtain ⟨hPt, hvt, hnt⟩ := hpsit
        have hmt := zgR_f hm hp q3 q35 hfrt rfl
        subst hPt
        cases hyt : yt (zg_en St) with
        | none =>
          have r38 := hnt hyt
          refine zp_load (pc := 41) hx hb (zd_X12_isSo (41, .aload_n 0, 1, 0, []) (List.mem_of_getElem? (i := 27) rfl)) rfl (j := 0) rfl ?_
          refine zp_getf (n := 1) (pc := 42) hx hb hE hw (zd_X12_isSo (42, .getfield 388, 3, 0, []) (List.mem_of_getElem? (i := 28) rfl)) (j := 56) rfl rfl rfl hp r38 ?_
          refine zp_if (pc := 45) (tgt := 57) hx hb (zd_X12_isSo (45, .ifCond .ne 12, 3, 0, []) (List.mem_of_getElem? (i := 29) rfl)) rfl (fun (hc50 : ¬ 1 = 0) => ?_) (fun (hc50 : ¬ (¬ 1 = 0)) => ?_)
          · refine zp_const (pc := 57) hx hb (zd_X12_isSo (57, .iconst 0, 1, 0, []) (List.mem_of_getElem? (i := 35) rfl)) rfl rfl ?_
            refine zp_zret (pc := 58) (n := 0) hx hb hE hQ hU5 rfl (by decide) (zd_X12_isSo (58, .ireturn, 1, 0, []) (List.mem_of_getElem? (i := 36) rfl)) (j := 0) rfl (zp_o0 (by omega) (by omega) (by omega) (by omega)) ?_
            rw [hps]
            show u.1 = u.1 ∧ (∀ v, yw_v (zg_en St) K = some v → 0 = 1 ∧ (¬ K.1 = 4 → (-2147483648 ≤ v ∧ v ≤ 2147483648) ∧ Gt a 40 = v)) ∧ (yw_v (zg_en St) K = none → 0 = 0)
            have hz : yw_v (zg_en St) K = none := by
              unfold yw_v
              rw [if_neg (by unfold yw_tb; rw [t0]; intro h9; have h10 := of_decide_eq_true h9; rw [hyt] at h10; cases h10)]
            exact ⟨rfl, fun v hv => (by rw [hz] at hv; cases hv), fun _ => rfl⟩
          · exfalso
            omega
        | some v8 =>
          obtain ⟨hb8, r38, r39⟩ := hvt v8 hyt
          have ht8 := t6 _ _ hyt
          refine zp_load (pc := 41) hx hb (zd_X12_isSo (41, .aload_n 0, 1, 0, []) (List.mem_of_getElem? (i := 27) rfl)) rfl (j := 0) rfl ?_
          refine zp_getf (n := 0) (pc := 42) hx hb hE hw (zd_X12_isSo (42, .getfield 388, 3, 0, []) (List.mem_of_getElem? (i := 28) rfl)) (j := 56) rfl rfl rfl hp r38 ?_
          refine zp_if (pc := 45) (tgt := 57) hx hb (zd_X12_isSo (45, .ifCond .ne 12, 3, 0, []) (List.mem_of_getElem? (i := 29) rfl)) rfl (fun (hc51 : ¬ 0 = 0) => ?_) (fun (hc51 : ¬ (¬ 0 = 0)) => ?_)
          · exfalso
            omega
          · refine zp_load (pc := 48) hx hb (zd_X12_isSo (48, .aload_n 0, 1, 0, []) (List.mem_of_getElem? (i := 30) rfl)) rfl (j := 0) rfl ?_
            refine zp_getf (n := v8) (pc := 49) hx hb hE hw (zd_X12_isSo (49, .getfield 402, 3, 0, []) (List.mem_of_getElem? (i := 31) rfl)) (j := 57) rfl rfl rfl hp r39 ?_
            refine zp_const (pc := 52) hx hb (zd_X12_isSo (52, .lconst 0, 1, 0, []) (List.mem_of_getElem? (i := 32) rfl)) rfl rfl ?_
            refine zp_lcmp (pc := 53) (tgt := 59) hx hb (zd_X12_isSo (53, .lcmp, 1, 0, []) (List.mem_of_getElem? (i := 33) rfl)) (zd_X12_isSo (54, .ifCond .ne 5, 3, 0, []) (List.mem_of_getElem? (i := 34) rfl)) rfl (fun (hc52 : ¬ v8 = 0) => ?_) (fun (hc52 : ¬ (¬ v8 = 0)) => ?_)
            · refine zp_load (pc := 59) hx hb (zd_X12_isSo (59, .aload_n 0, 1, 0, []) (List.mem_of_getElem? (i := 37) rfl)) rfl (j := 0) rfl ?_
              refine zp_getf (n := (b3 : Int)) (pc := 60) hx hb hE hw (zd_X12_isSo (60, .getfield 13, 3, 0, []) (List.mem_of_getElem? (i := 38) rfl)) (j := 21) rfl rfl rfl hp hmt.2.1 ?_
              refine zp_load (pc := 63) hx hb (zd_X12_isSo (63, .iload_n 1, 1, 0, []) (List.mem_of_getElem? (i := 39) rfl)) rfl (j := 1) rfl ?_
              refine zp_ialdT (j := (L + 8 * c + 2)) (v := (R (L + 8 * c + 2))) (pc := 64) hx hb hw (zd_X12_isSo (64, .iaload, 1, 0, []) (List.mem_of_getElem? (i := 40) rfl)) zl_T59 rfl (zl_kd ((L + 8 * c + 2))) q3 (by omega) (show (L + 8 * c + 2) < 5580 by omega) (hmt.2.2.2.2.2.1 _) (fun hk53 => ?_)
              refine zp_const (pc := 65) hx hb (zd_X12_isSo (65, .iconst 4, 1, 0, []) (List.mem_of_getElem? (i := 41) rfl)) rfl rfl ?_
              refine zp_icmp (pc := 66) (tgt := 110) hx hb (zd_X12_isSo (66, .if_icmp .eq 44, 3, 0, []) (List.mem_of_getElem? (i := 42) rfl)) rfl (fun (hc54 : (R (L + 8 * c + 2)) = 4) => ?_) (fun (hc54 : ¬ ((R (L + 8 * c + 2)) = 4)) => ?_)
              · exfalso
                omega
              · refine zp_load (pc := 69) hx hb (zd_X12_isSo (69, .aload_n 0, 1, 0, []) (List.mem_of_getElem? (i := 43) rfl)) rfl (j := 0) rfl ?_
                refine zp_load (pc := 70) hx hb (zd_X12_isSo (70, .aload_n 0, 1, 0, []) (List.mem_of_getElem? (i := 44) rfl)) rfl (j := 0) rfl ?_
                refine zp_getf (n := (b3 : Int)) (pc := 71) hx hb hE hw (zd_X12_isSo (71, .getfield 13, 3, 0, []) (List.mem_of_getElem? (i := 45) rfl)) (j := 21) rfl rfl rfl hp hmt.2.1 ?_
                refine zp_load (pc := 74) hx hb (zd_X12_isSo (74, .iload_n 1, 1, 0, []) (List.mem_of_getElem? (i := 46) rfl)) rfl (j := 1) rfl ?_
                refine zp_const (pc := 75) hx hb (zd_X12_isSo (75, .iconst 3, 1, 0, []) (List.mem_of_getElem? (i := 47) rfl)) rfl rfl ?_
                refine zp_add (n := ((L : Int) + 8 * (c : Int) + 5)) (pc := 76) hx hb (zd_X12_isSo (76, .iadd, 1, 0, []) (List.mem_of_getElem? (i := 48) rfl)) (by omega) (zp_r0 (by omega) (by omega)) ?_
                refine zp_ialdT (j := (L + 8 * c + 5)) (v := (bs : Int)) (pc := 77) hx hb hw (zd_X12_isSo (77, .iaload, 1, 0, []) (List.mem_of_getElem? (i := 49) rfl)) zl_T59 rfl (zl_kd ((L + 8 * c + 5))) q3 (by omega) (show (L + 8 * c + 5) < 5580 by omega) ((hmt.2.2.2.2.2.1 _).trans s2) (fun hk55 => ?_)
                refine zp_load (pc := 78) hx hb (zd_X12_isSo (78, .aload_n 0, 1, 0, []) (List.mem_of_getElem? (i := 50) rfl)) rfl (j := 0) rfl ?_
                refine zp_getf (n := (b3 : Int)) (pc := 79) hx hb hE hw (zd_X12_isSo (79, .getfield 13, 3, 0, []) (List.mem_of_getElem? (i := 51) rfl)) (j := 21) rfl rfl rfl hp hmt.2.1 ?_
                refine zp_load (pc := 82) hx hb (zd_X12_isSo (82, .iload_n 1, 1, 0, []) (List.mem_of_getElem? (i := 52) rfl)) rfl (j := 1) rfl ?_
                refine zp_const (pc := 83) hx hb (zd_X12_isSo (83, .iconst 4, 1, 0, []) (List.mem_of_getElem? (i := 53) rfl)) rfl rfl ?_
                refine zp_add (n := ((L : Int) + 8 * (c : Int) + 6)) (pc := 84) hx hb (zd_X12_isSo (84, .iadd, 1, 0, []) (List.mem_of_getElem? (i := 54) rfl)) (by omega) (zp_r0 (by omega) (by omega)) ?_
                refine zp_ialdT (j := (L + 8 * c + 6)) (v := (es : Int)) (pc := 85) hx hb hw (zd_X12_isSo (85, .iaload, 1, 0, []) (List.mem_of_getElem? (i := 55) rfl)) zl_T59 rfl (zl_kd ((L + 8 * c + 6))) q3 (by omega) (show (L + 8 * c + 6) < 5580 by omega) ((hmt.2.2.2.2.2.1 _).trans s3) (fun hk56 => ?_)
                refine zp_call (pc := 86) (how := 0) (idx := 405) (mi := 243) (S := []) hx hb hE hw heff hrm (zX_ra0 hW b3 b35 b37 L fs ks R St xs9) rfl (j := 43) rfl rfl (by decide +kernel) (zd_X12_isSo (86, .invokevirtual 405, 3, 0, []) (List.mem_of_getElem? (i := 56) rfl)) [(a : Int), (bs : Int), (es : Int)] rfl ⟨zp_o2 hp, zp_o0 (by omega) (by omega) (by omega) (by omega), zp_o0 (by omega) (by omega) (by omega) (by omega), trivial⟩ (Nat.le_of_ble_eq_true rfl) ⟨hmt, q3, q35, q37, hL, hR, hSt, (show yE (zg_op R L) (zg_ar R L) fs ((bs : Nat) : Int).toNat ((es : Nat) : Int).toNat ks xs9 by rw [Int.toNat_natCast, Int.toNat_natCast]; exact s5), by omega⟩ (fun al hal rns Ps Gs hexts hfrs hoks hcss hpsis => ?_)
                obtain rfl := List.mem_singleton.mp hal
                have yas := hexts _ _ hp
                have yb3s := hexts _ _ q3
                have yb35s := hexts _ _ q35
                have yb37s := hexts _ _ q37
                obtain ⟨hPs, hvs, hns⟩ := hpsis
                have hms := zgR_f hmt hp q3 q35 hfrs rfl
                subst hPs
                cases hxs : xs9 (zg_en St) with
                | none =>
                  have r38 := hns hxs
                  refine zp_kn (k := 39) (a := a) hw (show zp_fd 13 39 = some (12, 1, 0, (-9223372036854775808), 9223372036854775807) from rfl) rfl hp (fun hk39 => ?_)
                  have hr39 : zk_rg 1 (Gs a 39) := hk39.2.2
                  refine zp_load (pc := 89) hx hb (zd_X12_isSo (89, .aload_n 0, 1, 0, []) (List.mem_of_getElem? (i := 57) rfl)) rfl (j := 0) rfl ?_
                  refine zp_load (pc := 90) hx hb (zd_X12_isSo (90, .aload_n 0, 1, 0, []) (List.mem_of_getElem? (i := 58) rfl)) rfl (j := 0) rfl ?_
                  refine zp_getf (n := (Gs a 39)) (pc := 91) hx hb hE hw (zd_X12_isSo (91, .getfield 402, 3, 0, []) (List.mem_of_getElem? (i := 59) rfl)) (j := 57) rfl rfl rfl hp rfl ?_
                  refine zp_putf (pc := 94) hx hb hE hw heff (zd_X12_isSo (94, .putfield 408, 3, 0, []) (List.mem_of_getElem? (i := 60) rfl)) (j := 58) rfl rfl rfl hp (zp_o1 (by first | assumption | exact zp_r1 (by omega) (by omega))) ?_
                  refine zp_load (pc := 97) hx hb (zd_X12_isSo (97, .aload_n 0, 1, 0, []) (List.mem_of_getElem? (i := 61) rfl)) rfl (j := 0) rfl ?_
                  refine zp_getf (n := 1) (pc := 98) hx hb hE hw (zd_X12_isSo (98, .getfield 388, 3, 0, []) (List.mem_of_getElem? (i := 62) rfl)) (j := 56) rfl rfl rfl hp ((zp_set_ne (Or.inr (by decide))).trans (r38)) ?_
                  refine zp_if (pc := 101) (tgt := 108) hx hb (zd_X12_isSo (101, .ifCond .ne 7, 3, 0, []) (List.mem_of_getElem? (i := 63) rfl)) rfl (fun (hc57 : ¬ 1 = 0) => ?_) (fun (hc57 : ¬ (¬ 1 = 0)) => ?_)
                  · refine zp_const (pc := 108) hx hb (zd_X12_isSo (108, .iconst 0, 1, 0, []) (List.mem_of_getElem? (i := 66) rfl)) rfl rfl ?_
                    refine zp_zret (pc := 109) (n := 0) hx hb hE hQ hU5 rfl (by decide) (zd_X12_isSo (109, .ireturn, 1, 0, []) (List.mem_of_getElem? (i := 67) rfl)) (j := 0) rfl (zp_o0 (by omega) (by omega) (by omega) (by omega)) ?_
                    rw [hps]
                    show u.1 = u.1 ∧ (∀ v, yw_v (zg_en St) K = some v → 0 = 1 ∧ (¬ K.1 = 4 → (-2147483648 ≤ v ∧ v ≤ 2147483648) ∧ (zp_set Gs a 40 (Gs a 39)) a 40 = v)) ∧ (yw_v (zg_en St) K = none → 0 = 0)
                    have hz : yw_v (zg_en St) K = none := by
                      unfold yw_v
                      rw [if_pos (by unfold yw_tb; rw [t0]; exact decide_eq_true (by rw [hyt]; congr 1; omega))]
                      unfold yw_s
                      rw [s0]
                      exact hxs
                    exact ⟨rfl, fun v hv => (by rw [hz] at hv; cases hv), fun _ => rfl⟩
                  · exfalso
                    omega
                | some v9 =>
                  obtain ⟨hb9, r38, r39⟩ := hvs v9 hxs
                  refine zp_load (pc := 89) hx hb (zd_X12_isSo (89, .aload_n 0, 1, 0, []) (List.mem_of_getElem? (i := 57) rfl)) rfl (j := 0) rfl ?_
                  refine zp_load (pc := 90) hx hb (zd_X12_isSo (90, .aload_n 0, 1, 0, []) (List.mem_of_getElem? (i := 58) rfl)) rfl (j := 0) rfl ?_
                  refine zp_getf (n := v9) (pc := 91) hx hb hE hw (zd_X12_isSo (91, .getfield 402, 3, 0, []) (List.mem_of_getElem? (i := 59) rfl)) (j := 57) rfl rfl rfl hp r39 ?_
                  refine zp_putf (pc := 94) hx hb hE hw heff (zd_X12_isSo (94, .putfield 408, 3, 0, []) (List.mem_of_getElem? (i := 60) rfl)) (j := 58) rfl rfl rfl hp (zp_o1 (by first | assumption | exact zp_r1 (by omega) (by omega))) ?_
                  refine zp_load (pc := 97) hx hb (zd_X12_isSo (97, .aload_n 0, 1, 0, []) (List.mem_of_getElem? (i := 61) rfl)) rfl (j := 0) rfl ?_
                  refine zp_getf (n := 0) (pc := 98) hx hb hE hw (zd_X12_isSo (98, .getfield 388, 3, 0, []) (List.mem_of_getElem? (i := 62) rfl)) (j := 56) rfl rfl rfl hp ((zp_set_ne (Or.inr (by decide))).trans (r38)) ?_
                  refine zp_if (pc := 101) (tgt := 108) hx hb (zd_X12_isSo (101, .ifCond .ne 7, 3, 0, []) (List.mem_of_getElem? (i := 63) rfl)) rfl (fun (hc58 : ¬ 0 = 0) => ?_) (fun (hc58 : ¬ (¬ 0 = 0)) => ?_)
                  · exfalso
                    omega
                  · refine zp_const (pc := 104) hx hb (zd_X12_isSo (104, .iconst 1, 1, 0, []) (List.mem_of_getElem? (i := 64) rfl)) rfl rfl ?_
                    refine zp_goto (tgt := 109) (pc := 105) hx hb (zd_X12_isSo (105, .goto 4, 3, 0, []) (List.mem_of_getElem? (i := 65) rfl)) rfl ?_
                    have ez : (zp_set Gs a 40 v9) a 40 = v9 := zp_set_self
                    refine zp_zret (pc := 109) (n := 1) hx hb hE hQ hU5 rfl (by decide) (zd_X12_isSo (109, .ireturn, 1, 0, []) (List.mem_of_getElem? (i := 67) rfl)) (j := 0) rfl (zp_o0 (by omega) (by omega) (by omega) (by omega)) ?_
                    rw [hps]
                    show u.1 = u.1 ∧ (∀ v, yw_v (zg_en St) K = some v → 1 = 1 ∧ (¬ K.1 = 4 → (-2147483648 ≤ v ∧ v ≤ 2147483648) ∧ (zp_set Gs a 40 v9) a 40 = v)) ∧ (yw_v (zg_en St) K = none → 1 = 0)
                    have hz : yw_v (zg_en St) K = (some v9) := by
                      unfold yw_v
                      rw [if_pos (by unfold yw_tb; rw [t0]; exact decide_eq_true (by rw [hyt]; congr 1; omega))]
                      unfold yw_s
                      rw [s0]
                      exact hxs
                    refine ⟨rfl, fun v hv => ⟨rfl, fun h9 => ?_⟩, fun hv => ?_⟩
                    · rw [hz] at hv
                      have hv := Option.some.inj hv
                      exact ⟨hv ▸ hb9, ez.trans hv⟩
                    · rw [hz] at hv
                      cases hv
            · refine zp_const (pc := 57) hx hb (zd_X12_isSo (57, .iconst 0, 1, 0, []) (List.mem_of_getElem? (i := 35) rfl)) rfl rfl ?_
              refine zp_zret (pc := 58) (n := 0) hx hb hE hQ hU5 rfl (by decide) (zd_X12_isSo (58, .ireturn, 1, 0, []) (List.mem_of_getElem? (i := 36) rfl)) (j := 0) rfl (zp_o0 (by omega) (by omega) (by omega) (by omega)) ?_
              rw [hps]
              show u.1 = u.1 ∧ (∀ v, yw_v (zg_en St) K = some v → 0 = 1 ∧ (¬ K.1 = 4 → (-2147483648 ≤ v ∧ v ≤ 2147483648) ∧ Gt a 40 = v)) ∧ (yw_v (zg_en St) K = none → 0 = 0)
              have hz : yw_v (zg_en St) K = none := by
                unfold yw_v
                rw [if_neg (by unfold yw_tb; rw [t0]; intro h9; have h10 := of_decide_eq_true h9; rw [hyt] at h10; have h11 := Option.some.inj h10; omega)]
              exact ⟨rfl, fun v hv => (by rw [hz] at hv; cases hv), fun _ => rfl⟩
noncomputable def zK_tdy : zk_K := (zt_mn 241, prog_14_method_16_code, 1, (Option.some Jvm.ClassFile.FieldType.int), 1, 12, [(2, 13, 0, 0)], [(some (0, 0, (-2147483648), 2147483647), [])], [], (0, 0, 0, 0))
noncomputable def zφ_tdy (b3 : Nat) : (Nat → Option Nat) → (Nat → Nat → Int) → List Int → Prop := fun P G ps => G (zp_0 ps) 3 = (b3 : Int) ∧ P b3 = some 59
noncomputable def zψ_tdy (b3 : Nat) : (Nat → Option Nat) → (Nat → Nat → Int) → List Int → (Nat → Option Nat) → (Nat → Nat → Int) → Int → Prop := fun P G ps P' G' rn => P' = P ∧ G' = G ∧ rn = G b3 (2000 + 5)
theorem zX_tdy {l : Launch} {w : zk_W} (hW : zh_W w) (b3 : Nat) : zk_metX l w zt_dv zt_TB zK_tdy (zp_A (zφ_tdy b3)) (zp_B (zψ_tdy b3)) ∧ zk_cok w zt_TB zK_tdy := by
  refine zp_methX (cn := "WoundTownModel") zp_lkall hW (pl := 1813) rfl (by decide +kernel) (fun p e Rm s m args below meth cc9 Q u hx hb hE hQ hU5 heff hnL hok hφ => ?_)
  have hw := hW.1
  obtain ⟨p0, hps, k0⟩ := zp_ps1 hok
  obtain ⟨a, rfl, hp⟩ := zp_this k0
  have hrm : zk_Kr (zk_ev (zt_types, zp_lk, zt_dv, [], [], zp_lc, zK_tdy)) = zk_Kr zK_tdy := rfl
  rw [hps] at hφ ⊢
  have hφ : zp_n u.2.1 a 3 = (b3 : Int) ∧ u.1 b3 = some 59 := hφ
  obtain ⟨e3, q3⟩ := hφ
  show zp_J p l e Rm s m args below meth cc9 Q w u [] 0 [(0, 2, (a : Int))] [] u.1 (zp_n u.2.1)
  refine zp_load (pc := 0) hx hb (zd_X12_today (0, .aload_n 0, 1, 0, []) (List.mem_of_getElem? (i := 0) rfl)) rfl (j := 0) rfl ?_
  refine zp_getf (n := (b3 : Int)) (pc := 1) hx hb hE hw (zd_X12_today (1, .getfield 13, 3, 0, []) (List.mem_of_getElem? (i := 1) rfl)) (j := 21) rfl rfl rfl hp e3 ?_
  refine zp_const (pc := 4) hx hb (zd_X12_today (4, .iconst 5, 1, 0, []) (List.mem_of_getElem? (i := 2) rfl)) rfl rfl ?_
  refine zp_ialdT (j := 5) (v := ((zp_n u.2.1) b3 (2000 + 5))) (pc := 5) hx hb hw (zd_X12_today (5, .iaload, 1, 0, []) (List.mem_of_getElem? (i := 3) rfl)) zl_T59 rfl (zl_kd 5) q3 (by omega) (show 5 < 5580 by omega) rfl (fun hk59 => ?_)
  have hk59b := zp_int (show zk_ok u.1 (0, 0, (-2147483648), 2147483647) ((zp_n u.2.1) b3 (2000 + 5)) from hk59)
  refine zp_iret (pc := 6) (n := ((zp_n u.2.1) b3 (2000 + 5))) hx hb hE hQ hU5 rfl (by decide) (zd_X12_today (6, .ireturn, 1, 0, []) (List.mem_of_getElem? (i := 4) rfl)) (j := 0) rfl (zp_o0 (by omega) (by omega) (by omega) (by omega)) ?_
  rw [hps]
  exact ⟨rfl, rfl, rfl⟩
/-- the words that tells sets -/
noncomputable def zg_st (St R : Nat → Int) : Nat → Int := fun j => if j = 9 then R 7 else if j = 8 then R 5 else if j = 7 then R 8 else St j
theorem zg_take {M : List yK} {c : Nat} {K : yK} (h : M[c]? = some K) : M.take (c + 1) = M.take c ++ [K] := by
  rw [List.take_succ, h]
  rfl
/-- what is told so far -/
noncomputable def zg_bs (en : Int → Int → Int) (h p2 : Int) (L : List yK) (best : Int) : Prop := (∀ v, yw en h L = some v → best = v ∧ -2147483648 ≤ v ∧ v ≤ 2147483648) ∧ (yw en h L = none → best = p2)
theorem zg_bs0 {en : Int → Int → Int} {h p2 : Int} : zg_bs en h p2 [] p2 := ⟨fun v hv => (by cases hv), fun _ => rfl⟩
theorem zg_bsn {en : Int → Int → Int} {h p2 best : Int} {L : List yK} {K : yK} (hb : zg_bs en h p2 L best) (hn : yw_1 en h K = none) : zg_bs en h p2 (L ++ [K]) best := by
  unfold zg_bs
  rw [yw_app, hn]
  exact hb
theorem zg_bss {en : Int → Int → Int} {h p2 v : Int} {L : List yK} {K : yK} (hn : yw_1 en h K = some v) (hv : -2147483648 ≤ v ∧ v ≤ 2147483648) : zg_bs en h p2 (L ++ [K]) v := by
  unfold zg_bs
  rw [yw_app, hn]
  exact ⟨fun v' h' => by cases h'; exact ⟨rfl, hv⟩, fun h' => by cases h'⟩
noncomputable def zK_tl0 : zk_K := (zt_mn 240, prog_14_method_67_code, 8, (Option.some Jvm.ClassFile.FieldType.long), 1, 12, [(2, 13, 0, 0), (0, 0, 0, 4), (1, 0, (-9223372036854775808), 9223372036854775807)], [(some (1, 0, (-9223372036854775808), 9223372036854775807), [])], [], (0, 0, 0, 0))
noncomputable def zφ_tl0 (b3 : Nat) : (Nat → Option Nat) → (Nat → Nat → Int) → List Int → Prop := fun P G ps => G (zp_0 ps) 3 = (b3 : Int) ∧ P b3 = some 59 ∧ G b3 (2000 + 4) = -1
noncomputable def zψ_tl0 (b3 : Nat) : (Nat → Option Nat) → (Nat → Nat → Int) → List Int → (Nat → Option Nat) → (Nat → Nat → Int) → Int → Prop := fun P G ps P' G' rn => P' = P ∧ G' = G ∧ rn = (ps.getD 2 0)
theorem zX_tl0 {l : Launch} {w : zk_W} (hW : zh_W w) (b3 : Nat) : zk_metX l w zt_dv zt_TB zK_tl0 (zp_A (zφ_tl0 b3)) (zp_B (zψ_tl0 b3)) ∧ zk_cok w zt_TB zK_tl0 := by
  refine zp_methX (cn := "WoundTownModel") zp_lkall hW (pl := 1809) rfl (by decide +kernel) (fun p e Rm s m args below meth cc9 Q u hx hb hE hQ hU5 heff hnL hok hφ => ?_)
  have hw := hW.1
  obtain ⟨p0, p1, p2, hps, k0, k1, k2⟩ := zp_ps3 hok
  obtain ⟨a, rfl, hp⟩ := zp_this k0
  have hrm : zk_Kr (zk_ev (zt_types, zp_lk, zt_dv, [], [], zp_lc, zK_tl0)) = zk_Kr zK_tl0 := rfl
  rw [hps] at hφ ⊢
  have hi1 := zp_int k1
  have hφ : zp_n u.2.1 a 3 = (b3 : Int) ∧ u.1 b3 = some 59 ∧ zp_n u.2.1 b3 (2000 + 4) = -1 := hφ
  obtain ⟨e3, q3, e4⟩ := hφ
  have hr2 : zk_rg 1 p2 := k2.2.2
  show zp_J p l e Rm s m args below meth cc9 Q w u [] 0 [(0, 2, (a : Int)), (1, 0, p1), (2, 1, p2)] [] u.1 (zp_n u.2.1)
  refine zp_load (pc := 0) hx hb (zd_X12_tells (0, .aload_n 0, 1, 0, []) (List.mem_of_getElem? (i := 0) rfl)) rfl (j := 0) rfl ?_
  refine zp_getf (n := (b3 : Int)) (pc := 1) hx hb hE hw (zd_X12_tells (1, .getfield 13, 3, 0, []) (List.mem_of_getElem? (i := 1) rfl)) (j := 21) rfl rfl rfl hp e3 ?_
  refine zp_const (pc := 4) hx hb (zd_X12_tells (4, .iconst 4, 1, 0, []) (List.mem_of_getElem? (i := 2) rfl)) rfl rfl ?_
  refine zp_ialdT (j := 4) (v := (-1)) (pc := 5) hx hb hw (zd_X12_tells (5, .iaload, 1, 0, []) (List.mem_of_getElem? (i := 3) rfl)) zl_T59 rfl (zl_kd 4) q3 (by omega) (show 4 < 5580 by omega) e4 (fun hk60 => ?_)
  have hk60b := zp_int (show zk_ok u.1 (0, 0, (-1), 5) (-1) from hk60)
  refine zp_const (pc := 6) hx hb (zd_X12_tells (6, .iconst (-1), 1, 0, []) (List.mem_of_getElem? (i := 4) rfl)) rfl rfl ?_
  refine zp_icmp (pc := 7) (tgt := 12) hx hb (zd_X12_tells (7, .if_icmp .ne 5, 3, 0, []) (List.mem_of_getElem? (i := 5) rfl)) rfl (fun (hc61 : ¬ (-1) = (-1)) => ?_) (fun (hc61 : ¬ (¬ (-1) = (-1))) => ?_)
  · exfalso
    omega
  · refine zp_load (pc := 10) hx hb (zd_X12_tells (10, .lload_n 2, 1, 0, []) (List.mem_of_getElem? (i := 6) rfl)) rfl (j := 2) rfl ?_
    refine zp_lret (pc := 11) (n := p2) hx hb hE hQ hU5 rfl (by decide) (zd_X12_tells (11, .lreturn, 1, 0, []) (List.mem_of_getElem? (i := 7) rfl)) (j := 0) rfl (zp_o1 (by first | assumption | exact zp_r1 (by omega) (by omega))) ?_
    rw [hps]
    exact ⟨rfl, rfl, rfl⟩
noncomputable def zK_tel : zk_K := (zt_mn 240, prog_14_method_67_code, 8, (Option.some Jvm.ClassFile.FieldType.long), 1, 12, [(2, 13, 0, 0), (0, 0, 0, 4), (1, 0, (-9223372036854775808), 9223372036854775807)], [(some (1, 0, (-9223372036854775808), 9223372036854775807), [])], [(13, 34, 0), (75, 1001, 0), (13, 38, 0), (13, 39, 0), (13, 40, 0), (77, 1001, 0)], (3, 120, 0, 0))
noncomputable def zφ_tel (b3 b35 b37 i : Nat) (R St : Nat → Int) (M : List yK) : (Nat → Option Nat) → (Nat → Nat → Int) → List Int → Prop := fun P G ps => (G (zp_0 ps) 20 = 0 ∧ G (zp_0 ps) 3 = (b3 : Int) ∧ G (zp_0 ps) 35 = (b35 : Int) ∧ G (zp_0 ps) 37 = (b37 : Int) ∧ (∀ j, G b3 (2000 + j) = R j) ∧ ∀ j, G b35 (2000 + j) = St j) ∧ P b3 = some 59 ∧ P b35 = some 75 ∧ P b37 = some 77 ∧ i < 6 ∧ R 4 = (i : Int) ∧ (∀ j, j < 5580 → -2147483648 ≤ R j ∧ R j ≤ 2147483647) ∧ (∀ j, j < 13 → -2147483648 ≤ St j ∧ St j ≤ 2147483648) ∧ R ((900 * i + 180) + 1) = (M.length : Int) ∧ M.length ≤ 12 ∧ zLs (zg_cl R (900 * i + 180)) (zg_op R (900 * i + 180)) (zg_ar R (900 * i + 180)) 400 0 M
noncomputable def zψ_tel (b3 b35 b37 i : Nat) (R St : Nat → Int) (M : List yK) : (Nat → Option Nat) → (Nat → Nat → Int) → List Int → (Nat → Option Nat) → (Nat → Nat → Int) → Int → Prop := fun P G ps P' G' rn => P' = P ∧ zg_bs (zg_en (zg_st St R)) (ps.getD 1 0) (ps.getD 2 0) M rn ∧ ∀ j, G' b35 (2000 + j) = zg_st St R j
set_option maxHeartbeats 4000000 in
theorem zX_tel {l : Launch} {w : zk_W} (hW : zh_W w) (b3 b35 b37 i : Nat) (R St : Nat → Int) (M : List yK) : zk_metX l w zt_dv zt_TB zK_tel (zp_A (zφ_tel b3 b35 b37 i R St M)) (zp_B (zψ_tel b3 b35 b37 i R St M)) ∧ zk_cok w zt_TB zK_tel := by
  refine zp_methX (cn := "WoundTownModel") zp_lkall hW (pl := 1809) rfl (by decide +kernel) (fun p e Rm s m args below meth cc9 Q u hx hb hE hQ hU5 heff hnL hok hφ => ?_)
  have hw := hW.1
  obtain ⟨p0, p1, p2, hps, k0, k1, k2⟩ := zp_ps3 hok
  obtain ⟨a, rfl, hp⟩ := zp_this k0
  have hrm : zk_Kr (zk_ev (zt_types, zp_lk, zt_dv, [], [], zp_lc, zK_tel)) = zk_Kr zK_tel := rfl
  rw [hps] at hφ ⊢
  have hi1 := zp_int k1
  have hφ : ((zp_n u.2.1) a 20 = 0 ∧ (zp_n u.2.1) a 3 = (b3 : Int) ∧ (zp_n u.2.1) a 35 = (b35 : Int) ∧ (zp_n u.2.1) a 37 = (b37 : Int) ∧ (∀ j, (zp_n u.2.1) b3 (2000 + j) = R j) ∧ ∀ j, (zp_n u.2.1) b35 (2000 + j) = St j) ∧ u.1 b3 = some 59 ∧ u.1 b35 = some 75 ∧ u.1 b37 = some 77 ∧ i < 6 ∧ R 4 = (i : Int) ∧ (∀ j, j < 5580 → -2147483648 ≤ R j ∧ R j ≤ 2147483647) ∧ (∀ j, j < 13 → -2147483648 ≤ St j ∧ St j ≤ 2147483648) ∧ R ((900 * i + 180) + 1) = (M.length : Int) ∧ M.length ≤ 12 ∧ zLs (zg_cl R (900 * i + 180)) (zg_op R (900 * i + 180)) (zg_ar R (900 * i + 180)) 400 0 M := hφ
  obtain ⟨⟨g20, g3, g35, g37, gR, gS⟩, q3, q35, q37, hi6, h4, hR, hSt, hM1, hM12, hM⟩ := hφ
  obtain ⟨L, hL⟩ : ∃ L : Nat, L = 900 * i + 180 := ⟨_, rfl⟩
  rw [← hL] at hM1 hM
  have hr2 : zk_rg 1 p2 := k2.2.2
  have n35 : a ≠ b35 := zp_pne hp q35 (by decide)
  have n335 : b3 ≠ b35 := zp_pne q3 q35 (by decide)
  have n3 : b3 ≠ a := zp_pne q3 hp (by decide)
  obtain ⟨S9, hS9⟩ : ∃ S9 : Nat → Int, S9 = zg_st St R := ⟨_, rfl⟩
  have hSt9 : ∀ j, j < 13 → -2147483648 ≤ S9 j ∧ S9 j ≤ 2147483648 := fun j hj => by
    rw [hS9]
    unfold zg_st
    split
    · have := hR 7 (by omega); omega
    · split
      · have := hR 5 (by omega); omega
      · split
        · have := hR 8 (by omega); omega
        · exact hSt j hj
  have loop : ∀ (n9 c : Nat) (best : Int) (G : Nat → Nat → Int), M.length - c < n9 → c ≤ M.length → zgR a b3 b35 b37 L R S9 G → zk_rg 1 best → zg_bs (zg_en S9) p1 p2 (M.take c) best → zp_J p l e Rm s m args below meth cc9 Q w u [] 78 [(6, 0, ((c : Nat) : Int)), (4, 1, best), (0, 2, (a : Int)), (1, 0, p1), (2, 1, p2)] [] u.1 G := by
    intro n9
    induction n9 with
    | zero => intro c best G h; exact absurd h (Nat.not_lt_zero _)
    | succ n9 ih =>
      intro c best G hn hc hm hrb hbs
      by_cases hcl : c < M.length
      · obtain ⟨K, hK, hKc⟩ := zLs_at hM hcl
        rw [Nat.zero_add] at hKc
        have h1 : R (L + 8 * c + 2) = K.1 := (zg_cle (k := 0)).symm.trans hKc.1
        refine zp_load (pc := 78) hx hb (zd_X12_tells (78, .iload 6, 2, 0, []) (List.mem_of_getElem? (i := 47) rfl)) rfl (j := 0) rfl ?_
        refine zp_load (pc := 80) hx hb (zd_X12_tells (80, .aload_n 0, 1, 0, []) (List.mem_of_getElem? (i := 48) rfl)) rfl (j := 2) rfl ?_
        refine zp_getf (n := (b3 : Int)) (pc := 81) hx hb hE hw (zd_X12_tells (81, .getfield 13, 3, 0, []) (List.mem_of_getElem? (i := 49) rfl)) (j := 21) rfl rfl rfl hp hm.2.1 ?_
        refine zp_load (pc := 84) hx hb (zd_X12_tells (84, .aload_n 0, 1, 0, []) (List.mem_of_getElem? (i := 50) rfl)) rfl (j := 2) rfl ?_
        refine zp_getf (n := (L : Int)) (pc := 85) hx hb hE hw (zd_X12_tells (85, .getfield 391, 3, 0, []) (List.mem_of_getElem? (i := 51) rfl)) (j := 52) rfl rfl rfl hp hm.2.2.1 ?_
        refine zp_const (pc := 88) hx hb (zd_X12_tells (88, .iconst 1, 1, 0, []) (List.mem_of_getElem? (i := 52) rfl)) rfl rfl ?_
        refine zp_add (n := ((L : Int) + 1)) (pc := 89) hx hb (zd_X12_tells (89, .iadd, 1, 0, []) (List.mem_of_getElem? (i := 53) rfl)) (by omega) (zp_r0 (by omega) (by omega)) ?_
        refine zp_ialdT (j := (L + 1)) (v := (M.length : Int)) (pc := 90) hx hb hw (zd_X12_tells (90, .iaload, 1, 0, []) (List.mem_of_getElem? (i := 54) rfl)) zl_T59 rfl (zl_kd ((L + 1))) q3 (by omega) (show (L + 1) < 5580 by omega) ((hm.2.2.2.2.2.1 _).trans hM1) (fun hk62 => ?_)
        refine zp_icmp (pc := 91) (tgt := 149) hx hb (zd_X12_tells (91, .if_icmp .ge 58, 3, 0, []) (List.mem_of_getElem? (i := 55) rfl)) rfl (fun (hc63 : (M.length : Int) ≤ (c : Int)) => ?_) (fun (hc63 : ¬ ((M.length : Int) ≤ (c : Int))) => ?_)
        · exfalso
          omega
        · refine zp_load (pc := 94) hx hb (zd_X12_tells (94, .aload_n 0, 1, 0, []) (List.mem_of_getElem? (i := 56) rfl)) rfl (j := 2) rfl ?_
          refine zp_getf (n := (L : Int)) (pc := 95) hx hb hE hw (zd_X12_tells (95, .getfield 391, 3, 0, []) (List.mem_of_getElem? (i := 57) rfl)) (j := 52) rfl rfl rfl hp hm.2.2.1 ?_
          refine zp_const (pc := 98) hx hb (zd_X12_tells (98, .iconst 2, 1, 0, []) (List.mem_of_getElem? (i := 58) rfl)) rfl rfl ?_
          refine zp_add (n := ((L : Int) + 2)) (pc := 99) hx hb (zd_X12_tells (99, .iadd, 1, 0, []) (List.mem_of_getElem? (i := 59) rfl)) (by omega) (zp_r0 (by omega) (by omega)) ?_
          refine zp_const (pc := 100) hx hb (zd_X12_tells (100, .bipush 8, 2, 0, []) (List.mem_of_getElem? (i := 60) rfl)) rfl rfl ?_
          refine zp_load (pc := 102) hx hb (zd_X12_tells (102, .iload 6, 2, 0, []) (List.mem_of_getElem? (i := 61) rfl)) rfl (j := 0) rfl ?_
          refine zp_mul (n := (8 * (c : Int))) (pc := 104) hx hb (zd_X12_tells (104, .imul, 1, 0, []) (List.mem_of_getElem? (i := 62) rfl)) (by omega) (zp_r0 (by omega) (by omega)) ?_
          refine zp_add (n := ((L : Int) + 8 * (c : Int) + 2)) (pc := 105) hx hb (zd_X12_tells (105, .iadd, 1, 0, []) (List.mem_of_getElem? (i := 63) rfl)) (by omega) (zp_r0 (by omega) (by omega)) ?_
          refine zp_store (L' := [(7, 0, ((L : Int) + 8 * (c : Int) + 2)), (6, 0, (c : Int)), (4, 1, best), (0, 2, (a : Int)), (1, 0, p1), (2, 1, p2)]) (pc := 106) hx hb hnL (zd_X12_tells (106, .istore 7, 2, 0, []) (List.mem_of_getElem? (i := 64) rfl)) rfl rfl rfl ?_
          refine zp_load (pc := 108) hx hb (zd_X12_tells (108, .aload_n 0, 1, 0, []) (List.mem_of_getElem? (i := 65) rfl)) rfl (j := 3) rfl ?_
          refine zp_getf (n := (b3 : Int)) (pc := 109) hx hb hE hw (zd_X12_tells (109, .getfield 13, 3, 0, []) (List.mem_of_getElem? (i := 66) rfl)) (j := 21) rfl rfl rfl hp hm.2.1 ?_
          refine zp_load (pc := 112) hx hb (zd_X12_tells (112, .iload 7, 2, 0, []) (List.mem_of_getElem? (i := 67) rfl)) rfl (j := 0) rfl ?_
          refine zp_ialdT (j := (L + 8 * c + 2)) (v := (R (L + 8 * c + 2))) (pc := 114) hx hb hw (zd_X12_tells (114, .iaload, 1, 0, []) (List.mem_of_getElem? (i := 68) rfl)) zl_T59 rfl (zl_kd ((L + 8 * c + 2))) q3 (by omega) (show (L + 8 * c + 2) < 5580 by omega) (hm.2.2.2.2.2.1 _) (fun hk64 => ?_)
          refine zp_load (pc := 115) hx hb (zd_X12_tells (115, .iload_n 1, 1, 0, []) (List.mem_of_getElem? (i := 69) rfl)) rfl (j := 4) rfl ?_
          refine zp_icmp (pc := 116) (tgt := 143) hx hb (zd_X12_tells (116, .if_icmp .ne 27, 3, 0, []) (List.mem_of_getElem? (i := 70) rfl)) rfl (fun (hc65 : ¬ (R (L + 8 * c + 2)) = p1) => ?_) (fun (hc65 : ¬ (¬ (R (L + 8 * c + 2)) = p1)) => ?_)
          · refine zp_iinc (L' := [(6, 0, ((c : Int) + 1)), (7, 0, ((L : Int) + 8 * (c : Int) + 2)), (4, 1, best), (0, 2, (a : Int)), (1, 0, p1), (2, 1, p2)]) (n := ((c : Int) + 1)) (pc := 143) hx hb hnL (zd_X12_tells (143, .iinc 6 1, 3, 0, []) (List.mem_of_getElem? (i := 83) rfl)) (j := 1) rfl (by omega) (zp_r0 (by omega) (by omega)) rfl rfl ?_
            refine zp_goto (tgt := 78) (pc := 146) hx hb (zd_X12_tells (146, .goto (-68), 3, 0, []) (List.mem_of_getElem? (i := 84) rfl)) rfl ?_
            refine zp_drop (L' := [(6, 0, ((c : Int) + 1)), (4, 1, best), (0, 2, (a : Int)), (1, 0, p1), (2, 1, p2)]) (by simp) ?_
            exact ih (c + 1) best _ (by omega) (by omega) hm hrb (by rw [zg_take hK]; exact zg_bsn hbs (by rw [yw_1v]; exact if_neg (by omega)))
          · refine zp_load (pc := 119) hx hb (zd_X12_tells (119, .aload_n 0, 1, 0, []) (List.mem_of_getElem? (i := 71) rfl)) rfl (j := 3) rfl ?_
            refine zp_load (pc := 120) hx hb (zd_X12_tells (120, .iload 7, 2, 0, []) (List.mem_of_getElem? (i := 72) rfl)) rfl (j := 0) rfl ?_
            refine zp_call (pc := 122) (how := 0) (idx := 414) (mi := 242) (S := []) hx hb hE hw heff hrm (zX_sov hW b3 b35 b37 L c R S9 K) rfl (j := 42) rfl rfl (by decide +kernel) (zd_X12_tells (122, .invokevirtual 414, 3, 0, []) (List.mem_of_getElem? (i := 73) rfl)) [(a : Int), ((L : Int) + 8 * (c : Int) + 2)] rfl ⟨zp_o2 hp, zp_o0 (by omega) (by omega) (by omega) (by omega), trivial⟩ (Nat.le_of_ble_eq_true rfl) ⟨hm, q3, q35, q37, by omega, hR, hSt9, rfl, by omega, hKc⟩ (fun al hal rns Ps Gs hexts hfrs hoks hcss hpsis => ?_)
            obtain rfl := List.mem_singleton.mp hal
            have hrs := zp_int (hoks _ rfl).1
            have yas := hexts _ _ hp
            have yb3s := hexts _ _ q3
            have yb35s := hexts _ _ q35
            have yb37s := hexts _ _ q37
            obtain ⟨hPs, hvs, hns⟩ := hpsis
            have hms := zgR_f hm hp q3 q35 hfrs rfl
            subst hPs
            cases hyv : yw_v (zg_en S9) K with
            | none =>
              have hr9 := hns hyv
              refine zp_if (pc := 125) (tgt := 143) hx hb (zd_X12_tells (125, .ifCond .eq 18, 3, 0, []) (List.mem_of_getElem? (i := 74) rfl)) rfl (fun (hc66 : rns = 0) => ?_) (fun (hc66 : ¬ (rns = 0)) => ?_)
              · refine zp_iinc (L' := [(6, 0, ((c : Int) + 1)), (7, 0, ((L : Int) + 8 * (c : Int) + 2)), (4, 1, best), (0, 2, (a : Int)), (1, 0, p1), (2, 1, p2)]) (n := ((c : Int) + 1)) (pc := 143) hx hb hnL (zd_X12_tells (143, .iinc 6 1, 3, 0, []) (List.mem_of_getElem? (i := 83) rfl)) (j := 1) rfl (by omega) (zp_r0 (by omega) (by omega)) rfl rfl ?_
                refine zp_goto (tgt := 78) (pc := 146) hx hb (zd_X12_tells (146, .goto (-68), 3, 0, []) (List.mem_of_getElem? (i := 84) rfl)) rfl ?_
                refine zp_drop (L' := [(6, 0, ((c : Int) + 1)), (4, 1, best), (0, 2, (a : Int)), (1, 0, p1), (2, 1, p2)]) (by simp) ?_
                exact ih (c + 1) best _ (by omega) (by omega) hms hrb (by rw [zg_take hK]; exact zg_bsn hbs (by rw [yw_1v]; split; exact hyv; rfl))
              · exfalso
                omega
            | some v9 =>
              obtain ⟨hr9, hs9⟩ := hvs v9 hyv
              by_cases hk4 : K.1 = 4
              · have hv1 : v9 = 1 := by
                  unfold yw_v at hyv
                  split at hyv
                  · unfold yw_s at hyv
                    rcases hKc.2.2.2.1 with ⟨z1, -⟩ | ⟨x9, z1, z2, -⟩
                    · rw [z1] at hyv
                      exact (Option.some.inj hyv).symm
                    · exact absurd hk4 z2
                  · cases hyv
                subst hv1
                refine zp_if (pc := 125) (tgt := 143) hx hb (zd_X12_tells (125, .ifCond .eq 18, 3, 0, []) (List.mem_of_getElem? (i := 74) rfl)) rfl (fun (hc67 : rns = 0) => ?_) (fun (hc67 : ¬ (rns = 0)) => ?_)
                · exfalso
                  omega
                · refine zp_load (pc := 128) hx hb (zd_X12_tells (128, .iload_n 1, 1, 0, []) (List.mem_of_getElem? (i := 75) rfl)) rfl (j := 4) rfl ?_
                  refine zp_const (pc := 129) hx hb (zd_X12_tells (129, .iconst 4, 1, 0, []) (List.mem_of_getElem? (i := 76) rfl)) rfl rfl ?_
                  refine zp_icmp (pc := 130) (tgt := 137) hx hb (zd_X12_tells (130, .if_icmp .ne 7, 3, 0, []) (List.mem_of_getElem? (i := 77) rfl)) rfl (fun (hc68 : ¬ p1 = 4) => ?_) (fun (hc68 : ¬ (¬ p1 = 4)) => ?_)
                  · exfalso
                    omega
                  · refine zp_const (pc := 133) hx hb (zd_X12_tells (133, .lconst 1, 1, 0, []) (List.mem_of_getElem? (i := 78) rfl)) rfl rfl ?_
                    refine zp_goto (tgt := 141) (pc := 134) hx hb (zd_X12_tells (134, .goto 7, 3, 0, []) (List.mem_of_getElem? (i := 79) rfl)) rfl ?_
                    refine zp_store (L' := [(4, 1, 1), (7, 0, ((L : Int) + 8 * (c : Int) + 2)), (6, 0, (c : Int)), (0, 2, (a : Int)), (1, 0, p1), (2, 1, p2)]) (pc := 141) hx hb hnL (zd_X12_tells (141, .lstore 4, 2, 0, []) (List.mem_of_getElem? (i := 82) rfl)) rfl rfl rfl ?_
                    refine zp_iinc (L' := [(6, 0, ((c : Int) + 1)), (4, 1, 1), (7, 0, ((L : Int) + 8 * (c : Int) + 2)), (0, 2, (a : Int)), (1, 0, p1), (2, 1, p2)]) (n := ((c : Int) + 1)) (pc := 143) hx hb hnL (zd_X12_tells (143, .iinc 6 1, 3, 0, []) (List.mem_of_getElem? (i := 83) rfl)) (j := 2) rfl (by omega) (zp_r0 (by omega) (by omega)) rfl rfl ?_
                    refine zp_goto (tgt := 78) (pc := 146) hx hb (zd_X12_tells (146, .goto (-68), 3, 0, []) (List.mem_of_getElem? (i := 84) rfl)) rfl ?_
                    refine zp_drop (L' := [(6, 0, ((c : Int) + 1)), (4, 1, 1), (0, 2, (a : Int)), (1, 0, p1), (2, 1, p2)]) (by simp) ?_
                    exact ih (c + 1) 1 _ (by omega) (by omega) hms ⟨by decide, by decide⟩ (by rw [zg_take hK]; exact zg_bss (by rw [yw_1v, if_pos (by omega)]; exact hyv) ⟨by decide, by decide⟩)
              · obtain ⟨hb9, e40⟩ := hs9 hk4
                refine zp_if (pc := 125) (tgt := 143) hx hb (zd_X12_tells (125, .ifCond .eq 18, 3, 0, []) (List.mem_of_getElem? (i := 74) rfl)) rfl (fun (hc69 : rns = 0) => ?_) (fun (hc69 : ¬ (rns = 0)) => ?_)
                · exfalso
                  omega
                · refine zp_load (pc := 128) hx hb (zd_X12_tells (128, .iload_n 1, 1, 0, []) (List.mem_of_getElem? (i := 75) rfl)) rfl (j := 4) rfl ?_
                  refine zp_const (pc := 129) hx hb (zd_X12_tells (129, .iconst 4, 1, 0, []) (List.mem_of_getElem? (i := 76) rfl)) rfl rfl ?_
                  refine zp_icmp (pc := 130) (tgt := 137) hx hb (zd_X12_tells (130, .if_icmp .ne 7, 3, 0, []) (List.mem_of_getElem? (i := 77) rfl)) rfl (fun (hc70 : ¬ p1 = 4) => ?_) (fun (hc70 : ¬ (¬ p1 = 4)) => ?_)
                  · refine zp_load (pc := 137) hx hb (zd_X12_tells (137, .aload_n 0, 1, 0, []) (List.mem_of_getElem? (i := 80) rfl)) rfl (j := 3) rfl ?_
                    refine zp_getf (n := v9) (pc := 138) hx hb hE hw (zd_X12_tells (138, .getfield 408, 3, 0, []) (List.mem_of_getElem? (i := 81) rfl)) (j := 58) rfl rfl rfl hp e40 ?_
                    refine zp_store (L' := [(4, 1, v9), (7, 0, ((L : Int) + 8 * (c : Int) + 2)), (6, 0, (c : Int)), (0, 2, (a : Int)), (1, 0, p1), (2, 1, p2)]) (pc := 141) hx hb hnL (zd_X12_tells (141, .lstore 4, 2, 0, []) (List.mem_of_getElem? (i := 82) rfl)) rfl rfl rfl ?_
                    refine zp_iinc (L' := [(6, 0, ((c : Int) + 1)), (4, 1, v9), (7, 0, ((L : Int) + 8 * (c : Int) + 2)), (0, 2, (a : Int)), (1, 0, p1), (2, 1, p2)]) (n := ((c : Int) + 1)) (pc := 143) hx hb hnL (zd_X12_tells (143, .iinc 6 1, 3, 0, []) (List.mem_of_getElem? (i := 83) rfl)) (j := 2) rfl (by omega) (zp_r0 (by omega) (by omega)) rfl rfl ?_
                    refine zp_goto (tgt := 78) (pc := 146) hx hb (zd_X12_tells (146, .goto (-68), 3, 0, []) (List.mem_of_getElem? (i := 84) rfl)) rfl ?_
                    refine zp_drop (L' := [(6, 0, ((c : Int) + 1)), (4, 1, v9), (0, 2, (a : Int)), (1, 0, p1), (2, 1, p2)]) (by simp) ?_
                    exact ih (c + 1) v9 _ (by omega) (by omega) hms (zp_r1 (by omega) (by omega)) (by rw [zg_take hK]; exact zg_bss (by rw [yw_1v, if_pos (by omega)]; exact hyv) hb9)
                  · exfalso
                    omega
      · refine zp_load (pc := 78) hx hb (zd_X12_tells (78, .iload 6, 2, 0, []) (List.mem_of_getElem? (i := 47) rfl)) rfl (j := 0) rfl ?_
        refine zp_load (pc := 80) hx hb (zd_X12_tells (80, .aload_n 0, 1, 0, []) (List.mem_of_getElem? (i := 48) rfl)) rfl (j := 2) rfl ?_
        refine zp_getf (n := (b3 : Int)) (pc := 81) hx hb hE hw (zd_X12_tells (81, .getfield 13, 3, 0, []) (List.mem_of_getElem? (i := 49) rfl)) (j := 21) rfl rfl rfl hp hm.2.1 ?_
        refine zp_load (pc := 84) hx hb (zd_X12_tells (84, .aload_n 0, 1, 0, []) (List.mem_of_getElem? (i := 50) rfl)) rfl (j := 2) rfl ?_
        refine zp_getf (n := (L : Int)) (pc := 85) hx hb hE hw (zd_X12_tells (85, .getfield 391, 3, 0, []) (List.mem_of_getElem? (i := 51) rfl)) (j := 52) rfl rfl rfl hp hm.2.2.1 ?_
        refine zp_const (pc := 88) hx hb (zd_X12_tells (88, .iconst 1, 1, 0, []) (List.mem_of_getElem? (i := 52) rfl)) rfl rfl ?_
        refine zp_add (n := ((L : Int) + 1)) (pc := 89) hx hb (zd_X12_tells (89, .iadd, 1, 0, []) (List.mem_of_getElem? (i := 53) rfl)) (by omega) (zp_r0 (by omega) (by omega)) ?_
        refine zp_ialdT (j := (L + 1)) (v := (M.length : Int)) (pc := 90) hx hb hw (zd_X12_tells (90, .iaload, 1, 0, []) (List.mem_of_getElem? (i := 54) rfl)) zl_T59 rfl (zl_kd ((L + 1))) q3 (by omega) (show (L + 1) < 5580 by omega) ((hm.2.2.2.2.2.1 _).trans hM1) (fun hk71 => ?_)
        refine zp_icmp (pc := 91) (tgt := 149) hx hb (zd_X12_tells (91, .if_icmp .ge 58, 3, 0, []) (List.mem_of_getElem? (i := 55) rfl)) rfl (fun (hc72 : (M.length : Int) ≤ (c : Int)) => ?_) (fun (hc72 : ¬ ((M.length : Int) ≤ (c : Int))) => ?_)
        · refine zp_load (pc := 149) hx hb (zd_X12_tells (149, .lload 4, 2, 0, []) (List.mem_of_getElem? (i := 85) rfl)) rfl (j := 1) rfl ?_
          have hall : M.take c = M := List.take_of_length_le (by omega)
          rw [hall, hS9] at hbs
          refine zp_lret (pc := 151) (n := best) hx hb hE hQ hU5 rfl (by decide) (zd_X12_tells (151, .lreturn, 1, 0, []) (List.mem_of_getElem? (i := 86) rfl)) (j := 0) rfl (zp_o1 (by first | assumption | exact zp_r1 (by omega) (by omega))) ?_
          rw [hps]
          exact ⟨rfl, hbs, fun j => by rw [← hS9]; exact hm.2.2.2.2.2.2 j⟩
        · exfalso
          omega
  show zp_J p l e Rm s m args below meth cc9 Q w u [] 0 [(0, 2, (a : Int)), (1, 0, p1), (2, 1, p2)] [] u.1 (zp_n u.2.1)
  have b8 := hR 8 (by omega)
  have b7 := hR 7 (by omega)
  have b5 := hR 5 (by omega)
  refine zp_load (pc := 0) hx hb (zd_X12_tells (0, .aload_n 0, 1, 0, []) (List.mem_of_getElem? (i := 0) rfl)) rfl (j := 0) rfl ?_
  refine zp_getf (n := (b3 : Int)) (pc := 1) hx hb hE hw (zd_X12_tells (1, .getfield 13, 3, 0, []) (List.mem_of_getElem? (i := 1) rfl)) (j := 21) rfl rfl rfl hp g3 ?_
  refine zp_const (pc := 4) hx hb (zd_X12_tells (4, .iconst 4, 1, 0, []) (List.mem_of_getElem? (i := 2) rfl)) rfl rfl ?_
  refine zp_ialdT (j := 4) (v := (i : Int)) (pc := 5) hx hb hw (zd_X12_tells (5, .iaload, 1, 0, []) (List.mem_of_getElem? (i := 3) rfl)) zl_T59 rfl (zl_kd 4) q3 (by omega) (show 4 < 5580 by omega) ((gR 4).trans h4) (fun hk73 => ?_)
  have hk73b := zp_int (show zk_ok u.1 (0, 0, (-1), 5) (i : Int) from hk73)
  refine zp_const (pc := 6) hx hb (zd_X12_tells (6, .iconst (-1), 1, 0, []) (List.mem_of_getElem? (i := 4) rfl)) rfl rfl ?_
  refine zp_icmp (pc := 7) (tgt := 12) hx hb (zd_X12_tells (7, .if_icmp .ne 5, 3, 0, []) (List.mem_of_getElem? (i := 5) rfl)) rfl (fun (hc74 : ¬ (i : Int) = (-1)) => ?_) (fun (hc74 : ¬ (¬ (i : Int) = (-1))) => ?_)
  · refine zp_load (pc := 12) hx hb (zd_X12_tells (12, .aload_n 0, 1, 0, []) (List.mem_of_getElem? (i := 8) rfl)) rfl (j := 0) rfl ?_
    refine zp_const (pc := 13) hx hb (zd_X12_tells (13, .sipush 180, 3, 0, []) (List.mem_of_getElem? (i := 9) rfl)) rfl rfl ?_
    refine zp_const (pc := 16) hx hb (zd_X12_tells (16, .sipush 900, 3, 0, []) (List.mem_of_getElem? (i := 10) rfl)) rfl rfl ?_
    refine zp_load (pc := 19) hx hb (zd_X12_tells (19, .aload_n 0, 1, 0, []) (List.mem_of_getElem? (i := 11) rfl)) rfl (j := 0) rfl ?_
    refine zp_getf (n := (b3 : Int)) (pc := 20) hx hb hE hw (zd_X12_tells (20, .getfield 13, 3, 0, []) (List.mem_of_getElem? (i := 12) rfl)) (j := 21) rfl rfl rfl hp g3 ?_
    refine zp_const (pc := 23) hx hb (zd_X12_tells (23, .iconst 4, 1, 0, []) (List.mem_of_getElem? (i := 13) rfl)) rfl rfl ?_
    refine zp_ialdT (j := 4) (v := (i : Int)) (pc := 24) hx hb hw (zd_X12_tells (24, .iaload, 1, 0, []) (List.mem_of_getElem? (i := 14) rfl)) zl_T59 rfl (zl_kd 4) q3 (by omega) (show 4 < 5580 by omega) ((gR 4).trans h4) (fun hk75 => ?_)
    have hk75b := zp_int (show zk_ok u.1 (0, 0, (-1), 5) (i : Int) from hk75)
    refine zp_mul (n := (900 * (i : Int))) (pc := 25) hx hb (zd_X12_tells (25, .imul, 1, 0, []) (List.mem_of_getElem? (i := 15) rfl)) (by omega) (zp_r0 (by omega) (by omega)) ?_
    refine zp_add (n := (900 * (i : Int) + 180)) (pc := 26) hx hb (zd_X12_tells (26, .iadd, 1, 0, []) (List.mem_of_getElem? (i := 16) rfl)) (by omega) (zp_r0 (by omega) (by omega)) ?_
    refine zp_putf (pc := 27) hx hb hE hw heff (zd_X12_tells (27, .putfield 391, 3, 0, []) (List.mem_of_getElem? (i := 17) rfl)) (j := 52) rfl rfl rfl hp (zp_o0 (by omega) (by omega) (by omega) (by omega)) ?_
    refine zp_load (pc := 30) hx hb (zd_X12_tells (30, .aload_n 0, 1, 0, []) (List.mem_of_getElem? (i := 18) rfl)) rfl (j := 0) rfl ?_
    refine zp_getf (n := (b35 : Int)) (pc := 31) hx hb hE hw (zd_X12_tells (31, .getfield 101, 3, 0, []) (List.mem_of_getElem? (i := 19) rfl)) (j := 53) rfl rfl rfl hp ((zp_set_ne (Or.inr (by decide))).trans (g35)) ?_
    refine zp_const (pc := 34) hx hb (zd_X12_tells (34, .bipush 7, 2, 0, []) (List.mem_of_getElem? (i := 20) rfl)) rfl rfl ?_
    refine zp_load (pc := 36) hx hb (zd_X12_tells (36, .aload_n 0, 1, 0, []) (List.mem_of_getElem? (i := 21) rfl)) rfl (j := 0) rfl ?_
    refine zp_getf (n := (b3 : Int)) (pc := 37) hx hb hE hw (zd_X12_tells (37, .getfield 13, 3, 0, []) (List.mem_of_getElem? (i := 22) rfl)) (j := 21) rfl rfl rfl hp ((zp_set_ne (Or.inr (by decide))).trans (g3)) ?_
    refine zp_const (pc := 40) hx hb (zd_X12_tells (40, .bipush 8, 2, 0, []) (List.mem_of_getElem? (i := 23) rfl)) rfl rfl ?_
    refine zp_ialdT (j := 8) (v := (R 8)) (pc := 42) hx hb hw (zd_X12_tells (42, .iaload, 1, 0, []) (List.mem_of_getElem? (i := 24) rfl)) zl_T59 rfl (zl_kd 8) q3 (by omega) (show 8 < 5580 by omega) ((zp_set_ne (Or.inl (zp_pne q3 hp (by decide)))).trans ((gR 8))) (fun hk76 => ?_)
    have hk76b := zp_int (show zk_ok u.1 (0, 0, 0, 9999) (R 8) from hk76)
    refine zp_i2l (pc := 43) hx hb (zd_X12_tells (43, .i2l, 1, 0, []) (List.mem_of_getElem? (i := 25) rfl)) ?_
    refine zp_lasi (j := 7) (pc := 44) hx hb hw heff (zd_X12_tells (44, .lastore, 1, 0, []) (List.mem_of_getElem? (i := 26) rfl)) (show zp_ia 2 75 = some (13, 1, 0, (-2147483648), 2147483647) from rfl) q35 (by omega) (by omega) (by omega) rfl ?_
    refine zp_load (pc := 45) hx hb (zd_X12_tells (45, .aload_n 0, 1, 0, []) (List.mem_of_getElem? (i := 27) rfl)) rfl (j := 0) rfl ?_
    refine zp_getf (n := (b35 : Int)) (pc := 46) hx hb hE hw (zd_X12_tells (46, .getfield 101, 3, 0, []) (List.mem_of_getElem? (i := 28) rfl)) (j := 53) rfl rfl rfl hp ((zp_set_ne (Or.inl (zp_pne hp q35 (by decide)))).trans ((zp_set_ne (Or.inr (by decide))).trans (g35))) ?_
    refine zp_const (pc := 49) hx hb (zd_X12_tells (49, .bipush 8, 2, 0, []) (List.mem_of_getElem? (i := 29) rfl)) rfl rfl ?_
    refine zp_load (pc := 51) hx hb (zd_X12_tells (51, .aload_n 0, 1, 0, []) (List.mem_of_getElem? (i := 30) rfl)) rfl (j := 0) rfl ?_
    refine zp_call (pc := 52) (how := 0) (idx := 411) (mi := 241) (S := [(0, 8), (2, (b35 : Int))]) hx hb hE hw heff hrm (zX_tdy hW b3) rfl (j := 41) rfl rfl (by decide +kernel) (zd_X12_tells (52, .invokevirtual 411, 3, 0, []) (List.mem_of_getElem? (i := 31) rfl)) [(a : Int)] rfl ⟨zp_o2 hp, trivial⟩ (Nat.le_of_ble_eq_true rfl) ⟨((zp_set_ne (Or.inl (zp_pne hp q35 (by decide)))).trans ((zp_set_ne (Or.inr (by decide))).trans (g3))), q3⟩ (fun al hal rny Py Gy hexty hfry hoky hcsy hpsiy => ?_)
    obtain rfl := List.mem_singleton.mp hal
    have hry := zp_int (hoky _ rfl).1
    obtain ⟨hPy, hGy, hty⟩ := hpsiy
    have hty : rny = R 5 := Eq.trans hty (((zp_set_ne (Or.inl (zp_pne q3 q35 (by decide)))).trans ((zp_set_ne (Or.inl (zp_pne q3 hp (by decide)))).trans ((gR 5)))))
    rw [hPy, hGy]
    refine zp_i2l (pc := 55) hx hb (zd_X12_tells (55, .i2l, 1, 0, []) (List.mem_of_getElem? (i := 32) rfl)) ?_
    refine zp_lasi (j := 8) (pc := 56) hx hb hw heff (zd_X12_tells (56, .lastore, 1, 0, []) (List.mem_of_getElem? (i := 33) rfl)) (show zp_ia 2 75 = some (13, 1, 0, (-2147483648), 2147483647) from rfl) q35 (by omega) (by omega) (by omega) rfl ?_
    refine zp_load (pc := 57) hx hb (zd_X12_tells (57, .aload_n 0, 1, 0, []) (List.mem_of_getElem? (i := 34) rfl)) rfl (j := 0) rfl ?_
    refine zp_getf (n := (b35 : Int)) (pc := 58) hx hb hE hw (zd_X12_tells (58, .getfield 101, 3, 0, []) (List.mem_of_getElem? (i := 35) rfl)) (j := 53) rfl rfl rfl hp ((zp_set_ne (Or.inl (zp_pne hp q35 (by decide)))).trans ((zp_set_ne (Or.inl (zp_pne hp q35 (by decide)))).trans ((zp_set_ne (Or.inr (by decide))).trans (g35)))) ?_
    refine zp_const (pc := 61) hx hb (zd_X12_tells (61, .bipush 9, 2, 0, []) (List.mem_of_getElem? (i := 36) rfl)) rfl rfl ?_
    refine zp_load (pc := 63) hx hb (zd_X12_tells (63, .aload_n 0, 1, 0, []) (List.mem_of_getElem? (i := 37) rfl)) rfl (j := 0) rfl ?_
    refine zp_getf (n := (b3 : Int)) (pc := 64) hx hb hE hw (zd_X12_tells (64, .getfield 13, 3, 0, []) (List.mem_of_getElem? (i := 38) rfl)) (j := 21) rfl rfl rfl hp ((zp_set_ne (Or.inl (zp_pne hp q35 (by decide)))).trans ((zp_set_ne (Or.inl (zp_pne hp q35 (by decide)))).trans ((zp_set_ne (Or.inr (by decide))).trans (g3)))) ?_
    refine zp_const (pc := 67) hx hb (zd_X12_tells (67, .bipush 7, 2, 0, []) (List.mem_of_getElem? (i := 39) rfl)) rfl rfl ?_
    refine zp_ialdT (j := 7) (v := (R 7)) (pc := 69) hx hb hw (zd_X12_tells (69, .iaload, 1, 0, []) (List.mem_of_getElem? (i := 40) rfl)) zl_T59 rfl (zl_kd 7) q3 (by omega) (show 7 < 5580 by omega) ((zp_set_ne (Or.inl (zp_pne q3 q35 (by decide)))).trans ((zp_set_ne (Or.inl (zp_pne q3 q35 (by decide)))).trans ((zp_set_ne (Or.inl (zp_pne q3 hp (by decide)))).trans ((gR 7))))) (fun hk77 => ?_)
    have hk77b := zp_int (show zk_ok u.1 (0, 0, (-2147483648), 2147483647) (R 7) from hk77)
    refine zp_i2l (pc := 70) hx hb (zd_X12_tells (70, .i2l, 1, 0, []) (List.mem_of_getElem? (i := 41) rfl)) ?_
    refine zp_lasi (j := 9) (pc := 71) hx hb hw heff (zd_X12_tells (71, .lastore, 1, 0, []) (List.mem_of_getElem? (i := 42) rfl)) (show zp_ia 2 75 = some (13, 1, 0, (-2147483648), 2147483647) from rfl) q35 (by omega) (by omega) (by omega) rfl ?_
    refine zp_load (pc := 72) hx hb (zd_X12_tells (72, .lload_n 2, 1, 0, []) (List.mem_of_getElem? (i := 43) rfl)) rfl (j := 2) rfl ?_
    refine zp_store (L' := [(4, 1, p2), (0, 2, (a : Int)), (1, 0, p1), (2, 1, p2)]) (pc := 73) hx hb hnL (zd_X12_tells (73, .lstore 4, 2, 0, []) (List.mem_of_getElem? (i := 44) rfl)) rfl rfl rfl ?_
    refine zp_const (pc := 75) hx hb (zd_X12_tells (75, .iconst 0, 1, 0, []) (List.mem_of_getElem? (i := 45) rfl)) rfl rfl ?_
    refine zp_store (L' := [(6, 0, 0), (4, 1, p2), (0, 2, (a : Int)), (1, 0, p1), (2, 1, p2)]) (pc := 76) hx hb hnL (zd_X12_tells (76, .istore 6, 2, 0, []) (List.mem_of_getElem? (i := 46) rfl)) rfl rfl rfl ?_
    refine zp_drop (L' := [(6, 0, 0), (4, 1, p2), (0, 2, (a : Int)), (1, 0, p1), (2, 1, p2)]) (by simp) ?_
    refine loop (M.length + 1) 0 p2 _ (by omega) (Nat.zero_le _) ⟨((zp_set_ne (Or.inl (zp_pne hp q35 (by decide)))).trans ((zp_set_ne (Or.inl (zp_pne hp q35 (by decide)))).trans ((zp_set_ne (Or.inl (zp_pne hp q35 (by decide)))).trans ((zp_set_ne (Or.inr (by decide))).trans (g20))))), ((zp_set_ne (Or.inl (zp_pne hp q35 (by decide)))).trans ((zp_set_ne (Or.inl (zp_pne hp q35 (by decide)))).trans ((zp_set_ne (Or.inl (zp_pne hp q35 (by decide)))).trans ((zp_set_ne (Or.inr (by decide))).trans (g3))))), (((zp_set_ne (Or.inl (zp_pne hp q35 (by decide)))).trans ((zp_set_ne (Or.inl (zp_pne hp q35 (by decide)))).trans ((zp_set_ne (Or.inl (zp_pne hp q35 (by decide)))).trans (zp_set_self))))).trans (by omega), ((zp_set_ne (Or.inl (zp_pne hp q35 (by decide)))).trans ((zp_set_ne (Or.inl (zp_pne hp q35 (by decide)))).trans ((zp_set_ne (Or.inl (zp_pne hp q35 (by decide)))).trans ((zp_set_ne (Or.inr (by decide))).trans (g35))))), ((zp_set_ne (Or.inl (zp_pne hp q35 (by decide)))).trans ((zp_set_ne (Or.inl (zp_pne hp q35 (by decide)))).trans ((zp_set_ne (Or.inl (zp_pne hp q35 (by decide)))).trans ((zp_set_ne (Or.inr (by decide))).trans (g37))))), fun j => ?_, fun j => ?_⟩ hr2 (by rw [List.take_zero]; exact zg_bs0)
    · exact (zp_set_ne (Or.inl n335)).trans ((zp_set_ne (Or.inl n335)).trans ((zp_set_ne (Or.inl n335)).trans ((zp_set_ne (Or.inl n3)).trans (gR j))))
    · rw [hS9]
      unfold zg_st
      by_cases h9 : j = 9
      · rw [if_pos h9, h9]
        exact zp_set_self
      · rw [if_neg h9]
        by_cases h8 : j = 8
        · rw [if_pos h8, h8, ← hty]
          exact (zp_set_ne (Or.inr (by decide))).trans zp_set_self
        · rw [if_neg h8]
          by_cases h7 : j = 7
          · rw [if_pos h7, h7]
            exact (zp_set_ne (Or.inr (by decide))).trans ((zp_set_ne (Or.inr (by decide))).trans zp_set_self)
          · rw [if_neg h7]
            exact (zp_set_ne (Or.inr (by omega))).trans ((zp_set_ne (Or.inr (by omega))).trans ((zp_set_ne (Or.inr (by omega))).trans ((zp_set_ne (Or.inl n35.symm)).trans (gS j))))
  · exfalso
    omega
