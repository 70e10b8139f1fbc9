/-! part g2: the reference: reckonAll by a law of the row, exactly -/
section ZG2S
variable {p : Program} {l : Launch} {e : Env} {R : Room} {s : State} {m : MethodId} {args : Array Value} {below : List Frame} {meth : Method} {c : Code} {Q : State → Prop}
variable {cc : ByteArray} {w : zk_W} {u : zk_M} {Ts : List Jvm.Cond} {own : String}
/-- what stands on the stack is within its kind -/
theorem zp_skx {xs : List Nat} {pc : Nat} {L : List (Nat × Nat × Int)} {S : List (Nat × Int)} {P : Nat → Option Nat} {G : Nat → Nat → Int} {k : Nat} {v : Int} (kk : zp_k (k, v) → zp_J p l e R s m args below meth c Q w u xs pc L ((k, v) :: S) P G) : zp_J p l e R s m args below meth c Q w u xs pc L ((k, v) :: S) P G := fun F H locs ls hF hI hL hkL hkS => kk (hkS _ List.mem_cons_self) F H locs ls hF hI hL hkL hkS
end ZG2S
/-- what words are worth in a law -/
noncomputable def zg_en (St : Nat → Int) : Int → Int → Int := fun o a => if o = 0 then a else St o.toNat
/-- a law's code in the row -/
noncomputable def zg_op (R : Nat → Int) (L : Nat) : Nat → Int := fun q => R (L + 2 * q + 98)
noncomputable def zg_ar (R : Nat → Int) (L : Nat) : Nat → Int := fun q => R (L + 2 * q + 99)
/-- what stays while a sum is reckoned -/
noncomputable def zgR (a b3 b35 b37 L : Nat) (R St : Nat → Int) (G : Nat → Nat → Int) : Prop := G a 20 = 0 ∧ G a 3 = (b3 : Int) ∧ G a 34 = (L : Int) ∧ G a 35 = (b35 : Int) ∧ G a 37 = (b37 : Int) ∧ (∀ j, G b3 (2000 + j) = R j) ∧ ∀ j, G b35 (2000 + j) = St j
theorem zgR_a {a b3 b35 b37 L k : Nat} {R St : Nat → Int} {v : Int} {G : Nat → Nat → Int} (h : zgR a b3 b35 b37 L R St G) (h3 : b3 ≠ a) (h35 : b35 ≠ a) (hk : k = 38 ∨ k = 39) : zgR a b3 b35 b37 L R St (zp_set G a k v) := by
  obtain ⟨m1, m2, m3, m4, m5, m6, m7⟩ := h
  exact ⟨(zp_set_ne (Or.inr (by omega))).trans m1, (zp_set_ne (Or.inr (by omega))).trans m2, (zp_set_ne (Or.inr (by omega))).trans m3, (zp_set_ne (Or.inr (by omega))).trans m4, (zp_set_ne (Or.inr (by omega))).trans m5, fun j => (zp_set_ne (Or.inl h3)).trans (m6 j), fun j => (zp_set_ne (Or.inl h35)).trans (m7 j)⟩
theorem zgR_b {a b3 b35 b37 L k : Nat} {R St : Nat → Int} {v : Int} {G : Nat → Nat → Int} (h : zgR a b3 b35 b37 L R St G) (ha : a ≠ b37) (h3 : b3 ≠ b37) (h35 : b35 ≠ b37) : zgR a b3 b35 b37 L R St (zp_set G b37 k v) := by
  obtain ⟨m1, m2, m3, m4, m5, m6, m7⟩ := h
  exact ⟨(zp_set_ne (Or.inl ha)).trans m1, (zp_set_ne (Or.inl ha)).trans m2, (zp_set_ne (Or.inl ha)).trans m3, (zp_set_ne (Or.inl ha)).trans m4, (zp_set_ne (Or.inl ha)).trans m5, fun j => (zp_set_ne (Or.inl h3)).trans (m6 j), fun j => (zp_set_ne (Or.inl h35)).trans (m7 j)⟩
theorem zgR_f {a b3 b35 b37 L : Nat} {R St : Nat → Int} {G G' : Nat → Nat → Int} {P : Nat → Option Nat} {eff : List (Nat × Nat × Nat)} {ps : List Int} (h : zgR a b3 b35 b37 L R St G) (ha : P a = some 13) (h3 : P b3 = some 59) (h35 : P b35 = some 75) (hfr : zp_fr eff ps P G G') (he : (zp_nfb eff 13 20 && (zp_nfb eff 13 3 && (zp_nfb eff 13 34 && (zp_nfb eff 13 35 && (zp_nfb eff 13 37 && (zp_ncb eff 59 && zp_ncb eff 75)))))) = true) : zgR a b3 b35 b37 L R St G' := by
  simp only [Bool.and_eq_true] at he
  obtain ⟨e1, e2, e3, e4, e5, e6, e7⟩ := he
  obtain ⟨m1, m2, m3, m4, m5, m6, m7⟩ := h
  exact ⟨(zp_nf hfr ha e1).trans m1, (zp_nf hfr ha e2).trans m2, (zp_nf hfr ha e3).trans m3, (zp_nf hfr ha e4).trans m4, (zp_nf hfr ha e5).trans m5, fun j => (zp_nc hfr h3 e6 _).trans (m6 j), fun j => (zp_nc hfr h35 e7 _).trans (m7 j)⟩
/-- what comes of reckon, as one -/
theorem zg_bn {oq : Nat} {v1 v2 rn g : Int} (h1 : ((oq : Int) = 23 ∨ (oq : Int) = 24) ∧ v2 = 0 → g = 1 ∧ rn = 0) (h2 : ¬ (((oq : Int) = 23 ∨ (oq : Int) = 24) ∧ v2 = 0) → rn = yd_v oq v1 v2 ∧ g = if (oq : Int) = 23 ∨ (oq : Int) = 24 then 0 else 0) : (yd_bn oq v1 v2 = some rn ∧ g = 0 ∧ -1000000000 ≤ rn ∧ rn ≤ 1000000000) ∨ (yd_bn oq v1 v2 = none ∧ (g = 1 ∨ (g = 0 ∧ ¬ (-1000000000 ≤ rn ∧ rn ≤ 1000000000)))) := by
  unfold yd_bn
  by_cases h : ((oq : Int) = 23 ∨ (oq : Int) = 24) ∧ v2 = 0
  · rw [if_pos h]
    exact Or.inr ⟨rfl, Or.inl (h1 h).1⟩
  · rw [if_neg h]
    obtain ⟨e1, e2⟩ := h2 h
    have e2 : g = 0 := by
      rw [e2]
      split <;> rfl
    rw [← e1]
    by_cases hb : -1000000000 ≤ rn ∧ rn ≤ 1000000000
    · rw [if_pos hb]
      exact Or.inl ⟨rfl, e2, hb.1, hb.2⟩
    · rw [if_neg hb]
      exact Or.inr ⟨rfl, Or.inr ⟨e2, hb⟩⟩
theorem zg_bnr {o a b v : Int} (h : yd_bn o a b = some v) : -1000000000 ≤ v ∧ v ≤ 1000000000 := by
  unfold yd_bn at h
  split at h
  · cases h
  · split at h
    · rename_i hb
      have := Option.some.inj h
      omega
    · cases h
noncomputable def zK_ra0 : zk_K := (zt_mn 243, prog_14_method_65_code, 7, (Option.none : Option Jvm.ClassFile.FieldType), 1, 12, [(2, 13, 0, 0), (0, 0, 0, 400), (0, 0, 0, 400)], [(none, [])], [(13, 38, 0), (13, 39, 0), (77, 1001, 0)], (1, 60, 0, 0))
noncomputable def zφ_ra0 (b3 b35 b37 L f k : Nat) (R St : Nat → Int) (x : yD) : (Nat → Option Nat) → (Nat → Nat → Int) → List Int → Prop := fun P G ps => zgR (zp_0 ps) b3 b35 b37 L R St G ∧ P b3 = some 59 ∧ P b35 = some 75 ∧ P b37 = some 77 ∧ L ≤ 4680 ∧ (∀ j, j < 5580 → -2147483648 ≤ R j ∧ R j ≤ 2147483647) ∧ (∀ j, j < 13 → -2147483648 ≤ St j ∧ St j ≤ 2147483648) ∧ yE (zg_op R L) (zg_ar R L) f (ps.getD 1 0).toNat (ps.getD 2 0).toNat k x ∧ k ≤ 400
noncomputable def zψ_ra0 (b3 b35 b37 L f k : Nat) (R St : Nat → Int) (x : yD) : (Nat → Option Nat) → (Nat → Nat → Int) → List Int → (Nat → Option Nat) → (Nat → Nat → Int) → Int → Prop := fun P G ps P' G' rn => P' = P ∧ (∀ v, x (zg_en St) = some v → (-2147483648 ≤ v ∧ v ≤ 2147483648) ∧ G' (zp_0 ps) 38 = 0 ∧ G' (zp_0 ps) 39 = v) ∧ (x (zg_en St) = none → G' (zp_0 ps) 38 = 1)
set_option maxHeartbeats 4000000 in
theorem zX_ra0 {l : Launch} {w : zk_W} (hW : zh_W w) (b3 b35 b37 L f k : Nat) (R St : Nat → Int) (x : yD) : zk_metX l w zt_dv zt_TB zK_ra0 (zp_A (zφ_ra0 b3 b35 b37 L f k R St x)) (zp_B (zψ_ra0 b3 b35 b37 L f k R St x)) ∧ zk_cok w zt_TB zK_ra0 := by
  refine zp_methX (cn := "WoundTownModel") zp_lkall hW (pl := 1821) rfl (by decide +kernel) (fun p e Rm s m args below meth c Q u hx hb hE hQ hU5 heff hnL hok hφ => ?_)
  have hw := hW.1
  obtain ⟨p0, p1, p2, hps, k0, k1, k2⟩ := zp_ps3 hok
  obtain ⟨a, rfl, hp⟩ := zp_this k0
  have hrm : zk_Kr (zk_ev (zt_types, zp_lk, zt_dv, [], [], zp_lc, zK_ra0)) = zk_Kr zK_ra0 := rfl
  rw [hps] at hφ ⊢
  have hi1 := zp_int k1
  have hi2 := zp_int k2
  have hφ : zgR a b3 b35 b37 L R St (zp_n u.2.1) ∧ u.1 b3 = some 59 ∧ u.1 b35 = some 75 ∧ u.1 b37 = some 77 ∧ L ≤ 4680 ∧ (∀ j, j < 5580 → -2147483648 ≤ R j ∧ R j ≤ 2147483647) ∧ (∀ j, j < 13 → -2147483648 ≤ St j ∧ St j ≤ 2147483648) ∧ yE (zg_op R L) (zg_ar R L) f p1.toNat p2.toNat k x ∧ k ≤ 400 := hφ
  obtain ⟨hm0, q3, q35, q37, hL, hR, hSt, hE0, hk400⟩ := hφ
  obtain ⟨i1, rfl⟩ := zp_nat hi1.1
  obtain ⟨i2, rfl⟩ := zp_nat hi2.1
  rw [Int.toNat_natCast, Int.toNat_natCast] at hE0
  have n3 : b3 ≠ a := zp_pne q3 hp (by decide)
  have n35 : b35 ≠ a := zp_pne q35 hp (by decide)
  have n37 : a ≠ b37 := zp_pne hp q37 (by decide)
  have n337 : b3 ≠ b37 := zp_pne q3 q37 (by decide)
  have n3537 : b35 ≠ b37 := zp_pne q35 q37 (by decide)
  have step_lf : ∀ (b d : Nat) (G : Nat → Nat → Int), b < i2 → d < 400 → zgR a b3 b35 b37 L R St G → G a 38 = 0 → 0 ≤ zg_op R L b → zg_op R L b ≤ 12 → (∀ G' : Nat → Nat → Int, zgR a b3 b35 b37 L R St G' → G' a 38 = 0 → (∀ j, j < d → G' b37 (2000 + j) = G b37 (2000 + j)) → G' b37 (2000 + d) = zg_en St (zg_op R L b) (zg_ar R L b) → zp_J p l e Rm s m args below meth c Q w u [] 10 [(3, 0, ((d + 1 : Nat) : Int)), (4, 0, ((b + 1 : Nat) : Int)), (0, 2, (a : Int)), (1, 0, (i1 : Int)), (2, 0, (i2 : Int))] [] u.1 G') → zp_J p l e Rm s m args below meth c Q w u [] 10 [(3, 0, ((d : Nat) : Int)), (4, 0, ((b : Nat) : Int)), (0, 2, (a : Int)), (1, 0, (i1 : Int)), (2, 0, (i2 : Int))] [] u.1 G := by
    intro b d G hb2 hd hm h38 o1 o2 kk
    obtain ⟨oq, hoq⟩ : ∃ oq : Nat, zg_op R L b = (oq : Int) := zp_nat o1
    have ho3 : R (L + 2 * b + 98) = (oq : Int) := hoq
    rw [hoq] at o2
    skip
    have hbr := hR (L + 2 * b + 99) (by omega)
    refine zp_load (pc := 10) hx hb (zd_X12_reckonAll (10, .iload 4, 2, 0, []) (List.mem_of_getElem? (i := 7) rfl)) rfl (j := 1) rfl ?_
    refine zp_load (pc := 12) hx hb (zd_X12_reckonAll (12, .iload_n 2, 1, 0, []) (List.mem_of_getElem? (i := 8) rfl)) rfl (j := 4) rfl ?_
    refine zp_icmp (pc := 13) (tgt := 371) hx hb (zd_X12_reckonAll (13, .if_icmp .ge 358, 3, 0, []) (List.mem_of_getElem? (i := 9) rfl)) rfl (fun (hc21 : (i2 : Int) ≤ (b : Int)) => ?_) (fun (hc21 : ¬ ((i2 : Int) ≤ (b : Int))) => ?_)
    · exfalso
      omega
    · refine zp_load (pc := 16) hx hb (zd_X12_reckonAll (16, .aload_n 0, 1, 0, []) (List.mem_of_getElem? (i := 10) rfl)) rfl (j := 2) rfl ?_
      refine zp_getf (n := 0) (pc := 17) hx hb hE hw (zd_X12_reckonAll (17, .getfield 388, 3, 0, []) (List.mem_of_getElem? (i := 11) rfl)) (j := 56) rfl rfl rfl hp h38 ?_
      refine zp_if (pc := 20) (tgt := 371) hx hb (zd_X12_reckonAll (20, .ifCond .ne 351, 3, 0, []) (List.mem_of_getElem? (i := 12) rfl)) rfl (fun (hc22 : ¬ 0 = 0) => ?_) (fun (hc22 : ¬ (¬ 0 = 0)) => ?_)
      · exfalso
        omega
      · refine zp_load (pc := 23) hx hb (zd_X12_reckonAll (23, .aload_n 0, 1, 0, []) (List.mem_of_getElem? (i := 13) rfl)) rfl (j := 2) rfl ?_
        refine zp_getf (n := 0) (pc := 24) hx hb hE hw (zd_X12_reckonAll (24, .getfield 319, 3, 0, []) (List.mem_of_getElem? (i := 14) rfl)) (j := 38) rfl rfl rfl hp hm.1 ?_
        refine zp_if (pc := 27) (tgt := 40) hx hb (zd_X12_reckonAll (27, .ifCond .eq 13, 3, 0, []) (List.mem_of_getElem? (i := 15) rfl)) rfl (fun (hc23 : 0 = 0) => ?_) (fun (hc23 : ¬ (0 = 0)) => ?_)
        · refine zp_load (pc := 40) hx hb (zd_X12_reckonAll (40, .aload_n 0, 1, 0, []) (List.mem_of_getElem? (i := 21) rfl)) rfl (j := 2) rfl ?_
          refine zp_getf (n := (b3 : Int)) (pc := 41) hx hb hE hw (zd_X12_reckonAll (41, .getfield 13, 3, 0, []) (List.mem_of_getElem? (i := 22) rfl)) (j := 21) rfl rfl rfl hp hm.2.1 ?_
          refine zp_load (pc := 44) hx hb (zd_X12_reckonAll (44, .aload_n 0, 1, 0, []) (List.mem_of_getElem? (i := 23) rfl)) rfl (j := 2) rfl ?_
          refine zp_getf (n := (L : Int)) (pc := 45) hx hb hE hw (zd_X12_reckonAll (45, .getfield 391, 3, 0, []) (List.mem_of_getElem? (i := 24) rfl)) (j := 52) rfl rfl rfl hp hm.2.2.1 ?_
          refine zp_const (pc := 48) hx hb (zd_X12_reckonAll (48, .bipush 98, 2, 0, []) (List.mem_of_getElem? (i := 25) rfl)) rfl rfl ?_
          refine zp_add (n := ((L : Int) + 98)) (pc := 50) hx hb (zd_X12_reckonAll (50, .iadd, 1, 0, []) (List.mem_of_getElem? (i := 26) rfl)) (by omega) (zp_r0 (by omega) (by omega)) ?_
          refine zp_const (pc := 51) hx hb (zd_X12_reckonAll (51, .iconst 2, 1, 0, []) (List.mem_of_getElem? (i := 27) rfl)) rfl rfl ?_
          refine zp_load (pc := 52) hx hb (zd_X12_reckonAll (52, .iload 4, 2, 0, []) (List.mem_of_getElem? (i := 28) rfl)) rfl (j := 1) rfl ?_
          refine zp_mul (n := (2 * (b : Int))) (pc := 54) hx hb (zd_X12_reckonAll (54, .imul, 1, 0, []) (List.mem_of_getElem? (i := 29) rfl)) (by omega) (zp_r0 (by omega) (by omega)) ?_
          refine zp_add (n := ((L : Int) + 2 * (b : Int) + 98)) (pc := 55) hx hb (zd_X12_reckonAll (55, .iadd, 1, 0, []) (List.mem_of_getElem? (i := 30) rfl)) (by omega) (zp_r0 (by omega) (by omega)) ?_
          refine zp_ialdT (j := (L + 2 * b + 98)) (v := (oq : Int)) (pc := 56) hx hb hw (zd_X12_reckonAll (56, .iaload, 1, 0, []) (List.mem_of_getElem? (i := 31) rfl)) zl_T59 rfl (zl_kd ((L + 2 * b + 98))) q3 (by omega) (show (L + 2 * b + 98) < 5580 by omega) ((hm.2.2.2.2.2.1 _).trans ho3) (fun hk24 => ?_)
          refine zp_store (L' := [(5, 0, (oq : Int)), (3, 0, (d : Int)), (4, 0, (b : Int)), (0, 2, (a : Int)), (1, 0, (i1 : Int)), (2, 0, (i2 : Int))]) (pc := 57) hx hb hnL (zd_X12_reckonAll (57, .istore 5, 2, 0, []) (List.mem_of_getElem? (i := 32) rfl)) rfl rfl rfl ?_
          refine zp_load (pc := 59) hx hb (zd_X12_reckonAll (59, .aload_n 0, 1, 0, []) (List.mem_of_getElem? (i := 33) rfl)) rfl (j := 3) rfl ?_
          refine zp_getf (n := 0) (pc := 60) hx hb hE hw (zd_X12_reckonAll (60, .getfield 319, 3, 0, []) (List.mem_of_getElem? (i := 34) rfl)) (j := 38) rfl rfl rfl hp hm.1 ?_
          refine zp_if (pc := 63) (tgt := 76) hx hb (zd_X12_reckonAll (63, .ifCond .eq 13, 3, 0, []) (List.mem_of_getElem? (i := 35) rfl)) rfl (fun (hc25 : 0 = 0) => ?_) (fun (hc25 : ¬ (0 = 0)) => ?_)
          · refine zp_load (pc := 76) hx hb (zd_X12_reckonAll (76, .aload_n 0, 1, 0, []) (List.mem_of_getElem? (i := 41) rfl)) rfl (j := 3) rfl ?_
            refine zp_getf (n := (b3 : Int)) (pc := 77) hx hb hE hw (zd_X12_reckonAll (77, .getfield 13, 3, 0, []) (List.mem_of_getElem? (i := 42) rfl)) (j := 21) rfl rfl rfl hp hm.2.1 ?_
            refine zp_load (pc := 80) hx hb (zd_X12_reckonAll (80, .aload_n 0, 1, 0, []) (List.mem_of_getElem? (i := 43) rfl)) rfl (j := 3) rfl ?_
            refine zp_getf (n := (L : Int)) (pc := 81) hx hb hE hw (zd_X12_reckonAll (81, .getfield 391, 3, 0, []) (List.mem_of_getElem? (i := 44) rfl)) (j := 52) rfl rfl rfl hp hm.2.2.1 ?_
            refine zp_const (pc := 84) hx hb (zd_X12_reckonAll (84, .bipush 98, 2, 0, []) (List.mem_of_getElem? (i := 45) rfl)) rfl rfl ?_
            refine zp_add (n := ((L : Int) + 98)) (pc := 86) hx hb (zd_X12_reckonAll (86, .iadd, 1, 0, []) (List.mem_of_getElem? (i := 46) rfl)) (by omega) (zp_r0 (by omega) (by omega)) ?_
            refine zp_const (pc := 87) hx hb (zd_X12_reckonAll (87, .iconst 2, 1, 0, []) (List.mem_of_getElem? (i := 47) rfl)) rfl rfl ?_
            refine zp_load (pc := 88) hx hb (zd_X12_reckonAll (88, .iload 4, 2, 0, []) (List.mem_of_getElem? (i := 48) rfl)) rfl (j := 2) rfl ?_
            refine zp_mul (n := (2 * (b : Int))) (pc := 90) hx hb (zd_X12_reckonAll (90, .imul, 1, 0, []) (List.mem_of_getElem? (i := 49) rfl)) (by omega) (zp_r0 (by omega) (by omega)) ?_
            refine zp_add (n := ((L : Int) + 2 * (b : Int) + 98)) (pc := 91) hx hb (zd_X12_reckonAll (91, .iadd, 1, 0, []) (List.mem_of_getElem? (i := 50) rfl)) (by omega) (zp_r0 (by omega) (by omega)) ?_
            refine zp_const (pc := 92) hx hb (zd_X12_reckonAll (92, .iconst 1, 1, 0, []) (List.mem_of_getElem? (i := 51) rfl)) rfl rfl ?_
            refine zp_add (n := ((L : Int) + 2 * (b : Int) + 99)) (pc := 93) hx hb (zd_X12_reckonAll (93, .iadd, 1, 0, []) (List.mem_of_getElem? (i := 52) rfl)) (by omega) (zp_r0 (by omega) (by omega)) ?_
            refine zp_ialdT (j := (L + 2 * b + 99)) (v := (R (L + 2 * b + 99))) (pc := 94) hx hb hw (zd_X12_reckonAll (94, .iaload, 1, 0, []) (List.mem_of_getElem? (i := 53) rfl)) zl_T59 rfl (zl_kd ((L + 2 * b + 99))) q3 (by omega) (show (L + 2 * b + 99) < 5580 by omega) (hm.2.2.2.2.2.1 _) (fun hk26 => ?_)
            refine zp_store (L' := [(6, 0, (R (L + 2 * b + 99))), (5, 0, (oq : Int)), (3, 0, (d : Int)), (4, 0, (b : Int)), (0, 2, (a : Int)), (1, 0, (i1 : Int)), (2, 0, (i2 : Int))]) (pc := 95) hx hb hnL (zd_X12_reckonAll (95, .istore 6, 2, 0, []) (List.mem_of_getElem? (i := 54) rfl)) rfl rfl rfl ?_
            refine zp_iinc (L' := [(4, 0, ((b : Int) + 1)), (6, 0, (R (L + 2 * b + 99))), (5, 0, (oq : Int)), (3, 0, (d : Int)), (0, 2, (a : Int)), (1, 0, (i1 : Int)), (2, 0, (i2 : Int))]) (n := ((b : Int) + 1)) (pc := 97) hx hb hnL (zd_X12_reckonAll (97, .iinc 4 1, 3, 0, []) (List.mem_of_getElem? (i := 55) rfl)) (j := 3) rfl (by omega) (zp_r0 (by omega) (by omega)) rfl rfl ?_
            refine zp_load (pc := 100) hx hb (zd_X12_reckonAll (100, .iload 5, 2, 0, []) (List.mem_of_getElem? (i := 56) rfl)) rfl (j := 2) rfl ?_
            refine zp_const (pc := 102) hx hb (zd_X12_reckonAll (102, .bipush 20, 2, 0, []) (List.mem_of_getElem? (i := 57) rfl)) rfl rfl ?_
            refine zp_icmp (pc := 104) (tgt := 229) hx hb (zd_X12_reckonAll (104, .if_icmp .ge 125, 3, 0, []) (List.mem_of_getElem? (i := 58) rfl)) rfl (fun (hc27 : 20 ≤ (oq : Int)) => ?_) (fun (hc27 : ¬ (20 ≤ (oq : Int))) => ?_)
            · exfalso
              omega
            · refine zp_load (pc := 107) hx hb (zd_X12_reckonAll (107, .aload_n 0, 1, 0, []) (List.mem_of_getElem? (i := 59) rfl)) rfl (j := 4) rfl ?_
              refine zp_getf (n := (b37 : Int)) (pc := 108) hx hb hE hw (zd_X12_reckonAll (108, .getfield 107, 3, 0, []) (List.mem_of_getElem? (i := 60) rfl)) (j := 55) rfl rfl rfl hp hm.2.2.2.2.1 ?_
              refine zp_load (pc := 111) hx hb (zd_X12_reckonAll (111, .iload_n 3, 1, 0, []) (List.mem_of_getElem? (i := 61) rfl)) rfl (j := 3) rfl ?_
              refine zp_load (pc := 112) hx hb (zd_X12_reckonAll (112, .iload 5, 2, 0, []) (List.mem_of_getElem? (i := 62) rfl)) rfl (j := 2) rfl ?_
              refine zp_if (pc := 114) (tgt := 123) hx hb (zd_X12_reckonAll (114, .ifCond .ne 9, 3, 0, []) (List.mem_of_getElem? (i := 63) rfl)) rfl (fun (hc28 : ¬ (oq : Int) = 0) => ?_) (fun (hc28 : ¬ (¬ (oq : Int) = 0)) => ?_)
              · refine zp_load (pc := 123) hx hb (zd_X12_reckonAll (123, .aload_n 0, 1, 0, []) (List.mem_of_getElem? (i := 67) rfl)) rfl (j := 4) rfl ?_
                refine zp_getf (n := 0) (pc := 124) hx hb hE hw (zd_X12_reckonAll (124, .getfield 319, 3, 0, []) (List.mem_of_getElem? (i := 68) rfl)) (j := 38) rfl rfl rfl hp hm.1 ?_
                refine zp_if (pc := 127) (tgt := 140) hx hb (zd_X12_reckonAll (127, .ifCond .ne 13, 3, 0, []) (List.mem_of_getElem? (i := 69) rfl)) rfl (fun (hc29 : ¬ 0 = 0) => ?_) (fun (hc29 : ¬ (¬ 0 = 0)) => ?_)
                · exfalso
                  omega
                · refine zp_load (pc := 130) hx hb (zd_X12_reckonAll (130, .aload_n 0, 1, 0, []) (List.mem_of_getElem? (i := 70) rfl)) rfl (j := 4) rfl ?_
                  refine zp_getf (n := (b35 : Int)) (pc := 131) hx hb hE hw (zd_X12_reckonAll (131, .getfield 101, 3, 0, []) (List.mem_of_getElem? (i := 71) rfl)) (j := 53) rfl rfl rfl hp hm.2.2.2.1 ?_
                  refine zp_load (pc := 134) hx hb (zd_X12_reckonAll (134, .iload 5, 2, 0, []) (List.mem_of_getElem? (i := 72) rfl)) rfl (j := 2) rfl ?_
                  refine zp_lald (j := oq) (v := (St oq)) (pc := 136) hx hb hw (zd_X12_reckonAll (136, .laload, 1, 0, []) (List.mem_of_getElem? (i := 73) rfl)) (show zp_ia 2 75 = some (13, 1, 0, (-2147483648), 2147483647) from rfl) q35 (by omega) (by omega) (hm.2.2.2.2.2.2 _) ?_
                  refine zp_goto (tgt := 222) (pc := 137) hx hb (zd_X12_reckonAll (137, .goto 85, 3, 0, []) (List.mem_of_getElem? (i := 74) rfl)) rfl ?_
                  refine zp_last (j := d) (pc := 222) hx hb hw heff (zd_X12_reckonAll (222, .lastore, 1, 0, []) (List.mem_of_getElem? (i := 116) rfl)) (show zp_ia 2 77 = some (400, 1, 0, (-9223372036854775808), 9223372036854775807) from rfl) q37 (by omega) (by omega) rfl ?_
                  refine zp_iinc (L' := [(3, 0, ((d : Int) + 1)), (4, 0, ((b : Int) + 1)), (6, 0, (R (L + 2 * b + 99))), (5, 0, (oq : Int)), (0, 2, (a : Int)), (1, 0, (i1 : Int)), (2, 0, (i2 : Int))]) (n := ((d : Int) + 1)) (pc := 223) hx hb hnL (zd_X12_reckonAll (223, .iinc 3 1, 3, 0, []) (List.mem_of_getElem? (i := 117) rfl)) (j := 3) rfl (by omega) (zp_r0 (by omega) (by omega)) rfl rfl ?_
                  refine zp_goto (tgt := 368) (pc := 226) hx hb (zd_X12_reckonAll (226, .goto 142, 3, 0, []) (List.mem_of_getElem? (i := 118) rfl)) rfl ?_
                  refine zp_goto (tgt := 10) (pc := 368) hx hb (zd_X12_reckonAll (368, .goto (-358), 3, 0, []) (List.mem_of_getElem? (i := 197) rfl)) rfl ?_
                  refine zp_drop (L' := [(3, 0, ((d : Int) + 1)), (4, 0, ((b : Int) + 1)), (0, 2, (a : Int)), (1, 0, (i1 : Int)), (2, 0, (i2 : Int))]) (by simp) ?_
                  refine kk _ (zgR_b hm n37 n337 n3537) ((zp_set_ne (Or.inl n37)).trans h38) (fun j hj => zp_set_ne (Or.inr (by omega))) (zp_set_self.trans ?_)
                  rw [hoq]
                  unfold zg_en zg_ar
                  rw [if_neg (by omega), Int.toNat_natCast]
              · refine zp_load (pc := 117) hx hb (zd_X12_reckonAll (117, .iload 6, 2, 0, []) (List.mem_of_getElem? (i := 64) rfl)) rfl (j := 1) rfl ?_
                refine zp_i2l (pc := 119) hx hb (zd_X12_reckonAll (119, .i2l, 1, 0, []) (List.mem_of_getElem? (i := 65) rfl)) ?_
                refine zp_goto (tgt := 222) (pc := 120) hx hb (zd_X12_reckonAll (120, .goto 102, 3, 0, []) (List.mem_of_getElem? (i := 66) rfl)) rfl ?_
                refine zp_last (j := d) (pc := 222) hx hb hw heff (zd_X12_reckonAll (222, .lastore, 1, 0, []) (List.mem_of_getElem? (i := 116) rfl)) (show zp_ia 2 77 = some (400, 1, 0, (-9223372036854775808), 9223372036854775807) from rfl) q37 (by omega) (by omega) rfl ?_
                refine zp_iinc (L' := [(3, 0, ((d : Int) + 1)), (4, 0, ((b : Int) + 1)), (6, 0, (R (L + 2 * b + 99))), (5, 0, (oq : Int)), (0, 2, (a : Int)), (1, 0, (i1 : Int)), (2, 0, (i2 : Int))]) (n := ((d : Int) + 1)) (pc := 223) hx hb hnL (zd_X12_reckonAll (223, .iinc 3 1, 3, 0, []) (List.mem_of_getElem? (i := 117) rfl)) (j := 3) rfl (by omega) (zp_r0 (by omega) (by omega)) rfl rfl ?_
                refine zp_goto (tgt := 368) (pc := 226) hx hb (zd_X12_reckonAll (226, .goto 142, 3, 0, []) (List.mem_of_getElem? (i := 118) rfl)) rfl ?_
                refine zp_goto (tgt := 10) (pc := 368) hx hb (zd_X12_reckonAll (368, .goto (-358), 3, 0, []) (List.mem_of_getElem? (i := 197) rfl)) rfl ?_
                refine zp_drop (L' := [(3, 0, ((d : Int) + 1)), (4, 0, ((b : Int) + 1)), (0, 2, (a : Int)), (1, 0, (i1 : Int)), (2, 0, (i2 : Int))]) (by simp) ?_
                refine kk _ (zgR_b hm n37 n337 n3537) ((zp_set_ne (Or.inl n37)).trans h38) (fun j hj => zp_set_ne (Or.inr (by omega))) (zp_set_self.trans ?_)
                rw [hoq]
                unfold zg_en zg_ar
                rw [if_pos (by omega)]
          · exfalso
            omega
        · exfalso
          omega
  have step_bn : ∀ (b d : Nat) (v1 v2 : Int) (G : Nat → Nat → Int), b < i2 → d + 1 < 400 → zgR a b3 b35 b37 L R St G → G a 38 = 0 → 20 ≤ zg_op R L b → zg_op R L b ≤ 27 → G b37 (2000 + d) = v1 → G b37 (2000 + (d + 1)) = v2 → -2147483648 ≤ v1 ∧ v1 ≤ 2147483648 → -2147483648 ≤ v2 ∧ v2 ≤ 2147483648 → (∀ (v : Int) (G' : Nat → Nat → Int), yd_bn (zg_op R L b) v1 v2 = some v → zgR a b3 b35 b37 L R St G' → G' a 38 = 0 → (∀ j, j < d → G' b37 (2000 + j) = G b37 (2000 + j)) → G' b37 (2000 + d) = v → zp_J p l e Rm s m args below meth c Q w u [] 10 [(3, 0, ((d + 1 : Nat) : Int)), (4, 0, ((b + 1 : Nat) : Int)), (0, 2, (a : Int)), (1, 0, (i1 : Int)), (2, 0, (i2 : Int))] [] u.1 G') → (∀ G' : Nat → Nat → Int, yd_bn (zg_op R L b) v1 v2 = none → zgR a b3 b35 b37 L R St G' → G' a 38 = 1 → zp_J p l e Rm s m args below meth c Q w u [] 10 [(3, 0, ((d + 1 : Nat) : Int)), (4, 0, ((b + 1 : Nat) : Int)), (0, 2, (a : Int)), (1, 0, (i1 : Int)), (2, 0, (i2 : Int))] [] u.1 G') → zp_J p l e Rm s m args below meth c Q w u [] 10 [(3, 0, ((d + 2 : Nat) : Int)), (4, 0, ((b : Nat) : Int)), (0, 2, (a : Int)), (1, 0, (i1 : Int)), (2, 0, (i2 : Int))] [] u.1 G := by
    clear step_lf
    intro b d v1 v2 G hb2 hd hm h38 o1 o2 e1 e2 bd1 bd2 kk kb
    obtain ⟨oq, hoq⟩ : ∃ oq : Nat, zg_op R L b = (oq : Int) := zp_nat (by omega)
    have ho3 : R (L + 2 * b + 98) = (oq : Int) := hoq
    rw [hoq] at o1 o2 kk kb
    refine zp_drop (L' := [(3, 0, ((d : Int) + 2)), (4, 0, (b : Int)), (0, 2, (a : Int)), (1, 0, (i1 : Int)), (2, 0, (i2 : Int))]) (by simp <;> omega) ?_
    skip
    have hbr := hR (L + 2 * b + 99) (by omega)
    refine zp_load (pc := 10) hx hb (zd_X12_reckonAll (10, .iload 4, 2, 0, []) (List.mem_of_getElem? (i := 7) rfl)) rfl (j := 1) rfl ?_
    refine zp_load (pc := 12) hx hb (zd_X12_reckonAll (12, .iload_n 2, 1, 0, []) (List.mem_of_getElem? (i := 8) rfl)) rfl (j := 4) rfl ?_
    refine zp_icmp (pc := 13) (tgt := 371) hx hb (zd_X12_reckonAll (13, .if_icmp .ge 358, 3, 0, []) (List.mem_of_getElem? (i := 9) rfl)) rfl (fun (hc31 : (i2 : Int) ≤ (b : Int)) => ?_) (fun (hc31 : ¬ ((i2 : Int) ≤ (b : Int))) => ?_)
    · exfalso
      omega
    · refine zp_load (pc := 16) hx hb (zd_X12_reckonAll (16, .aload_n 0, 1, 0, []) (List.mem_of_getElem? (i := 10) rfl)) rfl (j := 2) rfl ?_
      refine zp_getf (n := 0) (pc := 17) hx hb hE hw (zd_X12_reckonAll (17, .getfield 388, 3, 0, []) (List.mem_of_getElem? (i := 11) rfl)) (j := 56) rfl rfl rfl hp h38 ?_
      refine zp_if (pc := 20) (tgt := 371) hx hb (zd_X12_reckonAll (20, .ifCond .ne 351, 3, 0, []) (List.mem_of_getElem? (i := 12) rfl)) rfl (fun (hc32 : ¬ 0 = 0) => ?_) (fun (hc32 : ¬ (¬ 0 = 0)) => ?_)
      · exfalso
        omega
      · refine zp_load (pc := 23) hx hb (zd_X12_reckonAll (23, .aload_n 0, 1, 0, []) (List.mem_of_getElem? (i := 13) rfl)) rfl (j := 2) rfl ?_
        refine zp_getf (n := 0) (pc := 24) hx hb hE hw (zd_X12_reckonAll (24, .getfield 319, 3, 0, []) (List.mem_of_getElem? (i := 14) rfl)) (j := 38) rfl rfl rfl hp hm.1 ?_
        refine zp_if (pc := 27) (tgt := 40) hx hb (zd_X12_reckonAll (27, .ifCond .eq 13, 3, 0, []) (List.mem_of_getElem? (i := 15) rfl)) rfl (fun (hc33 : 0 = 0) => ?_) (fun (hc33 : ¬ (0 = 0)) => ?_)
        · refine zp_load (pc := 40) hx hb (zd_X12_reckonAll (40, .aload_n 0, 1, 0, []) (List.mem_of_getElem? (i := 21) rfl)) rfl (j := 2) rfl ?_
          refine zp_getf (n := (b3 : Int)) (pc := 41) hx hb hE hw (zd_X12_reckonAll (41, .getfield 13, 3, 0, []) (List.mem_of_getElem? (i := 22) rfl)) (j := 21) rfl rfl rfl hp hm.2.1 ?_
          refine zp_load (pc := 44) hx hb (zd_X12_reckonAll (44, .aload_n 0, 1, 0, []) (List.mem_of_getElem? (i := 23) rfl)) rfl (j := 2) rfl ?_
          refine zp_getf (n := (L : Int)) (pc := 45) hx hb hE hw (zd_X12_reckonAll (45, .getfield 391, 3, 0, []) (List.mem_of_getElem? (i := 24) rfl)) (j := 52) rfl rfl rfl hp hm.2.2.1 ?_
          refine zp_const (pc := 48) hx hb (zd_X12_reckonAll (48, .bipush 98, 2, 0, []) (List.mem_of_getElem? (i := 25) rfl)) rfl rfl ?_
          refine zp_add (n := ((L : Int) + 98)) (pc := 50) hx hb (zd_X12_reckonAll (50, .iadd, 1, 0, []) (List.mem_of_getElem? (i := 26) rfl)) (by omega) (zp_r0 (by omega) (by omega)) ?_
          refine zp_const (pc := 51) hx hb (zd_X12_reckonAll (51, .iconst 2, 1, 0, []) (List.mem_of_getElem? (i := 27) rfl)) rfl rfl ?_
          refine zp_load (pc := 52) hx hb (zd_X12_reckonAll (52, .iload 4, 2, 0, []) (List.mem_of_getElem? (i := 28) rfl)) rfl (j := 1) rfl ?_
          refine zp_mul (n := (2 * (b : Int))) (pc := 54) hx hb (zd_X12_reckonAll (54, .imul, 1, 0, []) (List.mem_of_getElem? (i := 29) rfl)) (by omega) (zp_r0 (by omega) (by omega)) ?_
          refine zp_add (n := ((L : Int) + 2 * (b : Int) + 98)) (pc := 55) hx hb (zd_X12_reckonAll (55, .iadd, 1, 0, []) (List.mem_of_getElem? (i := 30) rfl)) (by omega) (zp_r0 (by omega) (by omega)) ?_
          refine zp_ialdT (j := (L + 2 * b + 98)) (v := (oq : Int)) (pc := 56) hx hb hw (zd_X12_reckonAll (56, .iaload, 1, 0, []) (List.mem_of_getElem? (i := 31) rfl)) zl_T59 rfl (zl_kd ((L + 2 * b + 98))) q3 (by omega) (show (L + 2 * b + 98) < 5580 by omega) ((hm.2.2.2.2.2.1 _).trans ho3) (fun hk34 => ?_)
          refine zp_store (L' := [(5, 0, (oq : Int)), (3, 0, ((d : Int) + 2)), (4, 0, (b : Int)), (0, 2, (a : Int)), (1, 0, (i1 : Int)), (2, 0, (i2 : Int))]) (pc := 57) hx hb hnL (zd_X12_reckonAll (57, .istore 5, 2, 0, []) (List.mem_of_getElem? (i := 32) rfl)) rfl rfl rfl ?_
          refine zp_load (pc := 59) hx hb (zd_X12_reckonAll (59, .aload_n 0, 1, 0, []) (List.mem_of_getElem? (i := 33) rfl)) rfl (j := 3) rfl ?_
          refine zp_getf (n := 0) (pc := 60) hx hb hE hw (zd_X12_reckonAll (60, .getfield 319, 3, 0, []) (List.mem_of_getElem? (i := 34) rfl)) (j := 38) rfl rfl rfl hp hm.1 ?_
          refine zp_if (pc := 63) (tgt := 76) hx hb (zd_X12_reckonAll (63, .ifCond .eq 13, 3, 0, []) (List.mem_of_getElem? (i := 35) rfl)) rfl (fun (hc35 : 0 = 0) => ?_) (fun (hc35 : ¬ (0 = 0)) => ?_)
          · refine zp_load (pc := 76) hx hb (zd_X12_reckonAll (76, .aload_n 0, 1, 0, []) (List.mem_of_getElem? (i := 41) rfl)) rfl (j := 3) rfl ?_
            refine zp_getf (n := (b3 : Int)) (pc := 77) hx hb hE hw (zd_X12_reckonAll (77, .getfield 13, 3, 0, []) (List.mem_of_getElem? (i := 42) rfl)) (j := 21) rfl rfl rfl hp hm.2.1 ?_
            refine zp_load (pc := 80) hx hb (zd_X12_reckonAll (80, .aload_n 0, 1, 0, []) (List.mem_of_getElem? (i := 43) rfl)) rfl (j := 3) rfl ?_
            refine zp_getf (n := (L : Int)) (pc := 81) hx hb hE hw (zd_X12_reckonAll (81, .getfield 391, 3, 0, []) (List.mem_of_getElem? (i := 44) rfl)) (j := 52) rfl rfl rfl hp hm.2.2.1 ?_
            refine zp_const (pc := 84) hx hb (zd_X12_reckonAll (84, .bipush 98, 2, 0, []) (List.mem_of_getElem? (i := 45) rfl)) rfl rfl ?_
            refine zp_add (n := ((L : Int) + 98)) (pc := 86) hx hb (zd_X12_reckonAll (86, .iadd, 1, 0, []) (List.mem_of_getElem? (i := 46) rfl)) (by omega) (zp_r0 (by omega) (by omega)) ?_
            refine zp_const (pc := 87) hx hb (zd_X12_reckonAll (87, .iconst 2, 1, 0, []) (List.mem_of_getElem? (i := 47) rfl)) rfl rfl ?_
            refine zp_load (pc := 88) hx hb (zd_X12_reckonAll (88, .iload 4, 2, 0, []) (List.mem_of_getElem? (i := 48) rfl)) rfl (j := 2) rfl ?_
            refine zp_mul (n := (2 * (b : Int))) (pc := 90) hx hb (zd_X12_reckonAll (90, .imul, 1, 0, []) (List.mem_of_getElem? (i := 49) rfl)) (by omega) (zp_r0 (by omega) (by omega)) ?_
            refine zp_add (n := ((L : Int) + 2 * (b : Int) + 98)) (pc := 91) hx hb (zd_X12_reckonAll (91, .iadd, 1, 0, []) (List.mem_of_getElem? (i := 50) rfl)) (by omega) (zp_r0 (by omega) (by omega)) ?_
            refine zp_const (pc := 92) hx hb (zd_X12_reckonAll (92, .iconst 1, 1, 0, []) (List.mem_of_getElem? (i := 51) rfl)) rfl rfl ?_
            refine zp_add (n := ((L : Int) + 2 * (b : Int) + 99)) (pc := 93) hx hb (zd_X12_reckonAll (93, .iadd, 1, 0, []) (List.mem_of_getElem? (i := 52) rfl)) (by omega) (zp_r0 (by omega) (by omega)) ?_
            refine zp_ialdT (j := (L + 2 * b + 99)) (v := (R (L + 2 * b + 99))) (pc := 94) hx hb hw (zd_X12_reckonAll (94, .iaload, 1, 0, []) (List.mem_of_getElem? (i := 53) rfl)) zl_T59 rfl (zl_kd ((L + 2 * b + 99))) q3 (by omega) (show (L + 2 * b + 99) < 5580 by omega) (hm.2.2.2.2.2.1 _) (fun hk36 => ?_)
            refine zp_store (L' := [(6, 0, (R (L + 2 * b + 99))), (5, 0, (oq : Int)), (3, 0, ((d : Int) + 2)), (4, 0, (b : Int)), (0, 2, (a : Int)), (1, 0, (i1 : Int)), (2, 0, (i2 : Int))]) (pc := 95) hx hb hnL (zd_X12_reckonAll (95, .istore 6, 2, 0, []) (List.mem_of_getElem? (i := 54) rfl)) rfl rfl rfl ?_
            refine zp_iinc (L' := [(4, 0, ((b : Int) + 1)), (6, 0, (R (L + 2 * b + 99))), (5, 0, (oq : Int)), (3, 0, ((d : Int) + 2)), (0, 2, (a : Int)), (1, 0, (i1 : Int)), (2, 0, (i2 : Int))]) (n := ((b : Int) + 1)) (pc := 97) hx hb hnL (zd_X12_reckonAll (97, .iinc 4 1, 3, 0, []) (List.mem_of_getElem? (i := 55) rfl)) (j := 3) rfl (by omega) (zp_r0 (by omega) (by omega)) rfl rfl ?_
            refine zp_load (pc := 100) hx hb (zd_X12_reckonAll (100, .iload 5, 2, 0, []) (List.mem_of_getElem? (i := 56) rfl)) rfl (j := 2) rfl ?_
            refine zp_const (pc := 102) hx hb (zd_X12_reckonAll (102, .bipush 20, 2, 0, []) (List.mem_of_getElem? (i := 57) rfl)) rfl rfl ?_
            refine zp_icmp (pc := 104) (tgt := 229) hx hb (zd_X12_reckonAll (104, .if_icmp .ge 125, 3, 0, []) (List.mem_of_getElem? (i := 58) rfl)) rfl (fun (hc37 : 20 ≤ (oq : Int)) => ?_) (fun (hc37 : ¬ (20 ≤ (oq : Int))) => ?_)
            · refine zp_load (pc := 229) hx hb (zd_X12_reckonAll (229, .iload 5, 2, 0, []) (List.mem_of_getElem? (i := 119) rfl)) rfl (j := 2) rfl ?_
              refine zp_const (pc := 231) hx hb (zd_X12_reckonAll (231, .bipush 28, 2, 0, []) (List.mem_of_getElem? (i := 120) rfl)) rfl rfl ?_
              refine zp_icmp (pc := 233) (tgt := 306) hx hb (zd_X12_reckonAll (233, .if_icmp .ge 73, 3, 0, []) (List.mem_of_getElem? (i := 121) rfl)) rfl (fun (hc38 : 28 ≤ (oq : Int)) => ?_) (fun (hc38 : ¬ (28 ≤ (oq : Int))) => ?_)
              · exfalso
                omega
              · refine zp_iinc (L' := [(3, 0, ((d : Int) + 1)), (4, 0, ((b : Int) + 1)), (6, 0, (R (L + 2 * b + 99))), (5, 0, (oq : Int)), (0, 2, (a : Int)), (1, 0, (i1 : Int)), (2, 0, (i2 : Int))]) (n := ((d : Int) + 1)) (pc := 236) hx hb hnL (zd_X12_reckonAll (236, .iinc 3 (-1), 3, 0, []) (List.mem_of_getElem? (i := 122) rfl)) (j := 3) rfl (by omega) (zp_r0 (by omega) (by omega)) rfl rfl ?_
                refine zp_load (pc := 239) hx hb (zd_X12_reckonAll (239, .aload_n 0, 1, 0, []) (List.mem_of_getElem? (i := 123) rfl)) rfl (j := 4) rfl ?_
                refine zp_getf (n := (b37 : Int)) (pc := 240) hx hb hE hw (zd_X12_reckonAll (240, .getfield 107, 3, 0, []) (List.mem_of_getElem? (i := 124) rfl)) (j := 55) rfl rfl rfl hp hm.2.2.2.2.1 ?_
                refine zp_load (pc := 243) hx hb (zd_X12_reckonAll (243, .iload_n 3, 1, 0, []) (List.mem_of_getElem? (i := 125) rfl)) rfl (j := 0) rfl ?_
                refine zp_const (pc := 244) hx hb (zd_X12_reckonAll (244, .iconst 1, 1, 0, []) (List.mem_of_getElem? (i := 126) rfl)) rfl rfl ?_
                refine zp_sub (n := (d : Int)) (pc := 245) hx hb (zd_X12_reckonAll (245, .isub, 1, 0, []) (List.mem_of_getElem? (i := 127) rfl)) (by omega) (zp_r0 (by omega) (by omega)) ?_
                refine zp_load (pc := 246) hx hb (zd_X12_reckonAll (246, .aload_n 0, 1, 0, []) (List.mem_of_getElem? (i := 128) rfl)) rfl (j := 4) rfl ?_
                refine zp_load (pc := 247) hx hb (zd_X12_reckonAll (247, .iload 5, 2, 0, []) (List.mem_of_getElem? (i := 129) rfl)) rfl (j := 3) rfl ?_
                refine zp_load (pc := 249) hx hb (zd_X12_reckonAll (249, .aload_n 0, 1, 0, []) (List.mem_of_getElem? (i := 130) rfl)) rfl (j := 4) rfl ?_
                refine zp_getf (n := (b37 : Int)) (pc := 250) hx hb hE hw (zd_X12_reckonAll (250, .getfield 107, 3, 0, []) (List.mem_of_getElem? (i := 131) rfl)) (j := 55) rfl rfl rfl hp hm.2.2.2.2.1 ?_
                refine zp_load (pc := 253) hx hb (zd_X12_reckonAll (253, .iload_n 3, 1, 0, []) (List.mem_of_getElem? (i := 132) rfl)) rfl (j := 0) rfl ?_
                refine zp_const (pc := 254) hx hb (zd_X12_reckonAll (254, .iconst 1, 1, 0, []) (List.mem_of_getElem? (i := 133) rfl)) rfl rfl ?_
                refine zp_sub (n := (d : Int)) (pc := 255) hx hb (zd_X12_reckonAll (255, .isub, 1, 0, []) (List.mem_of_getElem? (i := 134) rfl)) (by omega) (zp_r0 (by omega) (by omega)) ?_
                refine zp_lald (j := d) (v := v1) (pc := 256) hx hb hw (zd_X12_reckonAll (256, .laload, 1, 0, []) (List.mem_of_getElem? (i := 135) rfl)) (show zp_ia 2 77 = some (400, 1, 0, (-9223372036854775808), 9223372036854775807) from rfl) q37 (by omega) (by omega) e1 ?_
                refine zp_load (pc := 257) hx hb (zd_X12_reckonAll (257, .aload_n 0, 1, 0, []) (List.mem_of_getElem? (i := 136) rfl)) rfl (j := 4) rfl ?_
                refine zp_getf (n := (b37 : Int)) (pc := 258) hx hb hE hw (zd_X12_reckonAll (258, .getfield 107, 3, 0, []) (List.mem_of_getElem? (i := 137) rfl)) (j := 55) rfl rfl rfl hp hm.2.2.2.2.1 ?_
                refine zp_load (pc := 261) hx hb (zd_X12_reckonAll (261, .iload_n 3, 1, 0, []) (List.mem_of_getElem? (i := 138) rfl)) rfl (j := 0) rfl ?_
                refine zp_lald (j := (d + 1)) (v := v2) (pc := 262) hx hb hw (zd_X12_reckonAll (262, .laload, 1, 0, []) (List.mem_of_getElem? (i := 139) rfl)) (show zp_ia 2 77 = some (400, 1, 0, (-9223372036854775808), 9223372036854775807) from rfl) q37 (by omega) (by omega) e2 ?_
                have hx1 : -2147483648 ≤ v1 ∧ v1 ≤ 2147483648 := bd1
                refine zp_call (pc := 263) (how := 0) (idx := 394) (mi := 244) (S := [(0, (d : Int)), (2, (b37 : Int))]) hx hb hE hw heff hrm (zX_rk0 hW) rfl (j := 44) rfl rfl (by decide +kernel) (zd_X12_reckonAll (263, .invokevirtual 394, 3, 0, []) (List.mem_of_getElem? (i := 140) rfl)) [(a : Int), (oq : Int), v1, v2] rfl ⟨zp_o2 hp, zp_o0 (by omega) (by omega) (by omega) (by omega), zp_o1 (zp_r1 (by omega) (by omega)), zp_o1 (zp_r1 (by omega) (by omega)), trivial⟩ (Nat.le_of_ble_eq_true rfl) ⟨bd1, bd2⟩ (fun al hal rnk Pk Gk hextk hfrk hokk hcsk hpsik => ?_)
                obtain rfl := List.mem_singleton.mp hal
                have yak := hextk _ _ hp
                have yb3k := hextk _ _ q3
                have yb35k := hextk _ _ q35
                have yb37k := hextk _ _ q37
                obtain ⟨hPk, hk1, hk2⟩ := hpsik
                have hk1 : (((oq : Int) = 23 ∨ (oq : Int) = 24) ∧ v2 = 0 → Gk a 38 = 1 ∧ rnk = 0) := hk1
                have hk2 : (¬ (((oq : Int) = 23 ∨ (oq : Int) = 24) ∧ v2 = 0) → rnk = yd_v oq v1 v2 ∧ Gk a 38 = if (oq : Int) = 23 ∨ (oq : Int) = 24 then 0 else G a 38) := hk2
                rw [h38] at hk2
                have hmk := zgR_f hm hp q3 q35 hfrk rfl
                subst hPk
                have hc : (yd_bn oq v1 v2 = some rnk ∧ Gk a 38 = 0 ∧ -1000000000 ≤ rnk ∧ rnk ≤ 1000000000) ∨ (yd_bn oq v1 v2 = none ∧ (Gk a 38 = 1 ∨ (Gk a 38 = 0 ∧ ¬ (-1000000000 ≤ rnk ∧ rnk ≤ 1000000000)))) := zg_bn hk1 hk2
                have hrgk : zk_rg 1 rnk := (hokk _ rfl).1.2.2
                clear hk1 hk2
                have h9j : ∀ j, Gk b37 (2000 + j) = G b37 (2000 + j) := fun j => zp_nc hfrk q37 rfl _
                refine zp_last (j := d) (pc := 266) hx hb hw heff (zd_X12_reckonAll (266, .lastore, 1, 0, []) (List.mem_of_getElem? (i := 141) rfl)) (show zp_ia 2 77 = some (400, 1, 0, (-9223372036854775808), 9223372036854775807) from rfl) q37 (by omega) (by omega) rfl ?_
                refine zp_load (pc := 267) hx hb (zd_X12_reckonAll (267, .aload_n 0, 1, 0, []) (List.mem_of_getElem? (i := 142) rfl)) rfl (j := 4) rfl ?_
                refine zp_load (pc := 268) hx hb (zd_X12_reckonAll (268, .aload_n 0, 1, 0, []) (List.mem_of_getElem? (i := 143) rfl)) rfl (j := 4) rfl ?_
                refine zp_getf (n := (Gk a 38)) (pc := 269) hx hb hE hw (zd_X12_reckonAll (269, .getfield 388, 3, 0, []) (List.mem_of_getElem? (i := 144) rfl)) (j := 56) rfl rfl rfl hp ((zp_set_ne (Or.inl (zp_pne hp q37 (by decide))))) ?_
                refine zp_if (pc := 272) (tgt := 295) hx hb (zd_X12_reckonAll (272, .ifCond .ne 23, 3, 0, []) (List.mem_of_getElem? (i := 145) rfl)) rfl (fun (hc41 : ¬ (Gk a 38) = 0) => ?_) (fun (hc41 : ¬ (¬ (Gk a 38) = 0)) => ?_)
                · refine zp_const (pc := 295) hx hb (zd_X12_reckonAll (295, .iconst 1, 1, 0, []) (List.mem_of_getElem? (i := 156) rfl)) rfl rfl ?_
                  refine zp_goto (tgt := 300) (pc := 296) hx hb (zd_X12_reckonAll (296, .goto 4, 3, 0, []) (List.mem_of_getElem? (i := 157) rfl)) rfl ?_
                  refine zp_putf (pc := 300) hx hb hE hw heff (zd_X12_reckonAll (300, .putfield 388, 3, 0, []) (List.mem_of_getElem? (i := 159) rfl)) (j := 56) rfl rfl rfl hp (zp_o0 (by decide) (by decide) (by decide) (by decide)) ?_
                  refine zp_goto (tgt := 368) (pc := 303) hx hb (zd_X12_reckonAll (303, .goto 65, 3, 0, []) (List.mem_of_getElem? (i := 160) rfl)) rfl ?_
                  refine zp_goto (tgt := 10) (pc := 368) hx hb (zd_X12_reckonAll (368, .goto (-358), 3, 0, []) (List.mem_of_getElem? (i := 197) rfl)) rfl ?_
                  refine zp_drop (L' := [(3, 0, ((d : Int) + 1)), (4, 0, ((b : Int) + 1)), (0, 2, (a : Int)), (1, 0, (i1 : Int)), (2, 0, (i2 : Int))]) (by simp) ?_
                  rcases hc with ⟨c1, c2, c3, c4⟩ | ⟨c1, c2⟩
                  · exfalso
                    omega
                  · exact kb _ c1 (zgR_a (zgR_b hmk n37 n337 n3537) n3 n35 (Or.inl rfl)) zp_set_self
                · refine zp_load (pc := 275) hx hb (zd_X12_reckonAll (275, .aload_n 0, 1, 0, []) (List.mem_of_getElem? (i := 146) rfl)) rfl (j := 4) rfl ?_
                  refine zp_getf (n := (b37 : Int)) (pc := 276) hx hb hE hw (zd_X12_reckonAll (276, .getfield 107, 3, 0, []) (List.mem_of_getElem? (i := 147) rfl)) (j := 55) rfl rfl rfl hp ((zp_set_ne (Or.inl (zp_pne hp q37 (by decide)))).trans (hmk.2.2.2.2.1)) ?_
                  refine zp_load (pc := 279) hx hb (zd_X12_reckonAll (279, .iload_n 3, 1, 0, []) (List.mem_of_getElem? (i := 148) rfl)) rfl (j := 0) rfl ?_
                  refine zp_const (pc := 280) hx hb (zd_X12_reckonAll (280, .iconst 1, 1, 0, []) (List.mem_of_getElem? (i := 149) rfl)) rfl rfl ?_
                  refine zp_sub (n := (d : Int)) (pc := 281) hx hb (zd_X12_reckonAll (281, .isub, 1, 0, []) (List.mem_of_getElem? (i := 150) rfl)) (by omega) (zp_r0 (by omega) (by omega)) ?_
                  refine zp_lald (j := d) (v := rnk) (pc := 282) hx hb hw (zd_X12_reckonAll (282, .laload, 1, 0, []) (List.mem_of_getElem? (i := 151) rfl)) (show zp_ia 2 77 = some (400, 1, 0, (-9223372036854775808), 9223372036854775807) from rfl) q37 (by omega) (by omega) zp_set_self ?_
                  refine zp_ldc2 (pc := 283) hx hb hE (zd_X12_reckonAll (283, .ldc2_w 398, 3, 0, []) (List.mem_of_getElem? (i := 152) rfl)) (j := 106) rfl ?_
                  refine zp_ldc2 (pc := 286) hx hb hE (zd_X12_reckonAll (286, .ldc2_w 400, 3, 0, []) (List.mem_of_getElem? (i := 153) rfl)) (j := 107) rfl ?_
                  refine zp_call (pc := 289) (how := 1) (idx := 181) (mi := 186) (S := [(2, (a : Int))]) hx hb hE hw heff hrm (zX_in2 hW) rfl (j := 2) rfl rfl (by decide +kernel) (zd_X12_reckonAll (289, .invokestatic 181, 3, 0, []) (List.mem_of_getElem? (i := 154) rfl)) [rnk, (-1000000000), 1000000000] rfl ⟨zp_o1 (by first | assumption | exact zp_r1 (by omega) (by omega)), zp_o1 (by first | assumption | exact zp_r1 (by omega) (by omega)), zp_o1 (by first | assumption | exact zp_r1 (by omega) (by omega)), trivial⟩ (Nat.le_of_ble_eq_true rfl) trivial (fun al hal rnw43 Pw43 Gw43 hextw43 hfrw43 hokw43 hcsw43 hpsiw43 => ?_)
                  obtain rfl := List.mem_singleton.mp hal
                  have hrw43 := zp_int (hokw43 _ rfl).1
                  obtain ⟨hPew43, hGew43, htw43⟩ := hpsiw43
                  have htw43 : rnw43 = 1 ↔ (-1000000000) ≤ rnk ∧ rnk ≤ 1000000000 := htw43
                  rw [hPew43, hGew43]
                  refine zp_if (pc := 292) (tgt := 299) hx hb (zd_X12_reckonAll (292, .ifCond .ne 7, 3, 0, []) (List.mem_of_getElem? (i := 155) rfl)) rfl (fun (hc44 : ¬ rnw43 = 0) => ?_) (fun (hc44 : ¬ (¬ rnw43 = 0)) => ?_)
                  · refine zp_const (pc := 299) hx hb (zd_X12_reckonAll (299, .iconst 0, 1, 0, []) (List.mem_of_getElem? (i := 158) rfl)) rfl rfl ?_
                    refine zp_putf (pc := 300) hx hb hE hw heff (zd_X12_reckonAll (300, .putfield 388, 3, 0, []) (List.mem_of_getElem? (i := 159) rfl)) (j := 56) rfl rfl rfl hp (zp_o0 (by decide) (by decide) (by decide) (by decide)) ?_
                    refine zp_goto (tgt := 368) (pc := 303) hx hb (zd_X12_reckonAll (303, .goto 65, 3, 0, []) (List.mem_of_getElem? (i := 160) rfl)) rfl ?_
                    refine zp_goto (tgt := 10) (pc := 368) hx hb (zd_X12_reckonAll (368, .goto (-358), 3, 0, []) (List.mem_of_getElem? (i := 197) rfl)) rfl ?_
                    refine zp_drop (L' := [(3, 0, ((d : Int) + 1)), (4, 0, ((b : Int) + 1)), (0, 2, (a : Int)), (1, 0, (i1 : Int)), (2, 0, (i2 : Int))]) (by simp) ?_
                    rcases hc with ⟨c1, c2, c3, c4⟩ | ⟨c1, c2⟩
                    · exact kk rnk _ c1 (zgR_a (zgR_b hmk n37 n337 n3537) n3 n35 (Or.inl rfl)) zp_set_self (fun j hj => (zp_set_ne (Or.inl n37.symm)).trans ((zp_set_ne (Or.inr (by omega))).trans (h9j j))) ((zp_set_ne (Or.inl n37.symm)).trans zp_set_self)
                    · exfalso
                      omega
                  · refine zp_const (pc := 295) hx hb (zd_X12_reckonAll (295, .iconst 1, 1, 0, []) (List.mem_of_getElem? (i := 156) rfl)) rfl rfl ?_
                    refine zp_goto (tgt := 300) (pc := 296) hx hb (zd_X12_reckonAll (296, .goto 4, 3, 0, []) (List.mem_of_getElem? (i := 157) rfl)) rfl ?_
                    refine zp_putf (pc := 300) hx hb hE hw heff (zd_X12_reckonAll (300, .putfield 388, 3, 0, []) (List.mem_of_getElem? (i := 159) rfl)) (j := 56) rfl rfl rfl hp (zp_o0 (by decide) (by decide) (by decide) (by decide)) ?_
                    refine zp_goto (tgt := 368) (pc := 303) hx hb (zd_X12_reckonAll (303, .goto 65, 3, 0, []) (List.mem_of_getElem? (i := 160) rfl)) rfl ?_
                    refine zp_goto (tgt := 10) (pc := 368) hx hb (zd_X12_reckonAll (368, .goto (-358), 3, 0, []) (List.mem_of_getElem? (i := 197) rfl)) rfl ?_
                    refine zp_drop (L' := [(3, 0, ((d : Int) + 1)), (4, 0, ((b : Int) + 1)), (0, 2, (a : Int)), (1, 0, (i1 : Int)), (2, 0, (i2 : Int))]) (by simp) ?_
                    rcases hc with ⟨c1, c2, c3, c4⟩ | ⟨c1, c2⟩
                    · exfalso
                      omega
                    · exact kb _ c1 (zgR_a (zgR_b hmk n37 n337 n3537) n3 n35 (Or.inl rfl)) zp_set_self
            · exfalso
              omega
          · exfalso
            omega
        · exfalso
          omega
  have step_nt : ∀ (b d : Nat) (v1 : Int) (G : Nat → Nat → Int), b < i2 → d < 400 → zgR a b3 b35 b37 L R St G → G a 38 = 0 → zg_op R L b = 28 → G b37 (2000 + d) = v1 → -2147483648 ≤ v1 ∧ v1 ≤ 2147483648 → (∀ G' : Nat → Nat → Int, zgR a b3 b35 b37 L R St G' → G' a 38 = 0 → (∀ j, j < d → G' b37 (2000 + j) = G b37 (2000 + j)) → G' b37 (2000 + d) = 1 - v1 → zp_J p l e Rm s m args below meth c Q w u [] 10 [(3, 0, ((d + 1 : Nat) : Int)), (4, 0, ((b + 1 : Nat) : Int)), (0, 2, (a : Int)), (1, 0, (i1 : Int)), (2, 0, (i2 : Int))] [] u.1 G') → zp_J p l e Rm s m args below meth c Q w u [] 10 [(3, 0, ((d + 1 : Nat) : Int)), (4, 0, ((b : Nat) : Int)), (0, 2, (a : Int)), (1, 0, (i1 : Int)), (2, 0, (i2 : Int))] [] u.1 G := by
    clear step_lf step_bn
    intro b d v1 G hb2 hd hm h38 o1 e1 bd1 kk
    have ho3 : R (L + 2 * b + 98) = 28 := o1
    refine zp_drop (L' := [(3, 0, ((d : Int) + 1)), (4, 0, (b : Int)), (0, 2, (a : Int)), (1, 0, (i1 : Int)), (2, 0, (i2 : Int))]) (by simp <;> omega) ?_
    skip
    have hbr := hR (L + 2 * b + 99) (by omega)
    refine zp_load (pc := 10) hx hb (zd_X12_reckonAll (10, .iload 4, 2, 0, []) (List.mem_of_getElem? (i := 7) rfl)) rfl (j := 1) rfl ?_
    refine zp_load (pc := 12) hx hb (zd_X12_reckonAll (12, .iload_n 2, 1, 0, []) (List.mem_of_getElem? (i := 8) rfl)) rfl (j := 4) rfl ?_
    refine zp_icmp (pc := 13) (tgt := 371) hx hb (zd_X12_reckonAll (13, .if_icmp .ge 358, 3, 0, []) (List.mem_of_getElem? (i := 9) rfl)) rfl (fun (hc45 : (i2 : Int) ≤ (b : Int)) => ?_) (fun (hc45 : ¬ ((i2 : Int) ≤ (b : Int))) => ?_)
    · exfalso
      omega
    · refine zp_load (pc := 16) hx hb (zd_X12_reckonAll (16, .aload_n 0, 1, 0, []) (List.mem_of_getElem? (i := 10) rfl)) rfl (j := 2) rfl ?_
      refine zp_getf (n := 0) (pc := 17) hx hb hE hw (zd_X12_reckonAll (17, .getfield 388, 3, 0, []) (List.mem_of_getElem? (i := 11) rfl)) (j := 56) rfl rfl rfl hp h38 ?_
      refine zp_if (pc := 20) (tgt := 371) hx hb (zd_X12_reckonAll (20, .ifCond .ne 351, 3, 0, []) (List.mem_of_getElem? (i := 12) rfl)) rfl (fun (hc46 : ¬ 0 = 0) => ?_) (fun (hc46 : ¬ (¬ 0 = 0)) => ?_)
      · exfalso
        omega
      · refine zp_load (pc := 23) hx hb (zd_X12_reckonAll (23, .aload_n 0, 1, 0, []) (List.mem_of_getElem? (i := 13) rfl)) rfl (j := 2) rfl ?_
        refine zp_getf (n := 0) (pc := 24) hx hb hE hw (zd_X12_reckonAll (24, .getfield 319, 3, 0, []) (List.mem_of_getElem? (i := 14) rfl)) (j := 38) rfl rfl rfl hp hm.1 ?_
        refine zp_if (pc := 27) (tgt := 40) hx hb (zd_X12_reckonAll (27, .ifCond .eq 13, 3, 0, []) (List.mem_of_getElem? (i := 15) rfl)) rfl (fun (hc47 : 0 = 0) => ?_) (fun (hc47 : ¬ (0 = 0)) => ?_)
        · refine zp_load (pc := 40) hx hb (zd_X12_reckonAll (40, .aload_n 0, 1, 0, []) (List.mem_of_getElem? (i := 21) rfl)) rfl (j := 2) rfl ?_
          refine zp_getf (n := (b3 : Int)) (pc := 41) hx hb hE hw (zd_X12_reckonAll (41, .getfield 13, 3, 0, []) (List.mem_of_getElem? (i := 22) rfl)) (j := 21) rfl rfl rfl hp hm.2.1 ?_
          refine zp_load (pc := 44) hx hb (zd_X12_reckonAll (44, .aload_n 0, 1, 0, []) (List.mem_of_getElem? (i := 23) rfl)) rfl (j := 2) rfl ?_
          refine zp_getf (n := (L : Int)) (pc := 45) hx hb hE hw (zd_X12_reckonAll (45, .getfield 391, 3, 0, []) (List.mem_of_getElem? (i := 24) rfl)) (j := 52) rfl rfl rfl hp hm.2.2.1 ?_
          refine zp_const (pc := 48) hx hb (zd_X12_reckonAll (48, .bipush 98, 2, 0, []) (List.mem_of_getElem? (i := 25) rfl)) rfl rfl ?_
          refine zp_add (n := ((L : Int) + 98)) (pc := 50) hx hb (zd_X12_reckonAll (50, .iadd, 1, 0, []) (List.mem_of_getElem? (i := 26) rfl)) (by omega) (zp_r0 (by omega) (by omega)) ?_
          refine zp_const (pc := 51) hx hb (zd_X12_reckonAll (51, .iconst 2, 1, 0, []) (List.mem_of_getElem? (i := 27) rfl)) rfl rfl ?_
          refine zp_load (pc := 52) hx hb (zd_X12_reckonAll (52, .iload 4, 2, 0, []) (List.mem_of_getElem? (i := 28) rfl)) rfl (j := 1) rfl ?_
          refine zp_mul (n := (2 * (b : Int))) (pc := 54) hx hb (zd_X12_reckonAll (54, .imul, 1, 0, []) (List.mem_of_getElem? (i := 29) rfl)) (by omega) (zp_r0 (by omega) (by omega)) ?_
          refine zp_add (n := ((L : Int) + 2 * (b : Int) + 98)) (pc := 55) hx hb (zd_X12_reckonAll (55, .iadd, 1, 0, []) (List.mem_of_getElem? (i := 30) rfl)) (by omega) (zp_r0 (by omega) (by omega)) ?_
          refine zp_ialdT (j := (L + 2 * b + 98)) (v := 28) (pc := 56) hx hb hw (zd_X12_reckonAll (56, .iaload, 1, 0, []) (List.mem_of_getElem? (i := 31) rfl)) zl_T59 rfl (zl_kd ((L + 2 * b + 98))) q3 (by omega) (show (L + 2 * b + 98) < 5580 by omega) ((hm.2.2.2.2.2.1 _).trans ho3) (fun hk48 => ?_)
          refine zp_store (L' := [(5, 0, 28), (3, 0, ((d : Int) + 1)), (4, 0, (b : Int)), (0, 2, (a : Int)), (1, 0, (i1 : Int)), (2, 0, (i2 : Int))]) (pc := 57) hx hb hnL (zd_X12_reckonAll (57, .istore 5, 2, 0, []) (List.mem_of_getElem? (i := 32) rfl)) rfl rfl rfl ?_
          refine zp_load (pc := 59) hx hb (zd_X12_reckonAll (59, .aload_n 0, 1, 0, []) (List.mem_of_getElem? (i := 33) rfl)) rfl (j := 3) rfl ?_
          refine zp_getf (n := 0) (pc := 60) hx hb hE hw (zd_X12_reckonAll (60, .getfield 319, 3, 0, []) (List.mem_of_getElem? (i := 34) rfl)) (j := 38) rfl rfl rfl hp hm.1 ?_
          refine zp_if (pc := 63) (tgt := 76) hx hb (zd_X12_reckonAll (63, .ifCond .eq 13, 3, 0, []) (List.mem_of_getElem? (i := 35) rfl)) rfl (fun (hc49 : 0 = 0) => ?_) (fun (hc49 : ¬ (0 = 0)) => ?_)
          · refine zp_load (pc := 76) hx hb (zd_X12_reckonAll (76, .aload_n 0, 1, 0, []) (List.mem_of_getElem? (i := 41) rfl)) rfl (j := 3) rfl ?_
            refine zp_getf (n := (b3 : Int)) (pc := 77) hx hb hE hw (zd_X12_reckonAll (77, .getfield 13, 3, 0, []) (List.mem_of_getElem? (i := 42) rfl)) (j := 21) rfl rfl rfl hp hm.2.1 ?_
            refine zp_load (pc := 80) hx hb (zd_X12_reckonAll (80, .aload_n 0, 1, 0, []) (List.mem_of_getElem? (i := 43) rfl)) rfl (j := 3) rfl ?_
            refine zp_getf (n := (L : Int)) (pc := 81) hx hb hE hw (zd_X12_reckonAll (81, .getfield 391, 3, 0, []) (List.mem_of_getElem? (i := 44) rfl)) (j := 52) rfl rfl rfl hp hm.2.2.1 ?_
            refine zp_const (pc := 84) hx hb (zd_X12_reckonAll (84, .bipush 98, 2, 0, []) (List.mem_of_getElem? (i := 45) rfl)) rfl rfl ?_
            refine zp_add (n := ((L : Int) + 98)) (pc := 86) hx hb (zd_X12_reckonAll (86, .iadd, 1, 0, []) (List.mem_of_getElem? (i := 46) rfl)) (by omega) (zp_r0 (by omega) (by omega)) ?_
            refine zp_const (pc := 87) hx hb (zd_X12_reckonAll (87, .iconst 2, 1, 0, []) (List.mem_of_getElem? (i := 47) rfl)) rfl rfl ?_
            refine zp_load (pc := 88) hx hb (zd_X12_reckonAll (88, .iload 4, 2, 0, []) (List.mem_of_getElem? (i := 48) rfl)) rfl (j := 2) rfl ?_
            refine zp_mul (n := (2 * (b : Int))) (pc := 90) hx hb (zd_X12_reckonAll (90, .imul, 1, 0, []) (List.mem_of_getElem? (i := 49) rfl)) (by omega) (zp_r0 (by omega) (by omega)) ?_
            refine zp_add (n := ((L : Int) + 2 * (b : Int) + 98)) (pc := 91) hx hb (zd_X12_reckonAll (91, .iadd, 1, 0, []) (List.mem_of_getElem? (i := 50) rfl)) (by omega) (zp_r0 (by omega) (by omega)) ?_
            refine zp_const (pc := 92) hx hb (zd_X12_reckonAll (92, .iconst 1, 1, 0, []) (List.mem_of_getElem? (i := 51) rfl)) rfl rfl ?_
            refine zp_add (n := ((L : Int) + 2 * (b : Int) + 99)) (pc := 93) hx hb (zd_X12_reckonAll (93, .iadd, 1, 0, []) (List.mem_of_getElem? (i := 52) rfl)) (by omega) (zp_r0 (by omega) (by omega)) ?_
            refine zp_ialdT (j := (L + 2 * b + 99)) (v := (R (L + 2 * b + 99))) (pc := 94) hx hb hw (zd_X12_reckonAll (94, .iaload, 1, 0, []) (List.mem_of_getElem? (i := 53) rfl)) zl_T59 rfl (zl_kd ((L + 2 * b + 99))) q3 (by omega) (show (L + 2 * b + 99) < 5580 by omega) (hm.2.2.2.2.2.1 _) (fun hk50 => ?_)
            refine zp_store (L' := [(6, 0, (R (L + 2 * b + 99))), (5, 0, 28), (3, 0, ((d : Int) + 1)), (4, 0, (b : Int)), (0, 2, (a : Int)), (1, 0, (i1 : Int)), (2, 0, (i2 : Int))]) (pc := 95) hx hb hnL (zd_X12_reckonAll (95, .istore 6, 2, 0, []) (List.mem_of_getElem? (i := 54) rfl)) rfl rfl rfl ?_
            refine zp_iinc (L' := [(4, 0, ((b : Int) + 1)), (6, 0, (R (L + 2 * b + 99))), (5, 0, 28), (3, 0, ((d : Int) + 1)), (0, 2, (a : Int)), (1, 0, (i1 : Int)), (2, 0, (i2 : Int))]) (n := ((b : Int) + 1)) (pc := 97) hx hb hnL (zd_X12_reckonAll (97, .iinc 4 1, 3, 0, []) (List.mem_of_getElem? (i := 55) rfl)) (j := 3) rfl (by omega) (zp_r0 (by omega) (by omega)) rfl rfl ?_
            refine zp_load (pc := 100) hx hb (zd_X12_reckonAll (100, .iload 5, 2, 0, []) (List.mem_of_getElem? (i := 56) rfl)) rfl (j := 2) rfl ?_
            refine zp_const (pc := 102) hx hb (zd_X12_reckonAll (102, .bipush 20, 2, 0, []) (List.mem_of_getElem? (i := 57) rfl)) rfl rfl ?_
            refine zp_icmp (pc := 104) (tgt := 229) hx hb (zd_X12_reckonAll (104, .if_icmp .ge 125, 3, 0, []) (List.mem_of_getElem? (i := 58) rfl)) rfl (fun (hc51 : 20 ≤ 28) => ?_) (fun (hc51 : ¬ (20 ≤ 28)) => ?_)
            · refine zp_load (pc := 229) hx hb (zd_X12_reckonAll (229, .iload 5, 2, 0, []) (List.mem_of_getElem? (i := 119) rfl)) rfl (j := 2) rfl ?_
              refine zp_const (pc := 231) hx hb (zd_X12_reckonAll (231, .bipush 28, 2, 0, []) (List.mem_of_getElem? (i := 120) rfl)) rfl rfl ?_
              refine zp_icmp (pc := 233) (tgt := 306) hx hb (zd_X12_reckonAll (233, .if_icmp .ge 73, 3, 0, []) (List.mem_of_getElem? (i := 121) rfl)) rfl (fun (hc52 : 28 ≤ 28) => ?_) (fun (hc52 : ¬ (28 ≤ 28)) => ?_)
              · refine zp_load (pc := 306) hx hb (zd_X12_reckonAll (306, .iload 5, 2, 0, []) (List.mem_of_getElem? (i := 161) rfl)) rfl (j := 2) rfl ?_
                refine zp_const (pc := 308) hx hb (zd_X12_reckonAll (308, .bipush 28, 2, 0, []) (List.mem_of_getElem? (i := 162) rfl)) rfl rfl ?_
                refine zp_icmp (pc := 310) (tgt := 334) hx hb (zd_X12_reckonAll (310, .if_icmp .ne 24, 3, 0, []) (List.mem_of_getElem? (i := 163) rfl)) rfl (fun (hc53 : ¬ 28 = 28) => ?_) (fun (hc53 : ¬ (¬ 28 = 28)) => ?_)
                · exfalso
                  omega
                · refine zp_load (pc := 313) hx hb (zd_X12_reckonAll (313, .aload_n 0, 1, 0, []) (List.mem_of_getElem? (i := 164) rfl)) rfl (j := 4) rfl ?_
                  refine zp_getf (n := (b37 : Int)) (pc := 314) hx hb hE hw (zd_X12_reckonAll (314, .getfield 107, 3, 0, []) (List.mem_of_getElem? (i := 165) rfl)) (j := 55) rfl rfl rfl hp hm.2.2.2.2.1 ?_
                  refine zp_load (pc := 317) hx hb (zd_X12_reckonAll (317, .iload_n 3, 1, 0, []) (List.mem_of_getElem? (i := 166) rfl)) rfl (j := 3) rfl ?_
                  refine zp_const (pc := 318) hx hb (zd_X12_reckonAll (318, .iconst 1, 1, 0, []) (List.mem_of_getElem? (i := 167) rfl)) rfl rfl ?_
                  refine zp_sub (n := (d : Int)) (pc := 319) hx hb (zd_X12_reckonAll (319, .isub, 1, 0, []) (List.mem_of_getElem? (i := 168) rfl)) (by omega) (zp_r0 (by omega) (by omega)) ?_
                  refine zp_const (pc := 320) hx hb (zd_X12_reckonAll (320, .lconst 1, 1, 0, []) (List.mem_of_getElem? (i := 169) rfl)) rfl rfl ?_
                  refine zp_load (pc := 321) hx hb (zd_X12_reckonAll (321, .aload_n 0, 1, 0, []) (List.mem_of_getElem? (i := 170) rfl)) rfl (j := 4) rfl ?_
                  refine zp_getf (n := (b37 : Int)) (pc := 322) hx hb hE hw (zd_X12_reckonAll (322, .getfield 107, 3, 0, []) (List.mem_of_getElem? (i := 171) rfl)) (j := 55) rfl rfl rfl hp hm.2.2.2.2.1 ?_
                  refine zp_load (pc := 325) hx hb (zd_X12_reckonAll (325, .iload_n 3, 1, 0, []) (List.mem_of_getElem? (i := 172) rfl)) rfl (j := 3) rfl ?_
                  refine zp_const (pc := 326) hx hb (zd_X12_reckonAll (326, .iconst 1, 1, 0, []) (List.mem_of_getElem? (i := 173) rfl)) rfl rfl ?_
                  refine zp_sub (n := (d : Int)) (pc := 327) hx hb (zd_X12_reckonAll (327, .isub, 1, 0, []) (List.mem_of_getElem? (i := 174) rfl)) (by omega) (zp_r0 (by omega) (by omega)) ?_
                  refine zp_lald (j := d) (v := v1) (pc := 328) hx hb hw (zd_X12_reckonAll (328, .laload, 1, 0, []) (List.mem_of_getElem? (i := 175) rfl)) (show zp_ia 2 77 = some (400, 1, 0, (-9223372036854775808), 9223372036854775807) from rfl) q37 (by omega) (by omega) e1 ?_
                  refine zp_lsubx (n := (1 - v1)) (pc := 329) hx hb (zd_X12_reckonAll (329, .lsub, 1, 0, []) (List.mem_of_getElem? (i := 176) rfl)) rfl (zp_r1 (by omega) (by omega)) ?_
                  refine zp_last (j := d) (pc := 330) hx hb hw heff (zd_X12_reckonAll (330, .lastore, 1, 0, []) (List.mem_of_getElem? (i := 177) rfl)) (show zp_ia 2 77 = some (400, 1, 0, (-9223372036854775808), 9223372036854775807) from rfl) q37 (by omega) (by omega) rfl ?_
                  refine zp_goto (tgt := 368) (pc := 331) hx hb (zd_X12_reckonAll (331, .goto 37, 3, 0, []) (List.mem_of_getElem? (i := 178) rfl)) rfl ?_
                  refine zp_goto (tgt := 10) (pc := 368) hx hb (zd_X12_reckonAll (368, .goto (-358), 3, 0, []) (List.mem_of_getElem? (i := 197) rfl)) rfl ?_
                  refine zp_drop (L' := [(3, 0, ((d : Int) + 1)), (4, 0, ((b : Int) + 1)), (0, 2, (a : Int)), (1, 0, (i1 : Int)), (2, 0, (i2 : Int))]) (by simp) ?_
                  exact kk _ (zgR_b hm n37 n337 n3537) ((zp_set_ne (Or.inl n37)).trans h38) (fun j hj => zp_set_ne (Or.inr (by omega))) zp_set_self
              · exfalso
                omega
            · exfalso
              omega
          · exfalso
            omega
        · exfalso
          omega
  have step_br : ∀ (b d e9 : Nat) (v1 : Int) (G : Nat → Nat → Int), b < i2 → d < 400 → e9 ≤ 400 → zgR a b3 b35 b37 L R St G → G a 38 = 0 → (zg_op R L b = 29 ∨ zg_op R L b = 30) → zg_ar R L b = (e9 : Int) → G b37 (2000 + d) = v1 → (v1 = (if zg_op R L b = 29 then 0 else 1) → zp_J p l e Rm s m args below meth c Q w u [] 10 [(3, 0, ((d + 1 : Nat) : Int)), (4, 0, ((e9 : Nat) : Int)), (0, 2, (a : Int)), (1, 0, (i1 : Int)), (2, 0, (i2 : Int))] [] u.1 G) → (¬ v1 = (if zg_op R L b = 29 then 0 else 1) → zp_J p l e Rm s m args below meth c Q w u [] 10 [(3, 0, ((d : Nat) : Int)), (4, 0, ((b + 1 : Nat) : Int)), (0, 2, (a : Int)), (1, 0, (i1 : Int)), (2, 0, (i2 : Int))] [] u.1 G) → zp_J p l e Rm s m args below meth c Q w u [] 10 [(3, 0, ((d + 1 : Nat) : Int)), (4, 0, ((b : Nat) : Int)), (0, 2, (a : Int)), (1, 0, (i1 : Int)), (2, 0, (i2 : Int))] [] u.1 G := by
    clear step_lf step_bn step_nt
    intro b d e9 v1 G hb2 hd he9 hm h38 o1 o2 e1 kj kn
    have ho4 : R (L + 2 * b + 99) = (e9 : Int) := o2
    refine zp_drop (L' := [(3, 0, ((d : Int) + 1)), (4, 0, (b : Int)), (0, 2, (a : Int)), (1, 0, (i1 : Int)), (2, 0, (i2 : Int))]) (by simp <;> omega) ?_
    rcases o1 with o1 | o1
    · have ho3 : R (L + 2 * b + 98) = 29 := o1
      rw [o1] at kj kn
      refine zp_load (pc := 10) hx hb (zd_X12_reckonAll (10, .iload 4, 2, 0, []) (List.mem_of_getElem? (i := 7) rfl)) rfl (j := 1) rfl ?_
      refine zp_load (pc := 12) hx hb (zd_X12_reckonAll (12, .iload_n 2, 1, 0, []) (List.mem_of_getElem? (i := 8) rfl)) rfl (j := 4) rfl ?_
      refine zp_icmp (pc := 13) (tgt := 371) hx hb (zd_X12_reckonAll (13, .if_icmp .ge 358, 3, 0, []) (List.mem_of_getElem? (i := 9) rfl)) rfl (fun (hc55 : (i2 : Int) ≤ (b : Int)) => ?_) (fun (hc55 : ¬ ((i2 : Int) ≤ (b : Int))) => ?_)
      · exfalso
        omega
      · refine zp_load (pc := 16) hx hb (zd_X12_reckonAll (16, .aload_n 0, 1, 0, []) (List.mem_of_getElem? (i := 10) rfl)) rfl (j := 2) rfl ?_
        refine zp_getf (n := 0) (pc := 17) hx hb hE hw (zd_X12_reckonAll (17, .getfield 388, 3, 0, []) (List.mem_of_getElem? (i := 11) rfl)) (j := 56) rfl rfl rfl hp h38 ?_
        refine zp_if (pc := 20) (tgt := 371) hx hb (zd_X12_reckonAll (20, .ifCond .ne 351, 3, 0, []) (List.mem_of_getElem? (i := 12) rfl)) rfl (fun (hc56 : ¬ 0 = 0) => ?_) (fun (hc56 : ¬ (¬ 0 = 0)) => ?_)
        · exfalso
          omega
        · refine zp_load (pc := 23) hx hb (zd_X12_reckonAll (23, .aload_n 0, 1, 0, []) (List.mem_of_getElem? (i := 13) rfl)) rfl (j := 2) rfl ?_
          refine zp_getf (n := 0) (pc := 24) hx hb hE hw (zd_X12_reckonAll (24, .getfield 319, 3, 0, []) (List.mem_of_getElem? (i := 14) rfl)) (j := 38) rfl rfl rfl hp hm.1 ?_
          refine zp_if (pc := 27) (tgt := 40) hx hb (zd_X12_reckonAll (27, .ifCond .eq 13, 3, 0, []) (List.mem_of_getElem? (i := 15) rfl)) rfl (fun (hc57 : 0 = 0) => ?_) (fun (hc57 : ¬ (0 = 0)) => ?_)
          · refine zp_load (pc := 40) hx hb (zd_X12_reckonAll (40, .aload_n 0, 1, 0, []) (List.mem_of_getElem? (i := 21) rfl)) rfl (j := 2) rfl ?_
            refine zp_getf (n := (b3 : Int)) (pc := 41) hx hb hE hw (zd_X12_reckonAll (41, .getfield 13, 3, 0, []) (List.mem_of_getElem? (i := 22) rfl)) (j := 21) rfl rfl rfl hp hm.2.1 ?_
            refine zp_load (pc := 44) hx hb (zd_X12_reckonAll (44, .aload_n 0, 1, 0, []) (List.mem_of_getElem? (i := 23) rfl)) rfl (j := 2) rfl ?_
            refine zp_getf (n := (L : Int)) (pc := 45) hx hb hE hw (zd_X12_reckonAll (45, .getfield 391, 3, 0, []) (List.mem_of_getElem? (i := 24) rfl)) (j := 52) rfl rfl rfl hp hm.2.2.1 ?_
            refine zp_const (pc := 48) hx hb (zd_X12_reckonAll (48, .bipush 98, 2, 0, []) (List.mem_of_getElem? (i := 25) rfl)) rfl rfl ?_
            refine zp_add (n := ((L : Int) + 98)) (pc := 50) hx hb (zd_X12_reckonAll (50, .iadd, 1, 0, []) (List.mem_of_getElem? (i := 26) rfl)) (by omega) (zp_r0 (by omega) (by omega)) ?_
            refine zp_const (pc := 51) hx hb (zd_X12_reckonAll (51, .iconst 2, 1, 0, []) (List.mem_of_getElem? (i := 27) rfl)) rfl rfl ?_
            refine zp_load (pc := 52) hx hb (zd_X12_reckonAll (52, .iload 4, 2, 0, []) (List.mem_of_getElem? (i := 28) rfl)) rfl (j := 1) rfl ?_
            refine zp_mul (n := (2 * (b : Int))) (pc := 54) hx hb (zd_X12_reckonAll (54, .imul, 1, 0, []) (List.mem_of_getElem? (i := 29) rfl)) (by omega) (zp_r0 (by omega) (by omega)) ?_
            refine zp_add (n := ((L : Int) + 2 * (b : Int) + 98)) (pc := 55) hx hb (zd_X12_reckonAll (55, .iadd, 1, 0, []) (List.mem_of_getElem? (i := 30) rfl)) (by omega) (zp_r0 (by omega) (by omega)) ?_
            refine zp_ialdT (j := (L + 2 * b + 98)) (v := 29) (pc := 56) hx hb hw (zd_X12_reckonAll (56, .iaload, 1, 0, []) (List.mem_of_getElem? (i := 31) rfl)) zl_T59 rfl (zl_kd ((L + 2 * b + 98))) q3 (by omega) (show (L + 2 * b + 98) < 5580 by omega) ((hm.2.2.2.2.2.1 _).trans ho3) (fun hk58 => ?_)
            refine zp_store (L' := [(5, 0, 29), (3, 0, ((d : Int) + 1)), (4, 0, (b : Int)), (0, 2, (a : Int)), (1, 0, (i1 : Int)), (2, 0, (i2 : Int))]) (pc := 57) hx hb hnL (zd_X12_reckonAll (57, .istore 5, 2, 0, []) (List.mem_of_getElem? (i := 32) rfl)) rfl rfl rfl ?_
            refine zp_load (pc := 59) hx hb (zd_X12_reckonAll (59, .aload_n 0, 1, 0, []) (List.mem_of_getElem? (i := 33) rfl)) rfl (j := 3) rfl ?_
            refine zp_getf (n := 0) (pc := 60) hx hb hE hw (zd_X12_reckonAll (60, .getfield 319, 3, 0, []) (List.mem_of_getElem? (i := 34) rfl)) (j := 38) rfl rfl rfl hp hm.1 ?_
            refine zp_if (pc := 63) (tgt := 76) hx hb (zd_X12_reckonAll (63, .ifCond .eq 13, 3, 0, []) (List.mem_of_getElem? (i := 35) rfl)) rfl (fun (hc59 : 0 = 0) => ?_) (fun (hc59 : ¬ (0 = 0)) => ?_)
            · refine zp_load (pc := 76) hx hb (zd_X12_reckonAll (76, .aload_n 0, 1, 0, []) (List.mem_of_getElem? (i := 41) rfl)) rfl (j := 3) rfl ?_
              refine zp_getf (n := (b3 : Int)) (pc := 77) hx hb hE hw (zd_X12_reckonAll (77, .getfield 13, 3, 0, []) (List.mem_of_getElem? (i := 42) rfl)) (j := 21) rfl rfl rfl hp hm.2.1 ?_
              refine zp_load (pc := 80) hx hb (zd_X12_reckonAll (80, .aload_n 0, 1, 0, []) (List.mem_of_getElem? (i := 43) rfl)) rfl (j := 3) rfl ?_
              refine zp_getf (n := (L : Int)) (pc := 81) hx hb hE hw (zd_X12_reckonAll (81, .getfield 391, 3, 0, []) (List.mem_of_getElem? (i := 44) rfl)) (j := 52) rfl rfl rfl hp hm.2.2.1 ?_
              refine zp_const (pc := 84) hx hb (zd_X12_reckonAll (84, .bipush 98, 2, 0, []) (List.mem_of_getElem? (i := 45) rfl)) rfl rfl ?_
              refine zp_add (n := ((L : Int) + 98)) (pc := 86) hx hb (zd_X12_reckonAll (86, .iadd, 1, 0, []) (List.mem_of_getElem? (i := 46) rfl)) (by omega) (zp_r0 (by omega) (by omega)) ?_
              refine zp_const (pc := 87) hx hb (zd_X12_reckonAll (87, .iconst 2, 1, 0, []) (List.mem_of_getElem? (i := 47) rfl)) rfl rfl ?_
              refine zp_load (pc := 88) hx hb (zd_X12_reckonAll (88, .iload 4, 2, 0, []) (List.mem_of_getElem? (i := 48) rfl)) rfl (j := 2) rfl ?_
              refine zp_mul (n := (2 * (b : Int))) (pc := 90) hx hb (zd_X12_reckonAll (90, .imul, 1, 0, []) (List.mem_of_getElem? (i := 49) rfl)) (by omega) (zp_r0 (by omega) (by omega)) ?_
              refine zp_add (n := ((L : Int) + 2 * (b : Int) + 98)) (pc := 91) hx hb (zd_X12_reckonAll (91, .iadd, 1, 0, []) (List.mem_of_getElem? (i := 50) rfl)) (by omega) (zp_r0 (by omega) (by omega)) ?_
              refine zp_const (pc := 92) hx hb (zd_X12_reckonAll (92, .iconst 1, 1, 0, []) (List.mem_of_getElem? (i := 51) rfl)) rfl rfl ?_
              refine zp_add (n := ((L : Int) + 2 * (b : Int) + 99)) (pc := 93) hx hb (zd_X12_reckonAll (93, .iadd, 1, 0, []) (List.mem_of_getElem? (i := 52) rfl)) (by omega) (zp_r0 (by omega) (by omega)) ?_
              refine zp_ialdT (j := (L + 2 * b + 99)) (v := (e9 : Int)) (pc := 94) hx hb hw (zd_X12_reckonAll (94, .iaload, 1, 0, []) (List.mem_of_getElem? (i := 53) rfl)) zl_T59 rfl (zl_kd ((L + 2 * b + 99))) q3 (by omega) (show (L + 2 * b + 99) < 5580 by omega) ((hm.2.2.2.2.2.1 _).trans ho4) (fun hk60 => ?_)
              refine zp_store (L' := [(6, 0, (e9 : Int)), (5, 0, 29), (3, 0, ((d : Int) + 1)), (4, 0, (b : Int)), (0, 2, (a : Int)), (1, 0, (i1 : Int)), (2, 0, (i2 : Int))]) (pc := 95) hx hb hnL (zd_X12_reckonAll (95, .istore 6, 2, 0, []) (List.mem_of_getElem? (i := 54) rfl)) rfl rfl rfl ?_
              refine zp_iinc (L' := [(4, 0, ((b : Int) + 1)), (6, 0, (e9 : Int)), (5, 0, 29), (3, 0, ((d : Int) + 1)), (0, 2, (a : Int)), (1, 0, (i1 : Int)), (2, 0, (i2 : Int))]) (n := ((b : Int) + 1)) (pc := 97) hx hb hnL (zd_X12_reckonAll (97, .iinc 4 1, 3, 0, []) (List.mem_of_getElem? (i := 55) rfl)) (j := 3) rfl (by omega) (zp_r0 (by omega) (by omega)) rfl rfl ?_
              refine zp_load (pc := 100) hx hb (zd_X12_reckonAll (100, .iload 5, 2, 0, []) (List.mem_of_getElem? (i := 56) rfl)) rfl (j := 2) rfl ?_
              refine zp_const (pc := 102) hx hb (zd_X12_reckonAll (102, .bipush 20, 2, 0, []) (List.mem_of_getElem? (i := 57) rfl)) rfl rfl ?_
              refine zp_icmp (pc := 104) (tgt := 229) hx hb (zd_X12_reckonAll (104, .if_icmp .ge 125, 3, 0, []) (List.mem_of_getElem? (i := 58) rfl)) rfl (fun (hc61 : 20 ≤ 29) => ?_) (fun (hc61 : ¬ (20 ≤ 29)) => ?_)
              · refine zp_load (pc := 229) hx hb (zd_X12_reckonAll (229, .iload 5, 2, 0, []) (List.mem_of_getElem? (i := 119) rfl)) rfl (j := 2) rfl ?_
                refine zp_const (pc := 231) hx hb (zd_X12_reckonAll (231, .bipush 28, 2, 0, []) (List.mem_of_getElem? (i := 120) rfl)) rfl rfl ?_
                refine zp_icmp (pc := 233) (tgt := 306) hx hb (zd_X12_reckonAll (233, .if_icmp .ge 73, 3, 0, []) (List.mem_of_getElem? (i := 121) rfl)) rfl (fun (hc62 : 28 ≤ 29) => ?_) (fun (hc62 : ¬ (28 ≤ 29)) => ?_)
                · refine zp_load (pc := 306) hx hb (zd_X12_reckonAll (306, .iload 5, 2, 0, []) (List.mem_of_getElem? (i := 161) rfl)) rfl (j := 2) rfl ?_
                  refine zp_const (pc := 308) hx hb (zd_X12_reckonAll (308, .bipush 28, 2, 0, []) (List.mem_of_getElem? (i := 162) rfl)) rfl rfl ?_
                  refine zp_icmp (pc := 310) (tgt := 334) hx hb (zd_X12_reckonAll (310, .if_icmp .ne 24, 3, 0, []) (List.mem_of_getElem? (i := 163) rfl)) rfl (fun (hc63 : ¬ 29 = 28) => ?_) (fun (hc63 : ¬ (¬ 29 = 28)) => ?_)
                  · refine zp_load (pc := 334) hx hb (zd_X12_reckonAll (334, .aload_n 0, 1, 0, []) (List.mem_of_getElem? (i := 179) rfl)) rfl (j := 4) rfl ?_
                    refine zp_getf (n := (b37 : Int)) (pc := 335) hx hb hE hw (zd_X12_reckonAll (335, .getfield 107, 3, 0, []) (List.mem_of_getElem? (i := 180) rfl)) (j := 55) rfl rfl rfl hp hm.2.2.2.2.1 ?_
                    refine zp_load (pc := 338) hx hb (zd_X12_reckonAll (338, .iload_n 3, 1, 0, []) (List.mem_of_getElem? (i := 181) rfl)) rfl (j := 3) rfl ?_
                    refine zp_const (pc := 339) hx hb (zd_X12_reckonAll (339, .iconst 1, 1, 0, []) (List.mem_of_getElem? (i := 182) rfl)) rfl rfl ?_
                    refine zp_sub (n := (d : Int)) (pc := 340) hx hb (zd_X12_reckonAll (340, .isub, 1, 0, []) (List.mem_of_getElem? (i := 183) rfl)) (by omega) (zp_r0 (by omega) (by omega)) ?_
                    refine zp_lald (j := d) (v := v1) (pc := 341) hx hb hw (zd_X12_reckonAll (341, .laload, 1, 0, []) (List.mem_of_getElem? (i := 184) rfl)) (show zp_ia 2 77 = some (400, 1, 0, (-9223372036854775808), 9223372036854775807) from rfl) q37 (by omega) (by omega) e1 ?_
                    refine zp_load (pc := 342) hx hb (zd_X12_reckonAll (342, .iload 5, 2, 0, []) (List.mem_of_getElem? (i := 185) rfl)) rfl (j := 2) rfl ?_
                    refine zp_const (pc := 344) hx hb (zd_X12_reckonAll (344, .bipush 29, 2, 0, []) (List.mem_of_getElem? (i := 186) rfl)) rfl rfl ?_
                    refine zp_icmp (pc := 346) (tgt := 353) hx hb (zd_X12_reckonAll (346, .if_icmp .ne 7, 3, 0, []) (List.mem_of_getElem? (i := 187) rfl)) rfl (fun (hc65 : ¬ 29 = 29) => ?_) (fun (hc65 : ¬ (¬ 29 = 29)) => ?_)
                    · exfalso
                      omega
                    · refine zp_const (pc := 349) hx hb (zd_X12_reckonAll (349, .lconst 0, 1, 0, []) (List.mem_of_getElem? (i := 188) rfl)) rfl rfl ?_
                      refine zp_goto (tgt := 354) (pc := 350) hx hb (zd_X12_reckonAll (350, .goto 4, 3, 0, []) (List.mem_of_getElem? (i := 189) rfl)) rfl ?_
                      refine zp_lcmp (pc := 354) (tgt := 365) hx hb (zd_X12_reckonAll (354, .lcmp, 1, 0, []) (List.mem_of_getElem? (i := 191) rfl)) (zd_X12_reckonAll (355, .ifCond .ne 10, 3, 0, []) (List.mem_of_getElem? (i := 192) rfl)) rfl (fun (hc66 : ¬ v1 = 0) => ?_) (fun (hc66 : ¬ (¬ v1 = 0)) => ?_)
                      · refine zp_iinc (L' := [(3, 0, (d : Int)), (4, 0, ((b : Int) + 1)), (6, 0, (e9 : Int)), (5, 0, 29), (0, 2, (a : Int)), (1, 0, (i1 : Int)), (2, 0, (i2 : Int))]) (n := (d : Int)) (pc := 365) hx hb hnL (zd_X12_reckonAll (365, .iinc 3 (-1), 3, 0, []) (List.mem_of_getElem? (i := 196) rfl)) (j := 3) rfl (by omega) (zp_r0 (by omega) (by omega)) rfl rfl ?_
                        refine zp_goto (tgt := 10) (pc := 368) hx hb (zd_X12_reckonAll (368, .goto (-358), 3, 0, []) (List.mem_of_getElem? (i := 197) rfl)) rfl ?_
                        refine zp_drop (L' := [(3, 0, (d : Int)), (4, 0, ((b : Int) + 1)), (0, 2, (a : Int)), (1, 0, (i1 : Int)), (2, 0, (i2 : Int))]) (by simp) ?_
                        exact kn (by first | rw [if_pos rfl]; omega | rw [if_neg (by decide)]; omega)
                      · refine zp_load (pc := 358) hx hb (zd_X12_reckonAll (358, .iload 6, 2, 0, []) (List.mem_of_getElem? (i := 193) rfl)) rfl (j := 1) rfl ?_
                        refine zp_store (L' := [(4, 0, (e9 : Int)), (6, 0, (e9 : Int)), (5, 0, 29), (3, 0, ((d : Int) + 1)), (0, 2, (a : Int)), (1, 0, (i1 : Int)), (2, 0, (i2 : Int))]) (pc := 360) hx hb hnL (zd_X12_reckonAll (360, .istore 4, 2, 0, []) (List.mem_of_getElem? (i := 194) rfl)) rfl rfl rfl ?_
                        refine zp_goto (tgt := 368) (pc := 362) hx hb (zd_X12_reckonAll (362, .goto 6, 3, 0, []) (List.mem_of_getElem? (i := 195) rfl)) rfl ?_
                        refine zp_goto (tgt := 10) (pc := 368) hx hb (zd_X12_reckonAll (368, .goto (-358), 3, 0, []) (List.mem_of_getElem? (i := 197) rfl)) rfl ?_
                        refine zp_drop (L' := [(3, 0, ((d : Int) + 1)), (4, 0, (e9 : Int)), (0, 2, (a : Int)), (1, 0, (i1 : Int)), (2, 0, (i2 : Int))]) (by simp) ?_
                        exact kj (by first | rw [if_pos rfl]; omega | rw [if_neg (by decide)]; omega)
                  · exfalso
                    omega
                · exfalso
                  omega
              · exfalso
                omega
            · exfalso
              omega
          · exfalso
            omega
    · have ho3 : R (L + 2 * b + 98) = 30 := o1
      rw [o1] at kj kn
      refine zp_load (pc := 10) hx hb (zd_X12_reckonAll (10, .iload 4, 2, 0, []) (List.mem_of_getElem? (i := 7) rfl)) rfl (j := 1) rfl ?_
      refine zp_load (pc := 12) hx hb (zd_X12_reckonAll (12, .iload_n 2, 1, 0, []) (List.mem_of_getElem? (i := 8) rfl)) rfl (j := 4) rfl ?_
      refine zp_icmp (pc := 13) (tgt := 371) hx hb (zd_X12_reckonAll (13, .if_icmp .ge 358, 3, 0, []) (List.mem_of_getElem? (i := 9) rfl)) rfl (fun (hc67 : (i2 : Int) ≤ (b : Int)) => ?_) (fun (hc67 : ¬ ((i2 : Int) ≤ (b : Int))) => ?_)
      · exfalso
        omega
      · refine zp_load (pc := 16) hx hb (zd_X12_reckonAll (16, .aload_n 0, 1, 0, []) (List.mem_of_getElem? (i := 10) rfl)) rfl (j := 2) rfl ?_
        refine zp_getf (n := 0) (pc := 17) hx hb hE hw (zd_X12_reckonAll (17, .getfield 388, 3, 0, []) (List.mem_of_getElem? (i := 11) rfl)) (j := 56) rfl rfl rfl hp h38 ?_
        refine zp_if (pc := 20) (tgt := 371) hx hb (zd_X12_reckonAll (20, .ifCond .ne 351, 3, 0, []) (List.mem_of_getElem? (i := 12) rfl)) rfl (fun (hc68 : ¬ 0 = 0) => ?_) (fun (hc68 : ¬ (¬ 0 = 0)) => ?_)
        · exfalso
          omega
        · refine zp_load (pc := 23) hx hb (zd_X12_reckonAll (23, .aload_n 0, 1, 0, []) (List.mem_of_getElem? (i := 13) rfl)) rfl (j := 2) rfl ?_
          refine zp_getf (n := 0) (pc := 24) hx hb hE hw (zd_X12_reckonAll (24, .getfield 319, 3, 0, []) (List.mem_of_getElem? (i := 14) rfl)) (j := 38) rfl rfl rfl hp hm.1 ?_
          refine zp_if (pc := 27) (tgt := 40) hx hb (zd_X12_reckonAll (27, .ifCond .eq 13, 3, 0, []) (List.mem_of_getElem? (i := 15) rfl)) rfl (fun (hc69 : 0 = 0) => ?_) (fun (hc69 : ¬ (0 = 0)) => ?_)
          · refine zp_load (pc := 40) hx hb (zd_X12_reckonAll (40, .aload_n 0, 1, 0, []) (List.mem_of_getElem? (i := 21) rfl)) rfl (j := 2) rfl ?_
            refine zp_getf (n := (b3 : Int)) (pc := 41) hx hb hE hw (zd_X12_reckonAll (41, .getfield 13, 3, 0, []) (List.mem_of_getElem? (i := 22) rfl)) (j := 21) rfl rfl rfl hp hm.2.1 ?_
            refine zp_load (pc := 44) hx hb (zd_X12_reckonAll (44, .aload_n 0, 1, 0, []) (List.mem_of_getElem? (i := 23) rfl)) rfl (j := 2) rfl ?_
            refine zp_getf (n := (L : Int)) (pc := 45) hx hb hE hw (zd_X12_reckonAll (45, .getfield 391, 3, 0, []) (List.mem_of_getElem? (i := 24) rfl)) (j := 52) rfl rfl rfl hp hm.2.2.1 ?_
            refine zp_const (pc := 48) hx hb (zd_X12_reckonAll (48, .bipush 98, 2, 0, []) (List.mem_of_getElem? (i := 25) rfl)) rfl rfl ?_
            refine zp_add (n := ((L : Int) + 98)) (pc := 50) hx hb (zd_X12_reckonAll (50, .iadd, 1, 0, []) (List.mem_of_getElem? (i := 26) rfl)) (by omega) (zp_r0 (by omega) (by omega)) ?_
            refine zp_const (pc := 51) hx hb (zd_X12_reckonAll (51, .iconst 2, 1, 0, []) (List.mem_of_getElem? (i := 27) rfl)) rfl rfl ?_
            refine zp_load (pc := 52) hx hb (zd_X12_reckonAll (52, .iload 4, 2, 0, []) (List.mem_of_getElem? (i := 28) rfl)) rfl (j := 1) rfl ?_
            refine zp_mul (n := (2 * (b : Int))) (pc := 54) hx hb (zd_X12_reckonAll (54, .imul, 1, 0, []) (List.mem_of_getElem? (i := 29) rfl)) (by omega) (zp_r0 (by omega) (by omega)) ?_
            refine zp_add (n := ((L : Int) + 2 * (b : Int) + 98)) (pc := 55) hx hb (zd_X12_reckonAll (55, .iadd, 1, 0, []) (List.mem_of_getElem? (i := 30) rfl)) (by omega) (zp_r0 (by omega) (by omega)) ?_
            refine zp_ialdT (j := (L + 2 * b + 98)) (v := 30) (pc := 56) hx hb hw (zd_X12_reckonAll (56, .iaload, 1, 0, []) (List.mem_of_getElem? (i := 31) rfl)) zl_T59 rfl (zl_kd ((L + 2 * b + 98))) q3 (by omega) (show (L + 2 * b + 98) < 5580 by omega) ((hm.2.2.2.2.2.1 _).trans ho3) (fun hk70 => ?_)
            refine zp_store (L' := [(5, 0, 30), (3, 0, ((d : Int) + 1)), (4, 0, (b : Int)), (0, 2, (a : Int)), (1, 0, (i1 : Int)), (2, 0, (i2 : Int))]) (pc := 57) hx hb hnL (zd_X12_reckonAll (57, .istore 5, 2, 0, []) (List.mem_of_getElem? (i := 32) rfl)) rfl rfl rfl ?_
            refine zp_load (pc := 59) hx hb (zd_X12_reckonAll (59, .aload_n 0, 1, 0, []) (List.mem_of_getElem? (i := 33) rfl)) rfl (j := 3) rfl ?_
            refine zp_getf (n := 0) (pc := 60) hx hb hE hw (zd_X12_reckonAll (60, .getfield 319, 3, 0, []) (List.mem_of_getElem? (i := 34) rfl)) (j := 38) rfl rfl rfl hp hm.1 ?_
            refine zp_if (pc := 63) (tgt := 76) hx hb (zd_X12_reckonAll (63, .ifCond .eq 13, 3, 0, []) (List.mem_of_getElem? (i := 35) rfl)) rfl (fun (hc71 : 0 = 0) => ?_) (fun (hc71 : ¬ (0 = 0)) => ?_)
            · refine zp_load (pc := 76) hx hb (zd_X12_reckonAll (76, .aload_n 0, 1, 0, []) (List.mem_of_getElem? (i := 41) rfl)) rfl (j := 3) rfl ?_
              refine zp_getf (n := (b3 : Int)) (pc := 77) hx hb hE hw (zd_X12_reckonAll (77, .getfield 13, 3, 0, []) (List.mem_of_getElem? (i := 42) rfl)) (j := 21) rfl rfl rfl hp hm.2.1 ?_
              refine zp_load (pc := 80) hx hb (zd_X12_reckonAll (80, .aload_n 0, 1, 0, []) (List.mem_of_getElem? (i := 43) rfl)) rfl (j := 3) rfl ?_
              refine zp_getf (n := (L : Int)) (pc := 81) hx hb hE hw (zd_X12_reckonAll (81, .getfield 391, 3, 0, []) (List.mem_of_getElem? (i := 44) rfl)) (j := 52) rfl rfl rfl hp hm.2.2.1 ?_
              refine zp_const (pc := 84) hx hb (zd_X12_reckonAll (84, .bipush 98, 2, 0, []) (List.mem_of_getElem? (i := 45) rfl)) rfl rfl ?_
              refine zp_add (n := ((L : Int) + 98)) (pc := 86) hx hb (zd_X12_reckonAll (86, .iadd, 1, 0, []) (List.mem_of_getElem? (i := 46) rfl)) (by omega) (zp_r0 (by omega) (by omega)) ?_
              refine zp_const (pc := 87) hx hb (zd_X12_reckonAll (87, .iconst 2, 1, 0, []) (List.mem_of_getElem? (i := 47) rfl)) rfl rfl ?_
              refine zp_load (pc := 88) hx hb (zd_X12_reckonAll (88, .iload 4, 2, 0, []) (List.mem_of_getElem? (i := 48) rfl)) rfl (j := 2) rfl ?_
              refine zp_mul (n := (2 * (b : Int))) (pc := 90) hx hb (zd_X12_reckonAll (90, .imul, 1, 0, []) (List.mem_of_getElem? (i := 49) rfl)) (by omega) (zp_r0 (by omega) (by omega)) ?_
              refine zp_add (n := ((L : Int) + 2 * (b : Int) + 98)) (pc := 91) hx hb (zd_X12_reckonAll (91, .iadd, 1, 0, []) (List.mem_of_getElem? (i := 50) rfl)) (by omega) (zp_r0 (by omega) (by omega)) ?_
              refine zp_const (pc := 92) hx hb (zd_X12_reckonAll (92, .iconst 1, 1, 0, []) (List.mem_of_getElem? (i := 51) rfl)) rfl rfl ?_
              refine zp_add (n := ((L : Int) + 2 * (b : Int) + 99)) (pc := 93) hx hb (zd_X12_reckonAll (93, .iadd, 1, 0, []) (List.mem_of_getElem? (i := 52) rfl)) (by omega) (zp_r0 (by omega) (by omega)) ?_
              refine zp_ialdT (j := (L + 2 * b + 99)) (v := (e9 : Int)) (pc := 94) hx hb hw (zd_X12_reckonAll (94, .iaload, 1, 0, []) (List.mem_of_getElem? (i := 53) rfl)) zl_T59 rfl (zl_kd ((L + 2 * b + 99))) q3 (by omega) (show (L + 2 * b + 99) < 5580 by omega) ((hm.2.2.2.2.2.1 _).trans ho4) (fun hk72 => ?_)
              refine zp_store (L' := [(6, 0, (e9 : Int)), (5, 0, 30), (3, 0, ((d : Int) + 1)), (4, 0, (b : Int)), (0, 2, (a : Int)), (1, 0, (i1 : Int)), (2, 0, (i2 : Int))]) (pc := 95) hx hb hnL (zd_X12_reckonAll (95, .istore 6, 2, 0, []) (List.mem_of_getElem? (i := 54) rfl)) rfl rfl rfl ?_
              refine zp_iinc (L' := [(4, 0, ((b : Int) + 1)), (6, 0, (e9 : Int)), (5, 0, 30), (3, 0, ((d : Int) + 1)), (0, 2, (a : Int)), (1, 0, (i1 : Int)), (2, 0, (i2 : Int))]) (n := ((b : Int) + 1)) (pc := 97) hx hb hnL (zd_X12_reckonAll (97, .iinc 4 1, 3, 0, []) (List.mem_of_getElem? (i := 55) rfl)) (j := 3) rfl (by omega) (zp_r0 (by omega) (by omega)) rfl rfl ?_
              refine zp_load (pc := 100) hx hb (zd_X12_reckonAll (100, .iload 5, 2, 0, []) (List.mem_of_getElem? (i := 56) rfl)) rfl (j := 2) rfl ?_
              refine zp_const (pc := 102) hx hb (zd_X12_reckonAll (102, .bipush 20, 2, 0, []) (List.mem_of_getElem? (i := 57) rfl)) rfl rfl ?_
              refine zp_icmp (pc := 104) (tgt := 229) hx hb (zd_X12_reckonAll (104, .if_icmp .ge 125, 3, 0, []) (List.mem_of_getElem? (i := 58) rfl)) rfl (fun (hc73 : 20 ≤ 30) => ?_) (fun (hc73 : ¬ (20 ≤ 30)) => ?_)
              · refine zp_load (pc := 229) hx hb (zd_X12_reckonAll (229, .iload 5, 2, 0, []) (List.mem_of_getElem? (i := 119) rfl)) rfl (j := 2) rfl ?_
                refine zp_const (pc := 231) hx hb (zd_X12_reckonAll (231, .bipush 28, 2, 0, []) (List.mem_of_getElem? (i := 120) rfl)) rfl rfl ?_
                refine zp_icmp (pc := 233) (tgt := 306) hx hb (zd_X12_reckonAll (233, .if_icmp .ge 73, 3, 0, []) (List.mem_of_getElem? (i := 121) rfl)) rfl (fun (hc74 : 28 ≤ 30) => ?_) (fun (hc74 : ¬ (28 ≤ 30)) => ?_)
                · refine zp_load (pc := 306) hx hb (zd_X12_reckonAll (306, .iload 5, 2, 0, []) (List.mem_of_getElem? (i := 161) rfl)) rfl (j := 2) rfl ?_
                  refine zp_const (pc := 308) hx hb (zd_X12_reckonAll (308, .bipush 28, 2, 0, []) (List.mem_of_getElem? (i := 162) rfl)) rfl rfl ?_
                  refine zp_icmp (pc := 310) (tgt := 334) hx hb (zd_X12_reckonAll (310, .if_icmp .ne 24, 3, 0, []) (List.mem_of_getElem? (i := 163) rfl)) rfl (fun (hc75 : ¬ 30 = 28) => ?_) (fun (hc75 : ¬ (¬ 30 = 28)) => ?_)
                  · refine zp_load (pc := 334) hx hb (zd_X12_reckonAll (334, .aload_n 0, 1, 0, []) (List.mem_of_getElem? (i := 179) rfl)) rfl (j := 4) rfl ?_
                    refine zp_getf (n := (b37 : Int)) (pc := 335) hx hb hE hw (zd_X12_reckonAll (335, .getfield 107, 3, 0, []) (List.mem_of_getElem? (i := 180) rfl)) (j := 55) rfl rfl rfl hp hm.2.2.2.2.1 ?_
                    refine zp_load (pc := 338) hx hb (zd_X12_reckonAll (338, .iload_n 3, 1, 0, []) (List.mem_of_getElem? (i := 181) rfl)) rfl (j := 3) rfl ?_
                    refine zp_const (pc := 339) hx hb (zd_X12_reckonAll (339, .iconst 1, 1, 0, []) (List.mem_of_getElem? (i := 182) rfl)) rfl rfl ?_
                    refine zp_sub (n := (d : Int)) (pc := 340) hx hb (zd_X12_reckonAll (340, .isub, 1, 0, []) (List.mem_of_getElem? (i := 183) rfl)) (by omega) (zp_r0 (by omega) (by omega)) ?_
                    refine zp_lald (j := d) (v := v1) (pc := 341) hx hb hw (zd_X12_reckonAll (341, .laload, 1, 0, []) (List.mem_of_getElem? (i := 184) rfl)) (show zp_ia 2 77 = some (400, 1, 0, (-9223372036854775808), 9223372036854775807) from rfl) q37 (by omega) (by omega) e1 ?_
                    refine zp_load (pc := 342) hx hb (zd_X12_reckonAll (342, .iload 5, 2, 0, []) (List.mem_of_getElem? (i := 185) rfl)) rfl (j := 2) rfl ?_
                    refine zp_const (pc := 344) hx hb (zd_X12_reckonAll (344, .bipush 29, 2, 0, []) (List.mem_of_getElem? (i := 186) rfl)) rfl rfl ?_
                    refine zp_icmp (pc := 346) (tgt := 353) hx hb (zd_X12_reckonAll (346, .if_icmp .ne 7, 3, 0, []) (List.mem_of_getElem? (i := 187) rfl)) rfl (fun (hc77 : ¬ 30 = 29) => ?_) (fun (hc77 : ¬ (¬ 30 = 29)) => ?_)
                    · refine zp_const (pc := 353) hx hb (zd_X12_reckonAll (353, .lconst 1, 1, 0, []) (List.mem_of_getElem? (i := 190) rfl)) rfl rfl ?_
                      refine zp_lcmp (pc := 354) (tgt := 365) hx hb (zd_X12_reckonAll (354, .lcmp, 1, 0, []) (List.mem_of_getElem? (i := 191) rfl)) (zd_X12_reckonAll (355, .ifCond .ne 10, 3, 0, []) (List.mem_of_getElem? (i := 192) rfl)) rfl (fun (hc78 : ¬ v1 = 1) => ?_) (fun (hc78 : ¬ (¬ v1 = 1)) => ?_)
                      · refine zp_iinc (L' := [(3, 0, (d : Int)), (4, 0, ((b : Int) + 1)), (6, 0, (e9 : Int)), (5, 0, 30), (0, 2, (a : Int)), (1, 0, (i1 : Int)), (2, 0, (i2 : Int))]) (n := (d : Int)) (pc := 365) hx hb hnL (zd_X12_reckonAll (365, .iinc 3 (-1), 3, 0, []) (List.mem_of_getElem? (i := 196) rfl)) (j := 3) rfl (by omega) (zp_r0 (by omega) (by omega)) rfl rfl ?_
                        refine zp_goto (tgt := 10) (pc := 368) hx hb (zd_X12_reckonAll (368, .goto (-358), 3, 0, []) (List.mem_of_getElem? (i := 197) rfl)) rfl ?_
                        refine zp_drop (L' := [(3, 0, (d : Int)), (4, 0, ((b : Int) + 1)), (0, 2, (a : Int)), (1, 0, (i1 : Int)), (2, 0, (i2 : Int))]) (by simp) ?_
                        exact kn (by first | rw [if_pos rfl]; omega | rw [if_neg (by decide)]; omega)
                      · refine zp_load (pc := 358) hx hb (zd_X12_reckonAll (358, .iload 6, 2, 0, []) (List.mem_of_getElem? (i := 193) rfl)) rfl (j := 1) rfl ?_
                        refine zp_store (L' := [(4, 0, (e9 : Int)), (6, 0, (e9 : Int)), (5, 0, 30), (3, 0, ((d : Int) + 1)), (0, 2, (a : Int)), (1, 0, (i1 : Int)), (2, 0, (i2 : Int))]) (pc := 360) hx hb hnL (zd_X12_reckonAll (360, .istore 4, 2, 0, []) (List.mem_of_getElem? (i := 194) rfl)) rfl rfl rfl ?_
                        refine zp_goto (tgt := 368) (pc := 362) hx hb (zd_X12_reckonAll (362, .goto 6, 3, 0, []) (List.mem_of_getElem? (i := 195) rfl)) rfl ?_
                        refine zp_goto (tgt := 10) (pc := 368) hx hb (zd_X12_reckonAll (368, .goto (-358), 3, 0, []) (List.mem_of_getElem? (i := 197) rfl)) rfl ?_
                        refine zp_drop (L' := [(3, 0, ((d : Int) + 1)), (4, 0, (e9 : Int)), (0, 2, (a : Int)), (1, 0, (i1 : Int)), (2, 0, (i2 : Int))]) (by simp) ?_
                        exact kj (by first | rw [if_pos rfl]; omega | rw [if_neg (by decide)]; omega)
                    · exfalso
                      omega
                  · exfalso
                    omega
                · exfalso
                  omega
              · exfalso
                omega
            · exfalso
              omega
          · exfalso
            omega
  have exitv : ∀ (v1 : Int) (G : Nat → Nat → Int), zgR a b3 b35 b37 L R St G → G a 38 = 0 → G b37 (2000 + 0) = v1 → -2147483648 ≤ v1 ∧ v1 ≤ 2147483648 → x (zg_en St) = some v1 → zp_J p l e Rm s m args below meth c Q w u [] 10 [(3, 0, ((1 : Nat) : Int)), (4, 0, ((i2 : Nat) : Int)), (0, 2, (a : Int)), (1, 0, (i1 : Int)), (2, 0, (i2 : Int))] [] u.1 G := by
    clear step_lf step_bn step_nt step_br
    intro v1 G hm h38 e1 bd1 hxv
    refine zp_drop (L' := [(3, 0, 1), (4, 0, (i2 : Int)), (0, 2, (a : Int)), (1, 0, (i1 : Int)), (2, 0, (i2 : Int))]) (by simp) ?_
    refine zp_load (pc := 10) hx hb (zd_X12_reckonAll (10, .iload 4, 2, 0, []) (List.mem_of_getElem? (i := 7) rfl)) rfl (j := 1) rfl ?_
    refine zp_load (pc := 12) hx hb (zd_X12_reckonAll (12, .iload_n 2, 1, 0, []) (List.mem_of_getElem? (i := 8) rfl)) rfl (j := 4) rfl ?_
    refine zp_icmp (pc := 13) (tgt := 371) hx hb (zd_X12_reckonAll (13, .if_icmp .ge 358, 3, 0, []) (List.mem_of_getElem? (i := 9) rfl)) rfl (fun (hc79 : (i2 : Int) ≤ (i2 : Int)) => ?_) (fun (hc79 : ¬ ((i2 : Int) ≤ (i2 : Int))) => ?_)
    · refine zp_load (pc := 371) hx hb (zd_X12_reckonAll (371, .aload_n 0, 1, 0, []) (List.mem_of_getElem? (i := 198) rfl)) rfl (j := 2) rfl ?_
      refine zp_load (pc := 372) hx hb (zd_X12_reckonAll (372, .iload_n 3, 1, 0, []) (List.mem_of_getElem? (i := 199) rfl)) rfl (j := 0) rfl ?_
      refine zp_if (pc := 373) (tgt := 385) hx hb (zd_X12_reckonAll (373, .ifCond .le 12, 3, 0, []) (List.mem_of_getElem? (i := 200) rfl)) rfl (fun (hc80 : 1 ≤ 0) => ?_) (fun (hc80 : ¬ (1 ≤ 0)) => ?_)
      · exfalso
        omega
      · refine zp_load (pc := 376) hx hb (zd_X12_reckonAll (376, .aload_n 0, 1, 0, []) (List.mem_of_getElem? (i := 201) rfl)) rfl (j := 2) rfl ?_
        refine zp_getf (n := (b37 : Int)) (pc := 377) hx hb hE hw (zd_X12_reckonAll (377, .getfield 107, 3, 0, []) (List.mem_of_getElem? (i := 202) rfl)) (j := 55) rfl rfl rfl hp hm.2.2.2.2.1 ?_
        refine zp_const (pc := 380) hx hb (zd_X12_reckonAll (380, .iconst 0, 1, 0, []) (List.mem_of_getElem? (i := 203) rfl)) rfl rfl ?_
        refine zp_lald (j := 0) (v := v1) (pc := 381) hx hb hw (zd_X12_reckonAll (381, .laload, 1, 0, []) (List.mem_of_getElem? (i := 204) rfl)) (show zp_ia 2 77 = some (400, 1, 0, (-9223372036854775808), 9223372036854775807) from rfl) q37 (by omega) (by omega) e1 ?_
        refine zp_goto (tgt := 386) (pc := 382) hx hb (zd_X12_reckonAll (382, .goto 4, 3, 0, []) (List.mem_of_getElem? (i := 205) rfl)) rfl ?_
        refine zp_putf (pc := 386) hx hb hE hw heff (zd_X12_reckonAll (386, .putfield 402, 3, 0, []) (List.mem_of_getElem? (i := 207) rfl)) (j := 57) rfl rfl rfl hp (zp_o1 (by first | assumption | exact zp_r1 (by omega) (by omega))) ?_
        have ez0 : (zp_set G a 39 v1) a 38 = 0 := ((zp_set_ne (Or.inr (by decide))).trans (h38))
        have ez1 : (zp_set G a 39 v1) a 39 = v1 := zp_set_self
        refine zp_vret (pc := 389) hx hb hE hQ hU5 rfl (by decide) (zd_X12_reckonAll (389, .return_, 1, 0, []) (List.mem_of_getElem? (i := 208) rfl)) (j := 0) rfl ?_
        rw [hps]
        refine ⟨rfl, ?_⟩
        show (∀ v, x (zg_en St) = some v → (-2147483648 ≤ v ∧ v ≤ 2147483648) ∧ (zp_set G a 39 v1) a 38 = 0 ∧ (zp_set G a 39 v1) a 39 = v) ∧ (x (zg_en St) = none → (zp_set G a 39 v1) a 38 = 1)
        exact ⟨fun v hv => by
          rw [hxv] at hv
          obtain rfl := Option.some.inj hv
          exact ⟨bd1, ez0, ez1⟩, fun hv => by
          rw [hxv] at hv
          cases hv⟩
    · exfalso
      omega
  have exitb : ∀ (d b : Nat) (G : Nat → Nat → Int), b ≤ 400 → d ≤ 400 → zgR a b3 b35 b37 L R St G → G a 38 = 1 → x (zg_en St) = none → zp_J p l e Rm s m args below meth c Q w u [] 10 [(3, 0, ((d : Nat) : Int)), (4, 0, ((b : Nat) : Int)), (0, 2, (a : Int)), (1, 0, (i1 : Int)), (2, 0, (i2 : Int))] [] u.1 G := by
    clear step_lf step_bn step_nt step_br exitv
    intro d b G hb4 hd4 hm h38 hxv
    refine zp_drop (L' := [(3, 0, (d : Int)), (4, 0, (b : Int)), (0, 2, (a : Int)), (1, 0, (i1 : Int)), (2, 0, (i2 : Int))]) (by simp) ?_
    refine zp_load (pc := 10) hx hb (zd_X12_reckonAll (10, .iload 4, 2, 0, []) (List.mem_of_getElem? (i := 7) rfl)) rfl (j := 1) rfl ?_
    refine zp_load (pc := 12) hx hb (zd_X12_reckonAll (12, .iload_n 2, 1, 0, []) (List.mem_of_getElem? (i := 8) rfl)) rfl (j := 4) rfl ?_
    refine zp_icmp (pc := 13) (tgt := 371) hx hb (zd_X12_reckonAll (13, .if_icmp .ge 358, 3, 0, []) (List.mem_of_getElem? (i := 9) rfl)) rfl (fun (hc82 : (i2 : Int) ≤ (b : Int)) => ?_) (fun (hc82 : ¬ ((i2 : Int) ≤ (b : Int))) => ?_)
    · refine zp_load (pc := 371) hx hb (zd_X12_reckonAll (371, .aload_n 0, 1, 0, []) (List.mem_of_getElem? (i := 198) rfl)) rfl (j := 2) rfl ?_
      refine zp_load (pc := 372) hx hb (zd_X12_reckonAll (372, .iload_n 3, 1, 0, []) (List.mem_of_getElem? (i := 199) rfl)) rfl (j := 0) rfl ?_
      refine zp_if (pc := 373) (tgt := 385) hx hb (zd_X12_reckonAll (373, .ifCond .le 12, 3, 0, []) (List.mem_of_getElem? (i := 200) rfl)) rfl (fun (hc83 : (d : Int) ≤ 0) => ?_) (fun (hc83 : ¬ ((d : Int) ≤ 0)) => ?_)
      · refine zp_const (pc := 385) hx hb (zd_X12_reckonAll (385, .lconst 0, 1, 0, []) (List.mem_of_getElem? (i := 206) rfl)) rfl rfl ?_
        refine zp_putf (pc := 386) hx hb hE hw heff (zd_X12_reckonAll (386, .putfield 402, 3, 0, []) (List.mem_of_getElem? (i := 207) rfl)) (j := 57) rfl rfl rfl hp (zp_o1 ⟨by decide, by decide⟩) ?_
        have ez0 : (zp_set G a 39 0) a 38 = 1 := ((zp_set_ne (Or.inr (by decide))).trans (h38))
        refine zp_vret (pc := 389) hx hb hE hQ hU5 rfl (by decide) (zd_X12_reckonAll (389, .return_, 1, 0, []) (List.mem_of_getElem? (i := 208) rfl)) (j := 0) rfl ?_
        rw [hps]
        refine ⟨rfl, ?_⟩
        show (∀ v, x (zg_en St) = some v → (-2147483648 ≤ v ∧ v ≤ 2147483648) ∧ (zp_set G a 39 0) a 38 = 0 ∧ (zp_set G a 39 0) a 39 = v) ∧ (x (zg_en St) = none → (zp_set G a 39 0) a 38 = 1)
        exact ⟨fun v hv => (by rw [hxv] at hv; cases hv), fun _ => ez0⟩
      · refine zp_load (pc := 376) hx hb (zd_X12_reckonAll (376, .aload_n 0, 1, 0, []) (List.mem_of_getElem? (i := 201) rfl)) rfl (j := 2) rfl ?_
        refine zp_getf (n := (b37 : Int)) (pc := 377) hx hb hE hw (zd_X12_reckonAll (377, .getfield 107, 3, 0, []) (List.mem_of_getElem? (i := 202) rfl)) (j := 55) rfl rfl rfl hp hm.2.2.2.2.1 ?_
        refine zp_const (pc := 380) hx hb (zd_X12_reckonAll (380, .iconst 0, 1, 0, []) (List.mem_of_getElem? (i := 203) rfl)) rfl rfl ?_
        refine zp_lald (j := 0) (v := (G b37 (2000 + 0))) (pc := 381) hx hb hw (zd_X12_reckonAll (381, .laload, 1, 0, []) (List.mem_of_getElem? (i := 204) rfl)) (show zp_ia 2 77 = some (400, 1, 0, (-9223372036854775808), 9223372036854775807) from rfl) q37 (by omega) (by omega) rfl ?_
        refine zp_skx (fun hk84 => ?_)
        have hk84b : zk_rg 1 (G b37 (2000 + 0)) := hk84.2.1
        refine zp_goto (tgt := 386) (pc := 382) hx hb (zd_X12_reckonAll (382, .goto 4, 3, 0, []) (List.mem_of_getElem? (i := 205) rfl)) rfl ?_
        refine zp_putf (pc := 386) hx hb hE hw heff (zd_X12_reckonAll (386, .putfield 402, 3, 0, []) (List.mem_of_getElem? (i := 207) rfl)) (j := 57) rfl rfl rfl hp (zp_o1 (by first | assumption | exact zp_r1 (by omega) (by omega))) ?_
        have ez0 : (zp_set G a 39 (G b37 (2000 + 0))) a 38 = 1 := ((zp_set_ne (Or.inr (by decide))).trans (h38))
        refine zp_vret (pc := 389) hx hb hE hQ hU5 rfl (by decide) (zd_X12_reckonAll (389, .return_, 1, 0, []) (List.mem_of_getElem? (i := 208) rfl)) (j := 0) rfl ?_
        rw [hps]
        refine ⟨rfl, ?_⟩
        show (∀ v, x (zg_en St) = some v → (-2147483648 ≤ v ∧ v ≤ 2147483648) ∧ (zp_set G a 39 (G b37 (2000 + 0))) a 38 = 0 ∧ (zp_set G a 39 (G b37 (2000 + 0))) a 39 = v) ∧ (x (zg_en St) = none → (zp_set G a 39 (G b37 (2000 + 0))) a 38 = 1)
        exact ⟨fun v hv => (by rw [hxv] at hv; cases hv), fun _ => ez0⟩
    · refine zp_load (pc := 16) hx hb (zd_X12_reckonAll (16, .aload_n 0, 1, 0, []) (List.mem_of_getElem? (i := 10) rfl)) rfl (j := 2) rfl ?_
      refine zp_getf (n := 1) (pc := 17) hx hb hE hw (zd_X12_reckonAll (17, .getfield 388, 3, 0, []) (List.mem_of_getElem? (i := 11) rfl)) (j := 56) rfl rfl rfl hp h38 ?_
      refine zp_if (pc := 20) (tgt := 371) hx hb (zd_X12_reckonAll (20, .ifCond .ne 351, 3, 0, []) (List.mem_of_getElem? (i := 12) rfl)) rfl (fun (hc85 : ¬ 1 = 0) => ?_) (fun (hc85 : ¬ (¬ 1 = 0)) => ?_)
      · refine zp_load (pc := 371) hx hb (zd_X12_reckonAll (371, .aload_n 0, 1, 0, []) (List.mem_of_getElem? (i := 198) rfl)) rfl (j := 2) rfl ?_
        refine zp_load (pc := 372) hx hb (zd_X12_reckonAll (372, .iload_n 3, 1, 0, []) (List.mem_of_getElem? (i := 199) rfl)) rfl (j := 0) rfl ?_
        refine zp_if (pc := 373) (tgt := 385) hx hb (zd_X12_reckonAll (373, .ifCond .le 12, 3, 0, []) (List.mem_of_getElem? (i := 200) rfl)) rfl (fun (hc86 : (d : Int) ≤ 0) => ?_) (fun (hc86 : ¬ ((d : Int) ≤ 0)) => ?_)
        · refine zp_const (pc := 385) hx hb (zd_X12_reckonAll (385, .lconst 0, 1, 0, []) (List.mem_of_getElem? (i := 206) rfl)) rfl rfl ?_
          refine zp_putf (pc := 386) hx hb hE hw heff (zd_X12_reckonAll (386, .putfield 402, 3, 0, []) (List.mem_of_getElem? (i := 207) rfl)) (j := 57) rfl rfl rfl hp (zp_o1 ⟨by decide, by decide⟩) ?_
          have ez0 : (zp_set G a 39 0) a 38 = 1 := ((zp_set_ne (Or.inr (by decide))).trans (h38))
          refine zp_vret (pc := 389) hx hb hE hQ hU5 rfl (by decide) (zd_X12_reckonAll (389, .return_, 1, 0, []) (List.mem_of_getElem? (i := 208) rfl)) (j := 0) rfl ?_
          rw [hps]
          refine ⟨rfl, ?_⟩
          show (∀ v, x (zg_en St) = some v → (-2147483648 ≤ v ∧ v ≤ 2147483648) ∧ (zp_set G a 39 0) a 38 = 0 ∧ (zp_set G a 39 0) a 39 = v) ∧ (x (zg_en St) = none → (zp_set G a 39 0) a 38 = 1)
          exact ⟨fun v hv => (by rw [hxv] at hv; cases hv), fun _ => ez0⟩
        · refine zp_load (pc := 376) hx hb (zd_X12_reckonAll (376, .aload_n 0, 1, 0, []) (List.mem_of_getElem? (i := 201) rfl)) rfl (j := 2) rfl ?_
          refine zp_getf (n := (b37 : Int)) (pc := 377) hx hb hE hw (zd_X12_reckonAll (377, .getfield 107, 3, 0, []) (List.mem_of_getElem? (i := 202) rfl)) (j := 55) rfl rfl rfl hp hm.2.2.2.2.1 ?_
          refine zp_const (pc := 380) hx hb (zd_X12_reckonAll (380, .iconst 0, 1, 0, []) (List.mem_of_getElem? (i := 203) rfl)) rfl rfl ?_
          refine zp_lald (j := 0) (v := (G b37 (2000 + 0))) (pc := 381) hx hb hw (zd_X12_reckonAll (381, .laload, 1, 0, []) (List.mem_of_getElem? (i := 204) rfl)) (show zp_ia 2 77 = some (400, 1, 0, (-9223372036854775808), 9223372036854775807) from rfl) q37 (by omega) (by omega) rfl ?_
          refine zp_skx (fun hk87 => ?_)
          have hk87b : zk_rg 1 (G b37 (2000 + 0)) := hk87.2.1
          refine zp_goto (tgt := 386) (pc := 382) hx hb (zd_X12_reckonAll (382, .goto 4, 3, 0, []) (List.mem_of_getElem? (i := 205) rfl)) rfl ?_
          refine zp_putf (pc := 386) hx hb hE hw heff (zd_X12_reckonAll (386, .putfield 402, 3, 0, []) (List.mem_of_getElem? (i := 207) rfl)) (j := 57) rfl rfl rfl hp (zp_o1 (by first | assumption | exact zp_r1 (by omega) (by omega))) ?_
          have ez0 : (zp_set G a 39 (G b37 (2000 + 0))) a 38 = 1 := ((zp_set_ne (Or.inr (by decide))).trans (h38))
          refine zp_vret (pc := 389) hx hb hE hQ hU5 rfl (by decide) (zd_X12_reckonAll (389, .return_, 1, 0, []) (List.mem_of_getElem? (i := 208) rfl)) (j := 0) rfl ?_
          rw [hps]
          refine ⟨rfl, ?_⟩
          show (∀ v, x (zg_en St) = some v → (-2147483648 ≤ v ∧ v ≤ 2147483648) ∧ (zp_set G a 39 (G b37 (2000 + 0))) a 38 = 0 ∧ (zp_set G a 39 (G b37 (2000 + 0))) a 39 = v) ∧ (x (zg_en St) = none → (zp_set G a 39 (G b37 (2000 + 0))) a 38 = 1)
          exact ⟨fun v hv => (by rw [hxv] at hv; cases hv), fun _ => ez0⟩
      · exfalso
        omega
  have run : ∀ (f b e9 k9 : Nat) (y : yD), yE (zg_op R L) (zg_ar R L) f b e9 k9 y → e9 ≤ i2 → ∀ (d : Nat) (S : Nat → Int) (G : Nat → Nat → Int), d + k9 ≤ 400 → (∀ j, j < d → -2147483648 ≤ S j ∧ S j ≤ 2147483648) → zgR a b3 b35 b37 L R St G → G a 38 = 0 → (∀ j, j < d → G b37 (2000 + j) = S j) → (∀ (v : Int) (G' : Nat → Nat → Int), y (zg_en St) = some v → -2147483648 ≤ v ∧ v ≤ 2147483648 → zgR a b3 b35 b37 L R St G' → G' a 38 = 0 → (∀ j, j < d → G' b37 (2000 + j) = S j) → G' b37 (2000 + d) = v → zp_J p l e Rm s m args below meth c Q w u [] 10 [(3, 0, ((d + 1 : Nat) : Int)), (4, 0, ((e9 : Nat) : Int)), (0, 2, (a : Int)), (1, 0, (i1 : Int)), (2, 0, (i2 : Int))] [] u.1 G') → (∀ (d9 b9 : Nat) (G' : Nat → Nat → Int), y (zg_en St) = none → d9 ≤ 400 → b9 ≤ 400 → zgR a b3 b35 b37 L R St G' → G' a 38 = 1 → zp_J p l e Rm s m args below meth c Q w u [] 10 [(3, 0, ((d9 : Nat) : Int)), (4, 0, ((b9 : Nat) : Int)), (0, 2, (a : Int)), (1, 0, (i1 : Int)), (2, 0, (i2 : Int))] [] u.1 G') → zp_J p l e Rm s m args below meth c Q w u [] 10 [(3, 0, ((d : Nat) : Int)), (4, 0, ((b : Nat) : Int)), (0, 2, (a : Int)), (1, 0, (i1 : Int)), (2, 0, (i2 : Int))] [] u.1 G := by
    clear exitv exitb
    intro f
    induction f with
    | zero => intro b e9 k9 y h; exact h.elim
    | succ f ih =>
      intro b e9 k9 y h he9 d S G hd hS hm h38 hst kv kb
      have hlt := yE_lt h
      rcases h with ⟨g1, g2, g3, g4, g5⟩ | ⟨m9, e1, k1, k2, y1, y2, g1, g2, g3, g4, g5, g6, g7⟩ | ⟨e1, y1, g1, g2, g3, g4, g5⟩ | ⟨m9, k1, k2, y1, y2, g1, g2, g3, g4, g5, g6, g7⟩ | ⟨m9, k1, k2, y1, y2, g1, g2, g3, g4, g5, g6, g7⟩
      · subst g1
        refine step_lf b d G (by omega) (by omega) hm h38 g3 g4 (fun G' m' h' s' t' => ?_)
        have hv : y (zg_en St) = some (zg_en St (zg_op R L b) (zg_ar R L b)) := by rw [g5]; rfl
        refine kv _ G' hv ?_ m' h' (fun j hj => (s' j hj).trans (hst j hj)) t'
        unfold zg_en
        split
        · have := hR (L + 2 * b + 99) (by omega)
          show -2147483648 ≤ R (L + 2 * b + 99) ∧ R (L + 2 * b + 99) ≤ 2147483648
          omega
        · exact hSt _ (by omega)
      · have l1 := yE_lt g2
        have l2 := yE_lt g3
        subst g1
        refine ih b m9 k1 y1 g2 (by omega) d S G (by omega) hS hm h38 hst (fun v1 G1 c1 c2 m1 c3 c4 c5 => ?_) (fun d9 b9 G' c1 c2 c3 m' c4 => ?_)
        · refine ih m9 e1 k2 y2 g3 (by omega) (d + 1) (fun j => if j = d then v1 else S j) G1 (by omega) (fun j hj => ?_) m1 c3 (fun j hj => ?_) (fun v2 G2 b1 b2 m2 b3' b4 b5 => ?_) (fun d9 b9 G' b1 b2 b3' m' b4 => ?_)
          · by_cases hjd : j = d
            · rw [if_pos hjd]
              exact c2
            · rw [if_neg hjd]
              exact hS j (by omega)
          · by_cases hjd : j = d
            · rw [if_pos hjd, hjd]
              exact c5
            · rw [if_neg hjd]
              exact c4 j (by omega)
          · have s4 : ∀ j, j < d → G2 b37 (2000 + j) = S j := fun j hj => (b4 j (by omega)).trans (if_neg (by omega))
            have s5 : G2 b37 (2000 + d) = v1 := (b4 d (by omega)).trans (if_pos rfl)
            have hb9 : ∀ r, yd_bn (zg_op R L e1) v1 v2 = r → y (zg_en St) = r := fun r hr => by
              rw [g7]
              show ((y1 (zg_en St)).bind fun a => (y2 (zg_en St)).bind fun b => yd_bn (zg_op R L e1) a b) = r
              rw [c1, b1]
              exact hr
            refine step_bn e1 d v1 v2 G2 (by omega) (by omega) m2 b3' g4 g5 s5 b5 c2 b2 (fun v G' a1 a2 a3 a4 a5 => ?_) (fun G' a1 a2 a3 => ?_)
            · exact kv v G' (hb9 _ a1) (by have := zg_bnr a1; omega) a2 a3 (fun j hj => (a4 j hj).trans (s4 j hj)) a5
            · exact kb (d + 1) (e1 + 1) G' (hb9 _ a1) (by omega) (by omega) a2 a3
          · refine kb d9 b9 G' ?_ b2 b3' m' b4
            rw [g7]
            show ((y1 (zg_en St)).bind fun a => (y2 (zg_en St)).bind fun b => yd_bn (zg_op R L e1) a b) = none
            rw [c1, b1]
            rfl
        · refine kb d9 b9 G' ?_ c2 c3 m' c4
          rw [g7]
          show ((y1 (zg_en St)).bind fun a => (y2 (zg_en St)).bind fun b => yd_bn (zg_op R L e1) a b) = none
          rw [c1]
          rfl
      · have l1 := yE_lt g2
        subst g1
        refine ih b e1 k9 y1 g2 (by omega) d S G (by omega) hS hm h38 hst (fun v1 G1 c1 c2 m1 c3 c4 c5 => ?_) (fun d9 b9 G' c1 c2 c3 m' c4 => ?_)
        · refine step_nt e1 d v1 G1 (by omega) (by omega) m1 c3 g3 c5 c2 (fun G' a1 a2 a3 a4 => ?_)
          have ht := g4 (zg_en St) v1 c1
          refine kv (1 - v1) G' ?_ (by omega) a1 a2 (fun j hj => (a3 j hj).trans (c4 j hj)) a4
          rw [g5]
          show ((y1 (zg_en St)).bind fun v => some (1 - v)) = _
          rw [c1]
          rfl
        · refine kb d9 b9 G' ?_ c2 c3 m' c4
          rw [g5]
          show ((y1 (zg_en St)).bind fun v => some (1 - v)) = _
          rw [c1]
          rfl
      · have l1 := yE_lt g1
        have l2 := yE_lt g4
        refine ih b m9 k1 y1 g1 (by omega) d S G (by omega) hS hm h38 hst (fun v1 G1 c1 c2 m1 c3 c4 c5 => ?_) (fun d9 b9 G' c1 c2 c3 m' c4 => ?_)
        · have hb9 : y (zg_en St) = if v1 = 0 then some 0 else y2 (zg_en St) := by
            rw [g7]
            show ((y1 (zg_en St)).bind fun v => if v = 0 then some 0 else y2 (zg_en St)) = _
            rw [c1]
            rfl
          refine step_br m9 d e9 v1 G1 (by omega) (by omega) (by omega) m1 c3 (Or.inl g2) g3 c5 (fun hv => ?_) (fun hv => ?_)
          · rw [g2] at hv
            have hv : v1 = 0 := hv
            refine kv v1 G1 ?_ c2 m1 c3 c4 c5
            rw [hb9, if_pos hv, hv]
          · rw [g2] at hv
            have hv : ¬ v1 = 0 := hv
            rw [if_neg hv] at hb9
            refine ih (m9 + 1) e9 k2 y2 g4 he9 d S G1 (by omega) hS m1 c3 c4 (fun v G' a1 a2 a3 a4 a5 a6 => kv v G' (hb9.trans a1) a2 a3 a4 a5 a6) (fun d9 b9 G' a1 a2 a3 a4 a5 => kb d9 b9 G' (hb9.trans a1) a2 a3 a4 a5)
        · refine kb d9 b9 G' ?_ c2 c3 m' c4
          rw [g7]
          show ((y1 (zg_en St)).bind fun v => if v = 0 then some 0 else y2 (zg_en St)) = none
          rw [c1]
          rfl
      · have l1 := yE_lt g1
        have l2 := yE_lt g4
        refine ih b m9 k1 y1 g1 (by omega) d S G (by omega) hS hm h38 hst (fun v1 G1 c1 c2 m1 c3 c4 c5 => ?_) (fun d9 b9 G' c1 c2 c3 m' c4 => ?_)
        · have hb9 : y (zg_en St) = if v1 = 1 then some 1 else y2 (zg_en St) := by
            rw [g7]
            show ((y1 (zg_en St)).bind fun v => if v = 1 then some 1 else y2 (zg_en St)) = _
            rw [c1]
            rfl
          refine step_br m9 d e9 v1 G1 (by omega) (by omega) (by omega) m1 c3 (Or.inr g2) g3 c5 (fun hv => ?_) (fun hv => ?_)
          · rw [g2] at hv
            have hv : v1 = 1 := hv
            refine kv v1 G1 ?_ c2 m1 c3 c4 c5
            rw [hb9, if_pos hv, hv]
          · rw [g2] at hv
            have hv : ¬ v1 = 1 := hv
            rw [if_neg hv] at hb9
            refine ih (m9 + 1) e9 k2 y2 g4 he9 d S G1 (by omega) hS m1 c3 c4 (fun v G' a1 a2 a3 a4 a5 a6 => kv v G' (hb9.trans a1) a2 a3 a4 a5 a6) (fun d9 b9 G' a1 a2 a3 a4 a5 => kb d9 b9 G' (hb9.trans a1) a2 a3 a4 a5)
        · refine kb d9 b9 G' ?_ c2 c3 m' c4
          rw [g7]
          show ((y1 (zg_en St)).bind fun v => if v = 1 then some 1 else y2 (zg_en St)) = none
          rw [c1]
          rfl
  have hl0 := yE_lt hE0
  show zp_J p l e Rm s m args below meth c Q w u [] 0 [(0, 2, (a : Int)), (1, 0, (i1 : Int)), (2, 0, (i2 : Int))] [] u.1 (zp_n u.2.1)
  refine zp_load (pc := 0) hx hb (zd_X12_reckonAll (0, .aload_n 0, 1, 0, []) (List.mem_of_getElem? (i := 0) rfl)) rfl (j := 0) rfl ?_
  refine zp_const (pc := 1) hx hb (zd_X12_reckonAll (1, .iconst 0, 1, 0, []) (List.mem_of_getElem? (i := 1) rfl)) rfl rfl ?_
  refine zp_putf (pc := 2) hx hb hE hw heff (zd_X12_reckonAll (2, .putfield 388, 3, 0, []) (List.mem_of_getElem? (i := 2) rfl)) (j := 56) rfl rfl rfl hp (zp_o0 (by decide) (by decide) (by decide) (by decide)) ?_
  refine zp_const (pc := 5) hx hb (zd_X12_reckonAll (5, .iconst 0, 1, 0, []) (List.mem_of_getElem? (i := 3) rfl)) rfl rfl ?_
  refine zp_store (L' := [(3, 0, 0), (0, 2, (a : Int)), (1, 0, (i1 : Int)), (2, 0, (i2 : Int))]) (pc := 6) hx hb hnL (zd_X12_reckonAll (6, .istore_n 3, 1, 0, []) (List.mem_of_getElem? (i := 4) rfl)) rfl rfl rfl ?_
  refine zp_load (pc := 7) hx hb (zd_X12_reckonAll (7, .iload_n 1, 1, 0, []) (List.mem_of_getElem? (i := 5) rfl)) rfl (j := 2) rfl ?_
  refine zp_store (L' := [(4, 0, (i1 : Int)), (3, 0, 0), (0, 2, (a : Int)), (1, 0, (i1 : Int)), (2, 0, (i2 : Int))]) (pc := 8) hx hb hnL (zd_X12_reckonAll (8, .istore 4, 2, 0, []) (List.mem_of_getElem? (i := 6) rfl)) rfl rfl rfl ?_
  refine zp_drop (L' := [(3, 0, 0), (4, 0, (i1 : Int)), (0, 2, (a : Int)), (1, 0, (i1 : Int)), (2, 0, (i2 : Int))]) (by simp) ?_
  refine run f i1 i2 k x hE0 (Nat.le_refl _) 0 (fun _ => 0) _ (by omega) (fun j hj => absurd hj (Nat.not_lt_zero j)) (zgR_a hm0 n3 n35 (Or.inl rfl)) zp_set_self (fun j hj => absurd hj (Nat.not_lt_zero j)) (fun v G' c1 c2 c3 c4 _ c6 => ?_) (fun d9 b9 G' c1 c2 c3 c4 c5 => exitb d9 b9 G' c3 c2 c4 c5 c1)
  exact exitv v G' c3 c4 c6 c2 c1
