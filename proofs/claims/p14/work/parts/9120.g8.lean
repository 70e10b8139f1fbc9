/-! part g8: the reference: what the law in force tells of wears, snaps, runs, speeds, barred -/
theorem zp_ps5 {α β : Type} {R : α → β → Prop} {a1 a2 a3 a4 a5 : α} {bs : List β} (h : zk_all2 R [a1, a2, a3, a4, a5] bs) : ∃ b1 b2 b3 b4 b5, bs = [b1, b2, b3, b4, b5] ∧ R a1 b1 ∧ R a2 b2 ∧ R a3 b3 ∧ R a4 b4 ∧ R a5 b5 := by
  match bs, h with
  | [b1, b2, b3, b4, b5], h => exact ⟨b1, b2, b3, b4, b5, rfl, h.1, h.2.1, h.2.2.1, h.2.2.2.1, h.2.2.2.2.1⟩
noncomputable def zg_po (R : Nat → Int) (k : Nat) (p : Int) : Int := if p = -1 then -1 else R (3 * p.toNat + (11 + k))
/-- the words that setHour sets -/
noncomputable def zg_sh (St : Nat → Int) (t pw h p o l : Int) : Nat → Int := fun j => if j = 6 then l else if j = 5 then o else if j = 4 then p else if j = 3 then h else if j = 2 then pw else if j = 1 then t else St j
theorem zg_shb {St : Nat → Int} {t pw h p o l : Int} (hS : ∀ j, j < 13 → -2147483648 ≤ St j ∧ St j ≤ 2147483648) (ht : -2147483648 ≤ t ∧ t ≤ 2147483647) (hpw : -2147483648 ≤ pw ∧ pw ≤ 2147483647) (hh : -2147483648 ≤ h ∧ h ≤ 2147483647) (hp : -2147483648 ≤ p ∧ p ≤ 2147483647) (ho : -2147483648 ≤ o ∧ o ≤ 2147483647) (hl : -2147483648 ≤ l ∧ l ≤ 2147483647) : ∀ j, j < 13 → -2147483648 ≤ zg_sh St t pw h p o l j ∧ zg_sh St t pw h p o l j ≤ 2147483648 := by
  intro j hj
  unfold zg_sh
  have := hS j hj
  by_cases h6 : j = 6
  · rw [if_pos h6]; omega
  · rw [if_neg h6]
    by_cases h5 : j = 5
    · rw [if_pos h5]; omega
    · rw [if_neg h5]
      by_cases h4 : j = 4
      · rw [if_pos h4]; omega
      · rw [if_neg h4]
        by_cases h3 : j = 3
        · rw [if_pos h3]; omega
        · rw [if_neg h3]
          by_cases h2 : j = 2
          · rw [if_pos h2]; omega
          · rw [if_neg h2]
            by_cases h1 : j = 1
            · rw [if_pos h1]; omega
            · rw [if_neg h1]; omega
theorem zg_pob {R : Nat → Int} {k : Nat} {p : Int} (hR : ∀ j, j < 5580 → -2147483648 ≤ R j ∧ R j ≤ 2147483647) (hk : k < 3) (hp : p ≤ 5) : -2147483648 ≤ zg_po R k p ∧ zg_po R k p ≤ 2147483647 := by
  unfold zg_po
  split
  · omega
  · have := hR (3 * p.toNat + (11 + k)) (by omega)
    omega
/-- the row and the words, the law in force: none, or one -/
noncomputable def zg_rl (a b3 b35 b37 : Nat) (R St : Nat → Int) (M : List yK) (P : Nat → Option Nat) (G : Nat → Nat → Int) : Prop := ((G a 20 = 0 ∧ G a 3 = (b3 : Int) ∧ G a 35 = (b35 : Int) ∧ G a 37 = (b37 : Int) ∧ (∀ j, G b3 (2000 + j) = R j) ∧ ∀ j, G b35 (2000 + j) = St j) ∧ P b3 = some 59 ∧ P b35 = some 75 ∧ P b37 = some 77 ∧ (∀ j, j < 5580 → -2147483648 ≤ R j ∧ R j ≤ 2147483647) ∧ (∀ j, j < 13 → -2147483648 ≤ St j ∧ St j ≤ 2147483648)) ∧ ((R 4 = -1 ∧ M = []) ∨ ∃ i : Nat, i < 6 ∧ R 4 = (i : Int) ∧ R ((900 * i + 180) + 1) = (M.length : Int) ∧ M.length ≤ 12 ∧ zLs (zg_cl R (900 * i + 180)) (zg_op R (900 * i + 180)) (zg_ar R (900 * i + 180)) 400 0 M)
noncomputable def zK_ofx : zk_K := (zt_mn 195, prog_14_method_17_code, 3, (Option.some Jvm.ClassFile.FieldType.int), 1, 12, [(2, 13, 0, 0), (0, 0, 0, 5), (0, 0, 0, 2)], [(some (0, 0, (-2147483648), 2147483647), [])], [], (0, 0, 0, 0))
noncomputable def zφ_ofx (b3 : Nat) : (Nat → Option Nat) → (Nat → Nat → Int) → List Int → Prop := fun P G ps => G (zp_0 ps) 3 = (b3 : Int) ∧ P b3 = some 59 ∧ (∀ j, j < 5580 → -2147483648 ≤ G b3 (2000 + j) ∧ G b3 (2000 + j) ≤ 2147483647)
noncomputable def zψ_ofx (b3 : Nat) : (Nat → Option Nat) → (Nat → Nat → Int) → List Int → (Nat → Option Nat) → (Nat → Nat → Int) → Int → Prop := fun P G ps P' G' rn => P' = P ∧ G' = G ∧ rn = G b3 (2000 + (3 * (ps.getD 1 0).toNat + (11 + (ps.getD 2 0).toNat)))
theorem zX_ofx {l : Launch} {w : zk_W} (hW : zh_W w) (b3 : Nat) : zk_metX l w zt_dv zt_TB zK_ofx (zp_A (zφ_ofx b3)) (zp_B (zψ_ofx b3)) ∧ zk_cok w zt_TB zK_ofx := by
  refine zp_methX (cn := "WoundTownModel") zp_lkall hW (pl := 1612) rfl (by decide +kernel) (fun p e Rm s m args below meth c Q u hx hb hE hQ hU5 heff hnL hok hφ => ?_)
  have hw := hW.1
  obtain ⟨p0, p1, p2, hps, k0, k1, k2⟩ := zp_ps3 hok
  obtain ⟨a, rfl, hp⟩ := zp_this k0
  have hrm : zk_Kr (zk_ev (zt_types, zp_lk, zt_dv, [], [], zp_lc, zK_ofx)) = zk_Kr zK_ofx := rfl
  rw [hps] at hφ ⊢
  have hi1 := zp_int k1
  have hi2 := zp_int k2
  have hφ : zp_n u.2.1 a 3 = (b3 : Int) ∧ u.1 b3 = some 59 ∧ (∀ j, j < 5580 → -2147483648 ≤ zp_n u.2.1 b3 (2000 + j) ∧ zp_n u.2.1 b3 (2000 + j) ≤ 2147483647) := hφ
  obtain ⟨e3, q3, hR⟩ := hφ
  obtain ⟨c1, rfl⟩ := zp_nat hi1.1
  obtain ⟨c2, rfl⟩ := zp_nat hi2.1
  show zp_J p l e Rm s m args below meth c Q w u [] 0 [(0, 2, (a : Int)), (1, 0, (c1 : Int)), (2, 0, (c2 : Int))] [] u.1 (zp_n u.2.1)
  refine zp_load (pc := 0) hx hb (zd_X12_ofPerson (0, .aload_n 0, 1, 0, []) (List.mem_of_getElem? (i := 0) rfl)) rfl (j := 0) rfl ?_
  refine zp_getf (n := (b3 : Int)) (pc := 1) hx hb hE hw (zd_X12_ofPerson (1, .getfield 13, 3, 0, []) (List.mem_of_getElem? (i := 1) rfl)) (j := 21) rfl rfl rfl hp e3 ?_
  refine zp_const (pc := 4) hx hb (zd_X12_ofPerson (4, .bipush 11, 2, 0, []) (List.mem_of_getElem? (i := 2) rfl)) rfl rfl ?_
  refine zp_const (pc := 6) hx hb (zd_X12_ofPerson (6, .iconst 3, 1, 0, []) (List.mem_of_getElem? (i := 3) rfl)) rfl rfl ?_
  refine zp_load (pc := 7) hx hb (zd_X12_ofPerson (7, .iload_n 1, 1, 0, []) (List.mem_of_getElem? (i := 4) rfl)) rfl (j := 1) rfl ?_
  refine zp_mul (n := (3 * (c1 : Int))) (pc := 8) hx hb (zd_X12_ofPerson (8, .imul, 1, 0, []) (List.mem_of_getElem? (i := 5) rfl)) (by omega) (zp_r0 (by omega) (by omega)) ?_
  refine zp_add (n := (3 * (c1 : Int) + 11)) (pc := 9) hx hb (zd_X12_ofPerson (9, .iadd, 1, 0, []) (List.mem_of_getElem? (i := 6) rfl)) (by omega) (zp_r0 (by omega) (by omega)) ?_
  refine zp_load (pc := 10) hx hb (zd_X12_ofPerson (10, .iload_n 2, 1, 0, []) (List.mem_of_getElem? (i := 7) rfl)) rfl (j := 2) rfl ?_
  refine zp_add (n := (3 * (c1 : Int) + (c2 : Int) + 11)) (pc := 11) hx hb (zd_X12_ofPerson (11, .iadd, 1, 0, []) (List.mem_of_getElem? (i := 8) rfl)) (by omega) (zp_r0 (by omega) (by omega)) ?_
  refine zp_ialdT (j := (3 * c1 + c2 + 11)) (v := ((zp_n u.2.1) b3 (2000 + (3 * c1 + c2 + 11)))) (pc := 12) hx hb hw (zd_X12_ofPerson (12, .iaload, 1, 0, []) (List.mem_of_getElem? (i := 9) rfl)) zl_T59 rfl (zl_kd ((3 * c1 + c2 + 11))) q3 (by omega) (show (3 * c1 + c2 + 11) < 5580 by omega) rfl (fun hk21 => ?_)
  have hRj := hR (3 * c1 + c2 + 11) (by omega)
  refine zp_iret (pc := 13) (n := ((zp_n u.2.1) b3 (2000 + (3 * c1 + c2 + 11)))) hx hb hE hQ hU5 rfl (by decide) (zd_X12_ofPerson (13, .ireturn, 1, 0, []) (List.mem_of_getElem? (i := 10) rfl)) (j := 0) rfl (zp_o0 (by omega) (by omega) (by omega) (by omega)) ?_
  rw [hps]
  refine ⟨rfl, rfl, ?_⟩
  show ((zp_n u.2.1) b3 (2000 + (3 * c1 + c2 + 11))) = zp_n u.2.1 b3 (2000 + (3 * c1 + (11 + c2)))
  congr 2
  omega
noncomputable def zK_wi0 : zk_K := (zt_mn 245, prog_14_method_6_code, 4, (Option.some Jvm.ClassFile.FieldType.int), 0, 12, [(1, 0, (-9223372036854775808), 9223372036854775807), (0, 0, 0, 0), (0, 0, 0, 999)], [(some (0, 0, (-2147483648), 2147483647), [])], [], (0, 0, 0, 0))
noncomputable def zψ_wi0 : (Nat → Option Nat) → (Nat → Nat → Int) → List Int → (Nat → Option Nat) → (Nat → Nat → Int) → Int → Prop := fun P G ps P' G' rn => P' = P ∧ G' = G ∧ rn = max 0 (min (ps.getD 2 0) (ps.getD 0 0))
theorem zX_wi0 {l : Launch} {w : zk_W} (hW : zh_W w) : zk_metX l w zt_dv zt_TB zK_wi0 (zp_A zp_tA) (zp_B zψ_wi0) ∧ zk_cok w zt_TB zK_wi0 := by
  refine zp_methX (cn := "WoundTownModel") zp_lkall hW (pl := 1830) rfl (by decide +kernel) (fun p e Rm s m args below meth c Q u hx hb hE hQ hU5 heff hnL hok hφ => ?_)
  have hw := hW.1
  obtain ⟨p0, p1, p2, hps, k0, k1, k2⟩ := zp_ps3 hok
  have hrm : zk_Kr (zk_ev (zt_types, zp_lk, zt_dv, [], [], zp_lc, zK_wi0)) = zk_Kr zK_wi0 := rfl
  rw [hps] at hφ ⊢
  have hi1 := zp_int k1
  have hi2 := zp_int k2
  show zp_J p l e Rm s m args below meth c Q w u [] 0 [(0, 1, p0), (2, 0, p1), (3, 0, p2)] [] u.1 (zp_n u.2.1)
  have hl0 : zk_rg 1 p0 := k0.2.2
  refine zp_load (pc := 0) hx hb (zd_X12_within (0, .lload_n 0, 1, 0, []) (List.mem_of_getElem? (i := 0) rfl)) rfl (j := 0) rfl ?_
  refine zp_load (pc := 1) hx hb (zd_X12_within (1, .iload_n 2, 1, 0, []) (List.mem_of_getElem? (i := 1) rfl)) rfl (j := 1) rfl ?_
  refine zp_i2l (pc := 2) hx hb (zd_X12_within (2, .i2l, 1, 0, []) (List.mem_of_getElem? (i := 2) rfl)) ?_
  refine zp_lcmp (pc := 3) (tgt := 11) hx hb (zd_X12_within (3, .lcmp, 1, 0, []) (List.mem_of_getElem? (i := 3) rfl)) (zd_X12_within (4, .ifCond .ge 7, 3, 0, []) (List.mem_of_getElem? (i := 4) rfl)) rfl (fun (hc22 : p1 ≤ p0) => ?_) (fun (hc22 : ¬ (p1 ≤ p0)) => ?_)
  · refine zp_load (pc := 11) hx hb (zd_X12_within (11, .lload_n 0, 1, 0, []) (List.mem_of_getElem? (i := 7) rfl)) rfl (j := 0) rfl ?_
    refine zp_load (pc := 12) hx hb (zd_X12_within (12, .iload_n 3, 1, 0, []) (List.mem_of_getElem? (i := 8) rfl)) rfl (j := 2) rfl ?_
    refine zp_i2l (pc := 13) hx hb (zd_X12_within (13, .i2l, 1, 0, []) (List.mem_of_getElem? (i := 9) rfl)) ?_
    refine zp_lcmp (pc := 14) (tgt := 22) hx hb (zd_X12_within (14, .lcmp, 1, 0, []) (List.mem_of_getElem? (i := 10) rfl)) (zd_X12_within (15, .ifCond .le 7, 3, 0, []) (List.mem_of_getElem? (i := 11) rfl)) rfl (fun (hc23 : p0 ≤ p2) => ?_) (fun (hc23 : ¬ (p0 ≤ p2)) => ?_)
    · refine zp_load (pc := 22) hx hb (zd_X12_within (22, .lload_n 0, 1, 0, []) (List.mem_of_getElem? (i := 14) rfl)) rfl (j := 0) rfl ?_
      refine zp_l2i (pc := 23) hx hb (zd_X12_within (23, .l2i, 1, 0, []) (List.mem_of_getElem? (i := 15) rfl)) (fun x24 r_x24 e_x24 => ?_)
      have i_x24 := zp_rg0 r_x24
      have e9 := e_x24 (zp_r0 (by omega) (by omega))
      refine zp_iret (pc := 24) (n := x24) hx hb hE hQ hU5 rfl (by decide) (zd_X12_within (24, .ireturn, 1, 0, []) (List.mem_of_getElem? (i := 16) rfl)) (j := 0) rfl (zp_o0 (by omega) (by omega) (by omega) (by omega)) ?_
      rw [hps]
      refine ⟨rfl, rfl, ?_⟩
      show x24 = max 0 (min p2 p0)
      omega
    · refine zp_load (pc := 18) hx hb (zd_X12_within (18, .iload_n 3, 1, 0, []) (List.mem_of_getElem? (i := 12) rfl)) rfl (j := 2) rfl ?_
      refine zp_goto (tgt := 24) (pc := 19) hx hb (zd_X12_within (19, .goto 5, 3, 0, []) (List.mem_of_getElem? (i := 13) rfl)) rfl ?_
      refine zp_iret (pc := 24) (n := p2) hx hb hE hQ hU5 rfl (by decide) (zd_X12_within (24, .ireturn, 1, 0, []) (List.mem_of_getElem? (i := 16) rfl)) (j := 0) rfl (zp_o0 (by omega) (by omega) (by omega) (by omega)) ?_
      rw [hps]
      refine ⟨rfl, rfl, ?_⟩
      show p2 = max 0 (min p2 p0)
      omega
  · refine zp_load (pc := 7) hx hb (zd_X12_within (7, .iload_n 2, 1, 0, []) (List.mem_of_getElem? (i := 5) rfl)) rfl (j := 1) rfl ?_
    refine zp_goto (tgt := 24) (pc := 8) hx hb (zd_X12_within (8, .goto 16, 3, 0, []) (List.mem_of_getElem? (i := 6) rfl)) rfl ?_
    refine zp_iret (pc := 24) (n := p1) hx hb hE hQ hU5 rfl (by decide) (zd_X12_within (24, .ireturn, 1, 0, []) (List.mem_of_getElem? (i := 16) rfl)) (j := 0) rfl (zp_o0 (by omega) (by omega) (by omega) (by omega)) ?_
    rw [hps]
    refine ⟨rfl, rfl, ?_⟩
    show p1 = max 0 (min p2 p0)
    omega
noncomputable def zK_shr : zk_K := (zt_mn 239, prog_14_method_68_code, 5, (Option.none : Option Jvm.ClassFile.FieldType), 1, 12, [(2, 13, 0, 0), (0, 0, (-2147483648), 2147483647), (0, 0, (-2147483648), 2147483647), (0, 0, (-2147483648), 2147483647), (0, 0, (-1), 5)], [(none, [])], [(75, 1001, 0)], (1, 60, 0, 0))
noncomputable def zφ_shr (b3 b35 : Nat) (R St : Nat → Int) : (Nat → Option Nat) → (Nat → Nat → Int) → List Int → Prop := fun P G ps => (G (zp_0 ps) 3 = (b3 : Int) ∧ G (zp_0 ps) 35 = (b35 : Int) ∧ (∀ j, G b3 (2000 + j) = R j) ∧ ∀ j, G b35 (2000 + j) = St j) ∧ P b3 = some 59 ∧ P b35 = some 75 ∧ ∀ j, j < 5580 → -2147483648 ≤ R j ∧ R j ≤ 2147483647
noncomputable def zψ_shr (b3 b35 : Nat) (R St : Nat → Int) : (Nat → Option Nat) → (Nat → Nat → Int) → List Int → (Nat → Option Nat) → (Nat → Nat → Int) → Int → Prop := fun P G ps P' G' rn => P' = P ∧ ∀ j, G' b35 (2000 + j) = zg_sh St (ps.getD 1 0) (ps.getD 2 0) (ps.getD 3 0) (ps.getD 4 0) (zg_po R 0 (ps.getD 4 0)) (zg_po R 2 (ps.getD 4 0)) j
theorem zX_shr {l : Launch} {w : zk_W} (hW : zh_W w) (b3 b35 : Nat) (R St : Nat → Int) : zk_metX l w zt_dv zt_TB zK_shr (zp_A (zφ_shr b3 b35 R St)) (zp_B (zψ_shr b3 b35 R St)) ∧ zk_cok w zt_TB zK_shr := by
  refine zp_methX (cn := "WoundTownModel") zp_lkall hW (pl := 1805) rfl (by decide +kernel) (fun p e Rm s m args below meth c Q u hx hb hE hQ hU5 heff hnL hok hφ => ?_)
  have hw := hW.1
  obtain ⟨p0, p1, p2, p3, p4, hps, k0, k1, k2, k3, k4⟩ := zp_ps5 hok
  obtain ⟨a, rfl, hp⟩ := zp_this k0
  have hrm : zk_Kr (zk_ev (zt_types, zp_lk, zt_dv, [], [], zp_lc, zK_shr)) = zk_Kr zK_shr := rfl
  rw [hps] at hφ ⊢
  have hi1 := zp_int k1
  have hi2 := zp_int k2
  have hi3 := zp_int k3
  have hi4 := zp_int k4
  have hφ : (zp_n u.2.1 a 3 = (b3 : Int) ∧ zp_n u.2.1 a 35 = (b35 : Int) ∧ (∀ j, zp_n u.2.1 b3 (2000 + j) = R j) ∧ ∀ j, zp_n u.2.1 b35 (2000 + j) = St j) ∧ u.1 b3 = some 59 ∧ u.1 b35 = some 75 ∧ ∀ j, j < 5580 → -2147483648 ≤ R j ∧ R j ≤ 2147483647 := hφ
  obtain ⟨⟨e3, e35, eR, eS⟩, q3, q35, hR⟩ := hφ
  show zp_J p l e Rm s m args below meth c Q w u [] 0 [(0, 2, (a : Int)), (1, 0, p1), (2, 0, p2), (3, 0, p3), (4, 0, p4)] [] u.1 (zp_n u.2.1)
  refine zp_load (pc := 0) hx hb (zd_X12_setHour (0, .aload_n 0, 1, 0, []) (List.mem_of_getElem? (i := 0) rfl)) rfl (j := 0) rfl ?_
  refine zp_getf (n := (b35 : Int)) (pc := 1) hx hb hE hw (zd_X12_setHour (1, .getfield 101, 3, 0, []) (List.mem_of_getElem? (i := 1) rfl)) (j := 53) rfl rfl rfl hp e35 ?_
  refine zp_const (pc := 4) hx hb (zd_X12_setHour (4, .iconst 1, 1, 0, []) (List.mem_of_getElem? (i := 2) rfl)) rfl rfl ?_
  refine zp_load (pc := 5) hx hb (zd_X12_setHour (5, .iload_n 1, 1, 0, []) (List.mem_of_getElem? (i := 3) rfl)) rfl (j := 1) rfl ?_
  refine zp_i2l (pc := 6) hx hb (zd_X12_setHour (6, .i2l, 1, 0, []) (List.mem_of_getElem? (i := 4) rfl)) ?_
  refine zp_lasi (j := 1) (pc := 7) hx hb hw heff (zd_X12_setHour (7, .lastore, 1, 0, []) (List.mem_of_getElem? (i := 5) rfl)) (show zp_ia 2 75 = some (13, 1, 0, (-2147483648), 2147483647) from rfl) q35 (by omega) (by omega) (by omega) rfl ?_
  refine zp_load (pc := 8) hx hb (zd_X12_setHour (8, .aload_n 0, 1, 0, []) (List.mem_of_getElem? (i := 6) rfl)) rfl (j := 0) rfl ?_
  refine zp_getf (n := (b35 : Int)) (pc := 9) hx hb hE hw (zd_X12_setHour (9, .getfield 101, 3, 0, []) (List.mem_of_getElem? (i := 7) rfl)) (j := 53) rfl rfl rfl hp ((zp_set_ne (Or.inl (zp_pne hp q35 (by decide)))).trans (e35)) ?_
  refine zp_const (pc := 12) hx hb (zd_X12_setHour (12, .iconst 2, 1, 0, []) (List.mem_of_getElem? (i := 8) rfl)) rfl rfl ?_
  refine zp_load (pc := 13) hx hb (zd_X12_setHour (13, .iload_n 2, 1, 0, []) (List.mem_of_getElem? (i := 9) rfl)) rfl (j := 2) rfl ?_
  refine zp_i2l (pc := 14) hx hb (zd_X12_setHour (14, .i2l, 1, 0, []) (List.mem_of_getElem? (i := 10) rfl)) ?_
  refine zp_lasi (j := 2) (pc := 15) hx hb hw heff (zd_X12_setHour (15, .lastore, 1, 0, []) (List.mem_of_getElem? (i := 11) rfl)) (show zp_ia 2 75 = some (13, 1, 0, (-2147483648), 2147483647) from rfl) q35 (by omega) (by omega) (by omega) rfl ?_
  refine zp_load (pc := 16) hx hb (zd_X12_setHour (16, .aload_n 0, 1, 0, []) (List.mem_of_getElem? (i := 12) rfl)) rfl (j := 0) rfl ?_
  refine zp_getf (n := (b35 : Int)) (pc := 17) hx hb hE hw (zd_X12_setHour (17, .getfield 101, 3, 0, []) (List.mem_of_getElem? (i := 13) rfl)) (j := 53) rfl rfl rfl hp ((zp_set_ne (Or.inl (zp_pne hp q35 (by decide)))).trans ((zp_set_ne (Or.inl (zp_pne hp q35 (by decide)))).trans (e35))) ?_
  refine zp_const (pc := 20) hx hb (zd_X12_setHour (20, .iconst 3, 1, 0, []) (List.mem_of_getElem? (i := 14) rfl)) rfl rfl ?_
  refine zp_load (pc := 21) hx hb (zd_X12_setHour (21, .iload_n 3, 1, 0, []) (List.mem_of_getElem? (i := 15) rfl)) rfl (j := 3) rfl ?_
  refine zp_i2l (pc := 22) hx hb (zd_X12_setHour (22, .i2l, 1, 0, []) (List.mem_of_getElem? (i := 16) rfl)) ?_
  refine zp_lasi (j := 3) (pc := 23) hx hb hw heff (zd_X12_setHour (23, .lastore, 1, 0, []) (List.mem_of_getElem? (i := 17) rfl)) (show zp_ia 2 75 = some (13, 1, 0, (-2147483648), 2147483647) from rfl) q35 (by omega) (by omega) (by omega) rfl ?_
  refine zp_load (pc := 24) hx hb (zd_X12_setHour (24, .aload_n 0, 1, 0, []) (List.mem_of_getElem? (i := 18) rfl)) rfl (j := 0) rfl ?_
  refine zp_getf (n := (b35 : Int)) (pc := 25) hx hb hE hw (zd_X12_setHour (25, .getfield 101, 3, 0, []) (List.mem_of_getElem? (i := 19) rfl)) (j := 53) rfl rfl rfl hp ((zp_set_ne (Or.inl (zp_pne hp q35 (by decide)))).trans ((zp_set_ne (Or.inl (zp_pne hp q35 (by decide)))).trans ((zp_set_ne (Or.inl (zp_pne hp q35 (by decide)))).trans (e35)))) ?_
  refine zp_const (pc := 28) hx hb (zd_X12_setHour (28, .iconst 4, 1, 0, []) (List.mem_of_getElem? (i := 20) rfl)) rfl rfl ?_
  refine zp_load (pc := 29) hx hb (zd_X12_setHour (29, .iload 4, 2, 0, []) (List.mem_of_getElem? (i := 21) rfl)) rfl (j := 4) rfl ?_
  refine zp_i2l (pc := 31) hx hb (zd_X12_setHour (31, .i2l, 1, 0, []) (List.mem_of_getElem? (i := 22) rfl)) ?_
  refine zp_lasi (j := 4) (pc := 32) hx hb hw heff (zd_X12_setHour (32, .lastore, 1, 0, []) (List.mem_of_getElem? (i := 23) rfl)) (show zp_ia 2 75 = some (13, 1, 0, (-2147483648), 2147483647) from rfl) q35 (by omega) (by omega) (by omega) rfl ?_
  refine zp_load (pc := 33) hx hb (zd_X12_setHour (33, .aload_n 0, 1, 0, []) (List.mem_of_getElem? (i := 24) rfl)) rfl (j := 0) rfl ?_
  refine zp_getf (n := (b35 : Int)) (pc := 34) hx hb hE hw (zd_X12_setHour (34, .getfield 101, 3, 0, []) (List.mem_of_getElem? (i := 25) rfl)) (j := 53) rfl rfl rfl hp ((zp_set_ne (Or.inl (zp_pne hp q35 (by decide)))).trans ((zp_set_ne (Or.inl (zp_pne hp q35 (by decide)))).trans ((zp_set_ne (Or.inl (zp_pne hp q35 (by decide)))).trans ((zp_set_ne (Or.inl (zp_pne hp q35 (by decide)))).trans (e35))))) ?_
  refine zp_const (pc := 37) hx hb (zd_X12_setHour (37, .iconst 5, 1, 0, []) (List.mem_of_getElem? (i := 26) rfl)) rfl rfl ?_
  refine zp_load (pc := 38) hx hb (zd_X12_setHour (38, .iload 4, 2, 0, []) (List.mem_of_getElem? (i := 27) rfl)) rfl (j := 4) rfl ?_
  refine zp_const (pc := 40) hx hb (zd_X12_setHour (40, .iconst (-1), 1, 0, []) (List.mem_of_getElem? (i := 28) rfl)) rfl rfl ?_
  by_cases hp4 : p4 = -1
  · refine zp_icmp (pc := 41) (tgt := 50) hx hb (zd_X12_setHour (41, .if_icmp .ne 9, 3, 0, []) (List.mem_of_getElem? (i := 29) rfl)) rfl (fun (hc25 : ¬ p4 = (-1)) => ?_) (fun (hc25 : ¬ (¬ p4 = (-1))) => ?_)
    · exfalso
      omega
    · refine zp_ldc2 (pc := 44) hx hb hE (zd_X12_setHour (44, .ldc2_w 267, 3, 0, []) (List.mem_of_getElem? (i := 30) rfl)) (j := 92) rfl ?_
      refine zp_goto (tgt := 58) (pc := 47) hx hb (zd_X12_setHour (47, .goto 11, 3, 0, []) (List.mem_of_getElem? (i := 31) rfl)) rfl ?_
      refine zp_lasi (j := 5) (pc := 58) hx hb hw heff (zd_X12_setHour (58, .lastore, 1, 0, []) (List.mem_of_getElem? (i := 37) rfl)) (show zp_ia 2 75 = some (13, 1, 0, (-2147483648), 2147483647) from rfl) q35 (by omega) (by omega) (by omega) rfl ?_
      refine zp_load (pc := 59) hx hb (zd_X12_setHour (59, .aload_n 0, 1, 0, []) (List.mem_of_getElem? (i := 38) rfl)) rfl (j := 0) rfl ?_
      refine zp_getf (n := (b35 : Int)) (pc := 60) hx hb hE hw (zd_X12_setHour (60, .getfield 101, 3, 0, []) (List.mem_of_getElem? (i := 39) rfl)) (j := 53) rfl rfl rfl hp ((zp_set_ne (Or.inl (zp_pne hp q35 (by decide)))).trans ((zp_set_ne (Or.inl (zp_pne hp q35 (by decide)))).trans ((zp_set_ne (Or.inl (zp_pne hp q35 (by decide)))).trans ((zp_set_ne (Or.inl (zp_pne hp q35 (by decide)))).trans ((zp_set_ne (Or.inl (zp_pne hp q35 (by decide)))).trans (e35)))))) ?_
      refine zp_const (pc := 63) hx hb (zd_X12_setHour (63, .bipush 6, 2, 0, []) (List.mem_of_getElem? (i := 40) rfl)) rfl rfl ?_
      refine zp_load (pc := 65) hx hb (zd_X12_setHour (65, .iload 4, 2, 0, []) (List.mem_of_getElem? (i := 41) rfl)) rfl (j := 4) rfl ?_
      refine zp_const (pc := 67) hx hb (zd_X12_setHour (67, .iconst (-1), 1, 0, []) (List.mem_of_getElem? (i := 42) rfl)) rfl rfl ?_
      refine zp_icmp (pc := 68) (tgt := 77) hx hb (zd_X12_setHour (68, .if_icmp .ne 9, 3, 0, []) (List.mem_of_getElem? (i := 43) rfl)) rfl (fun (hc26 : ¬ p4 = (-1)) => ?_) (fun (hc26 : ¬ (¬ p4 = (-1))) => ?_)
      · exfalso
        omega
      · refine zp_ldc2 (pc := 71) hx hb hE (zd_X12_setHour (71, .ldc2_w 267, 3, 0, []) (List.mem_of_getElem? (i := 44) rfl)) (j := 92) rfl ?_
        refine zp_goto (tgt := 85) (pc := 74) hx hb (zd_X12_setHour (74, .goto 11, 3, 0, []) (List.mem_of_getElem? (i := 45) rfl)) rfl ?_
        refine zp_lasi (j := 6) (pc := 85) hx hb hw heff (zd_X12_setHour (85, .lastore, 1, 0, []) (List.mem_of_getElem? (i := 51) rfl)) (show zp_ia 2 75 = some (13, 1, 0, (-2147483648), 2147483647) from rfl) q35 (by omega) (by omega) (by omega) rfl ?_
        refine zp_vret (pc := 86) hx hb hE hQ hU5 rfl (by decide) (zd_X12_setHour (86, .return_, 1, 0, []) (List.mem_of_getElem? (i := 52) rfl)) (j := 0) rfl ?_
        rw [hps]
        refine ⟨rfl, fun j => ?_⟩
        show (zp_set (zp_set (zp_set (zp_set (zp_set (zp_set (zp_n u.2.1) b35 (2000 + 1) p1) b35 (2000 + 2) p2) b35 (2000 + 3) p3) b35 (2000 + 4) p4) b35 (2000 + 5) (-1)) b35 (2000 + 6) (-1)) b35 (2000 + j) = zg_sh St p1 p2 p3 p4 (zg_po R 0 p4) (zg_po R 2 p4) j
        rw [zp_set_el, zp_set_el, zp_set_el, zp_set_el, zp_set_el, zp_set_el, eS]
        rw [show zg_po R 0 p4 = (-1) from by unfold zg_po; exact if_pos hp4, show zg_po R 2 p4 = (-1) from by unfold zg_po; exact if_pos hp4]
        rfl
  · refine zp_icmp (pc := 41) (tgt := 50) hx hb (zd_X12_setHour (41, .if_icmp .ne 9, 3, 0, []) (List.mem_of_getElem? (i := 29) rfl)) rfl (fun (hc27 : ¬ p4 = (-1)) => ?_) (fun (hc27 : ¬ (¬ p4 = (-1))) => ?_)
    · refine zp_load (pc := 50) hx hb (zd_X12_setHour (50, .aload_n 0, 1, 0, []) (List.mem_of_getElem? (i := 32) rfl)) rfl (j := 0) rfl ?_
      refine zp_load (pc := 51) hx hb (zd_X12_setHour (51, .iload 4, 2, 0, []) (List.mem_of_getElem? (i := 33) rfl)) rfl (j := 4) rfl ?_
      refine zp_const (pc := 53) hx hb (zd_X12_setHour (53, .iconst 0, 1, 0, []) (List.mem_of_getElem? (i := 34) rfl)) rfl rfl ?_
      have hRb0 : ∀ j, (zp_set (zp_set (zp_set (zp_set (zp_n u.2.1) b35 (2000 + 1) p1) b35 (2000 + 2) p2) b35 (2000 + 3) p3) b35 (2000 + 4) p4) b3 (2000 + j) = R j := fun j => (zp_set_ne (Or.inl (zp_pne q3 q35 (by decide)))).trans ((zp_set_ne (Or.inl (zp_pne q3 q35 (by decide)))).trans ((zp_set_ne (Or.inl (zp_pne q3 q35 (by decide)))).trans ((zp_set_ne (Or.inl (zp_pne q3 q35 (by decide)))).trans (eR j))))
      refine zp_call (pc := 54) (how := 0) (idx := 207) (mi := 195) (S := [(0, 5), (2, (b35 : Int))]) hx hb hE hw heff hrm (zX_ofx hW b3) rfl (j := 6) rfl rfl (by decide +kernel) (zd_X12_setHour (54, .invokevirtual 207, 3, 0, []) (List.mem_of_getElem? (i := 35) rfl)) [(a : Int), p4, 0] rfl ⟨zp_o2 hp, zp_o0 (by omega) (by omega) (by omega) (by omega), zp_o0 (by decide) (by decide) (by decide) (by decide), trivial⟩ (Nat.le_of_ble_eq_true rfl) ⟨((zp_set_ne (Or.inl (zp_pne hp q35 (by decide)))).trans ((zp_set_ne (Or.inl (zp_pne hp q35 (by decide)))).trans ((zp_set_ne (Or.inl (zp_pne hp q35 (by decide)))).trans ((zp_set_ne (Or.inl (zp_pne hp q35 (by decide)))).trans (e3))))), q3, fun j hj => by rw [hRb0]; exact hR j hj⟩ (fun al hal rno0 Po0 Go0 hexto0 hfro0 hoko0 hcso0 hpsio0 => ?_)
      obtain rfl := List.mem_singleton.mp hal
      have hro0 := zp_int (hoko0 _ rfl).1
      have yao0 := hexto0 _ _ hp
      have yb3o0 := hexto0 _ _ q3
      have yb35o0 := hexto0 _ _ q35
      obtain ⟨hPo0, hGo0, hro0⟩ := hpsio0
      subst hPo0
      subst hGo0
      have hro0 : rno0 = zg_po R 0 p4 := by
        have h9 : rno0 = (zp_set (zp_set (zp_set (zp_set (zp_n u.2.1) b35 (2000 + 1) p1) b35 (2000 + 2) p2) b35 (2000 + 3) p3) b35 (2000 + 4) p4) b3 (2000 + (3 * p4.toNat + (11 + (0 : Int).toNat))) := hro0
        rw [h9, hRb0]
        unfold zg_po
        rw [if_neg (by omega)]
        rfl
      refine zp_i2l (pc := 57) hx hb (zd_X12_setHour (57, .i2l, 1, 0, []) (List.mem_of_getElem? (i := 36) rfl)) ?_
      refine zp_lasi (j := 5) (pc := 58) hx hb hw heff (zd_X12_setHour (58, .lastore, 1, 0, []) (List.mem_of_getElem? (i := 37) rfl)) (show zp_ia 2 75 = some (13, 1, 0, (-2147483648), 2147483647) from rfl) q35 (by omega) (by omega) (by omega) rfl ?_
      refine zp_load (pc := 59) hx hb (zd_X12_setHour (59, .aload_n 0, 1, 0, []) (List.mem_of_getElem? (i := 38) rfl)) rfl (j := 0) rfl ?_
      refine zp_getf (n := (b35 : Int)) (pc := 60) hx hb hE hw (zd_X12_setHour (60, .getfield 101, 3, 0, []) (List.mem_of_getElem? (i := 39) rfl)) (j := 53) rfl rfl rfl hp ((zp_set_ne (Or.inl (zp_pne hp q35 (by decide)))).trans (((zp_set_ne (Or.inl (zp_pne hp q35 (by decide)))).trans ((zp_set_ne (Or.inl (zp_pne hp q35 (by decide)))).trans ((zp_set_ne (Or.inl (zp_pne hp q35 (by decide)))).trans ((zp_set_ne (Or.inl (zp_pne hp q35 (by decide)))).trans (e35))))))) ?_
      refine zp_const (pc := 63) hx hb (zd_X12_setHour (63, .bipush 6, 2, 0, []) (List.mem_of_getElem? (i := 40) rfl)) rfl rfl ?_
      refine zp_load (pc := 65) hx hb (zd_X12_setHour (65, .iload 4, 2, 0, []) (List.mem_of_getElem? (i := 41) rfl)) rfl (j := 4) rfl ?_
      refine zp_const (pc := 67) hx hb (zd_X12_setHour (67, .iconst (-1), 1, 0, []) (List.mem_of_getElem? (i := 42) rfl)) rfl rfl ?_
      refine zp_icmp (pc := 68) (tgt := 77) hx hb (zd_X12_setHour (68, .if_icmp .ne 9, 3, 0, []) (List.mem_of_getElem? (i := 43) rfl)) rfl (fun (hc28 : ¬ p4 = (-1)) => ?_) (fun (hc28 : ¬ (¬ p4 = (-1))) => ?_)
      · refine zp_load (pc := 77) hx hb (zd_X12_setHour (77, .aload_n 0, 1, 0, []) (List.mem_of_getElem? (i := 46) rfl)) rfl (j := 0) rfl ?_
        refine zp_load (pc := 78) hx hb (zd_X12_setHour (78, .iload 4, 2, 0, []) (List.mem_of_getElem? (i := 47) rfl)) rfl (j := 4) rfl ?_
        refine zp_const (pc := 80) hx hb (zd_X12_setHour (80, .iconst 2, 1, 0, []) (List.mem_of_getElem? (i := 48) rfl)) rfl rfl ?_
        have hRb2 : ∀ j, (zp_set (zp_set (zp_set (zp_set (zp_set (zp_n u.2.1) b35 (2000 + 1) p1) b35 (2000 + 2) p2) b35 (2000 + 3) p3) b35 (2000 + 4) p4) b35 (2000 + 5) rno0) b3 (2000 + j) = R j := fun j => (zp_set_ne (Or.inl (zp_pne q3 q35 (by decide)))).trans ((zp_set_ne (Or.inl (zp_pne q3 q35 (by decide)))).trans ((zp_set_ne (Or.inl (zp_pne q3 q35 (by decide)))).trans ((zp_set_ne (Or.inl (zp_pne q3 q35 (by decide)))).trans ((zp_set_ne (Or.inl (zp_pne q3 q35 (by decide)))).trans (eR j)))))
        refine zp_call (pc := 81) (how := 0) (idx := 207) (mi := 195) (S := [(0, 6), (2, (b35 : Int))]) hx hb hE hw heff hrm (zX_ofx hW b3) rfl (j := 6) rfl rfl (by decide +kernel) (zd_X12_setHour (81, .invokevirtual 207, 3, 0, []) (List.mem_of_getElem? (i := 49) rfl)) [(a : Int), p4, 2] rfl ⟨zp_o2 hp, zp_o0 (by omega) (by omega) (by omega) (by omega), zp_o0 (by decide) (by decide) (by decide) (by decide), trivial⟩ (Nat.le_of_ble_eq_true rfl) ⟨((zp_set_ne (Or.inl (zp_pne hp q35 (by decide)))).trans (((zp_set_ne (Or.inl (zp_pne hp q35 (by decide)))).trans ((zp_set_ne (Or.inl (zp_pne hp q35 (by decide)))).trans ((zp_set_ne (Or.inl (zp_pne hp q35 (by decide)))).trans ((zp_set_ne (Or.inl (zp_pne hp q35 (by decide)))).trans (e3))))))), q3, fun j hj => by rw [hRb2]; exact hR j hj⟩ (fun al hal rno2 Po2 Go2 hexto2 hfro2 hoko2 hcso2 hpsio2 => ?_)
        obtain rfl := List.mem_singleton.mp hal
        have hro2 := zp_int (hoko2 _ rfl).1
        have yao2 := hexto2 _ _ hp
        have yb3o2 := hexto2 _ _ q3
        have yb35o2 := hexto2 _ _ q35
        obtain ⟨hPo2, hGo2, hro2⟩ := hpsio2
        subst hPo2
        subst hGo2
        have hro2 : rno2 = zg_po R 2 p4 := by
          have h9 : rno2 = (zp_set (zp_set (zp_set (zp_set (zp_set (zp_n u.2.1) b35 (2000 + 1) p1) b35 (2000 + 2) p2) b35 (2000 + 3) p3) b35 (2000 + 4) p4) b35 (2000 + 5) rno0) b3 (2000 + (3 * p4.toNat + (11 + (2 : Int).toNat))) := hro2
          rw [h9, hRb2]
          unfold zg_po
          rw [if_neg (by omega)]
          rfl
        refine zp_i2l (pc := 84) hx hb (zd_X12_setHour (84, .i2l, 1, 0, []) (List.mem_of_getElem? (i := 50) rfl)) ?_
        refine zp_lasi (j := 6) (pc := 85) hx hb hw heff (zd_X12_setHour (85, .lastore, 1, 0, []) (List.mem_of_getElem? (i := 51) rfl)) (show zp_ia 2 75 = some (13, 1, 0, (-2147483648), 2147483647) from rfl) q35 (by omega) (by omega) (by omega) rfl ?_
        refine zp_vret (pc := 86) hx hb hE hQ hU5 rfl (by decide) (zd_X12_setHour (86, .return_, 1, 0, []) (List.mem_of_getElem? (i := 52) rfl)) (j := 0) rfl ?_
        rw [hps]
        refine ⟨rfl, fun j => ?_⟩
        show (zp_set (zp_set (zp_set (zp_set (zp_set (zp_set (zp_n u.2.1) b35 (2000 + 1) p1) b35 (2000 + 2) p2) b35 (2000 + 3) p3) b35 (2000 + 4) p4) b35 (2000 + 5) rno0) b35 (2000 + 6) rno2) b35 (2000 + j) = zg_sh St p1 p2 p3 p4 (zg_po R 0 p4) (zg_po R 2 p4) j
        rw [zp_set_el, zp_set_el, zp_set_el, zp_set_el, zp_set_el, zp_set_el, eS]
        rw [show zg_po R 0 p4 = rno0 from hro0.symm, show zg_po R 2 p4 = rno2 from hro2.symm]
        rfl
      · exfalso
        omega
    · exfalso
      omega
