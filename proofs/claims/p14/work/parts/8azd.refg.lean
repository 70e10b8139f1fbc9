/-! part 8azd: the reference: person, work, row, sight, forget, dust, feed -/
noncomputable def zK_mfo : zk_K := (zt_mn 206, prog_14_method_32_code, 3, (Option.none : Option Jvm.ClassFile.FieldType), 1, 12, [(2, 13, 0, 0), (0, 0, (-2147483648), 2147483647)], [(none, [])], [(66, 1001, 0), (13, 13, 0)], (0, 0, 0, 0))
noncomputable def zφ_mfo : (Nat → Option Nat) → (Nat → Nat → Int) → List Int → Prop := fun _ G ps => G (zp_0 ps) 13 ≤ 396
noncomputable def zψ_mfo : (Nat → Option Nat) → (Nat → Nat → Int) → List Int → (Nat → Option Nat) → (Nat → Nat → Int) → Int → Prop := fun P G ps P' G' rn => P' = P ∧ G' (zp_0 ps) 13 = G (zp_0 ps) 13 + 4 ∧ ∀ j : Nat, G' (G (zp_0 ps) 12).toNat (2000 + j) = if (G (zp_0 ps) 13 : Int) ≤ (j : Int) ∧ (j : Int) < G (zp_0 ps) 13 + 4 then zF_c (ps.getD 1 0) (24 - 8 * ((j : Int) - G (zp_0 ps) 13)) else G (G (zp_0 ps) 12).toNat (2000 + j)
theorem zX_mfo {l : Launch} {w : zk_W} (hW : zh_W w) : zk_metX l w zt_dv zt_TB zK_mfo (zp_A zφ_mfo) (zp_B zψ_mfo) ∧ zk_cok w zt_TB zK_mfo := by
  refine zp_methX (cn := "WoundTownModel") zp_lkall hW (pl := 1660) rfl (by decide +kernel) (fun p e R s m args below meth c Q u hx hb hE hQ hU5 heff hnL hok hφ => ?_)
  have hw := hW.1
  obtain ⟨p0, p1, hps, k0, k1⟩ := zp_ps2 hok
  obtain ⟨a, rfl, hp⟩ := zp_this k0
  have hrm : zk_Kr (zk_ev (zt_types, zp_lk, zt_dv, [], [], zp_lc, zK_mfo)) = zk_Kr zK_mfo := rfl
  rw [hps] at hφ ⊢
  have hi1 := zp_int k1
  show zp_J p l e R s m args below meth c Q w u [] 0 [(0, 2, (a : Int)), (1, 0, p1)] [] u.1 (zp_n u.2.1)
  have hφ : zp_n u.2.1 a 13 ≤ 396 := hφ
  refine zp_kn (k := 13) (a := a) hw (show zp_fd 13 13 = some (12, 0, 0, 0, 400) from rfl) rfl hp (fun hkl0 => ?_)
  obtain ⟨l0, hl0⟩ := zp_nat (zp_int hkl0).1
  have hl0b := zp_int hkl0
  rw [hl0] at hl0b
  rw [hl0] at hφ
  refine zp_kn (k := 12) (a := a) hw (show zp_fd 13 12 = some (12, 2, 66, 0, 0) from rfl) rfl hp (fun hktb => ?_)
  obtain ⟨tb, htb, qtb⟩ := zp_this hktb
  have htv : (zp_n u.2.1 a 12).toNat = tb := by rw [htb, Int.toNat_natCast]
  have loop : ∀ (n k : Nat) (G : Nat → Nat → Int), 4 - k < n → k ≤ 4 → G a 12 = (tb : Int) → G a 13 = ((l0 + k : Nat) : Int) → (∀ j : Nat, G tb (2000 + j) = if l0 ≤ j ∧ j < l0 + k then zF_c p1 (24 - 8 * ((j : Int) - (l0 : Int))) else zp_n u.2.1 tb (2000 + j)) → zp_J p l e R s m args below meth c Q w u [] 3 [(2, 0, (24 - 8 * (k : Int))), (0, 2, (a : Int)), (1, 0, p1)] [] u.1 G := by
    intro n
    induction n with
    | zero => intro k G h; exact absurd h (Nat.not_lt_zero _)
    | succ n ih =>
      intro k G hn hk e0 e1 hB
      obtain ⟨ln, hln⟩ : ∃ ln : Nat, l0 + k = ln := ⟨_, rfl⟩
      rw [hln] at e1
      refine zp_load (pc := 3) hx hb (zd_X12_four (3, .iload_n 2, 1, 0, []) (List.mem_of_getElem? (i := 2) rfl)) rfl (j := 0) rfl ?_
      refine zp_if (pc := 4) (tgt := 39) hx hb (zd_X12_four (4, .ifCond .lt 35, 3, 0, []) (List.mem_of_getElem? (i := 3) rfl)) rfl (fun (hc55 : (24 - 8 * (k : Int)) < 0) => ?_) (fun (hc55 : ¬ ((24 - 8 * (k : Int)) < 0)) => ?_)
      · have hk4 : k = 4 := by omega
        refine zp_vret (pc := 39) hx hb hE hQ hU5 rfl (by decide) (zd_X12_four (39, .return_, 1, 0, []) (List.mem_of_getElem? (i := 22) rfl)) (j := 0) rfl ?_
        rw [hps]
        refine ⟨rfl, ?_, fun j => ?_⟩
        · show G a 13 = zp_n u.2.1 a 13 + 4
          rw [e1, hl0]
          omega
        · show G (zp_n u.2.1 a 12).toNat (2000 + j) = if zp_n u.2.1 a 13 ≤ (j : Int) ∧ (j : Int) < zp_n u.2.1 a 13 + 4 then zF_c p1 (24 - 8 * ((j : Int) - zp_n u.2.1 a 13)) else zp_n u.2.1 (zp_n u.2.1 a 12).toNat (2000 + j)
          rw [htv, hl0, hB j]
          by_cases hj : l0 ≤ j ∧ j < l0 + k
          · rw [if_pos hj, if_pos (by omega)]
          · rw [if_neg hj, if_neg (by omega)]
      · refine zp_load (pc := 7) hx hb (zd_X12_four (7, .aload_n 0, 1, 0, []) (List.mem_of_getElem? (i := 4) rfl)) rfl (j := 1) rfl ?_
        refine zp_getf (n := (tb : Int)) (pc := 8) hx hb hE hw (zd_X12_four (8, .getfield 35, 3, 0, []) (List.mem_of_getElem? (i := 5) rfl)) (j := 30) rfl rfl rfl hp e0 ?_
        refine zp_load (pc := 11) hx hb (zd_X12_four (11, .aload_n 0, 1, 0, []) (List.mem_of_getElem? (i := 6) rfl)) rfl (j := 1) rfl ?_
        refine zp_getf (n := (ln : Int)) (pc := 12) hx hb hE hw (zd_X12_four (12, .getfield 228, 3, 0, []) (List.mem_of_getElem? (i := 7) rfl)) (j := 31) rfl rfl rfl hp e1 ?_
        refine zp_load (pc := 15) hx hb (zd_X12_four (15, .iload_n 1, 1, 0, []) (List.mem_of_getElem? (i := 8) rfl)) rfl (j := 2) rfl ?_
        refine zp_load (pc := 16) hx hb (zd_X12_four (16, .iload_n 2, 1, 0, []) (List.mem_of_getElem? (i := 9) rfl)) rfl (j := 0) rfl ?_
        refine zp_binx (o := 7) (n := ((zk_bn 7 (Int32.ofInt p1) (Int32.ofInt (24 - 8 * (k : Int)))).toInt)) (pc := 17) hx hb (zd_X12_four (17, .ishr, 1, 0, []) (List.mem_of_getElem? (i := 10) rfl)) rfl (by decide) rfl ?_
        refine zp_const (pc := 18) hx hb (zd_X12_four (18, .sipush 255, 3, 0, []) (List.mem_of_getElem? (i := 11) rfl)) rfl rfl ?_
        have hze : zF_m p1 (24 - 8 * (k : Int)) = zF_c p1 (24 - 8 * (k : Int)) := (zF_eq (by omega)).symm
        refine zp_binx (o := 3) (n := (zF_c p1 (24 - 8 * (k : Int)))) (pc := 21) hx hb (zd_X12_four (21, .iand, 1, 0, []) (List.mem_of_getElem? (i := 12) rfl)) rfl (by decide) hze ?_
        have hzf := zF_rg (v := p1) (s := 24 - 8 * (k : Int))
        refine zp_iast (j := ln) (pc := 22) hx hb hw heff (zd_X12_four (22, .iastore, 1, 0, []) (List.mem_of_getElem? (i := 13) rfl)) (show zp_ia 1 66 = some (400, 0, 0, 0, 255) from rfl) qtb (by omega) (by omega) (zp_o0 (by omega) (by omega) (by omega) (by omega)) rfl ?_
        refine zp_load (pc := 23) hx hb (zd_X12_four (23, .aload_n 0, 1, 0, []) (List.mem_of_getElem? (i := 14) rfl)) rfl (j := 1) rfl ?_
        refine zp_dup (pc := 24) hx hb (zd_X12_four (24, .dup, 1, 0, []) (List.mem_of_getElem? (i := 15) rfl)) (show (2 : Nat) ≠ 1 by decide) ?_
        refine zp_getf (n := (ln : Int)) (pc := 25) hx hb hE hw (zd_X12_four (25, .getfield 228, 3, 0, []) (List.mem_of_getElem? (i := 16) rfl)) (j := 31) rfl rfl rfl hp ((zp_set_ne (Or.inl (zp_pne hp qtb (by decide)))).trans (e1)) ?_
        refine zp_const (pc := 28) hx hb (zd_X12_four (28, .iconst 1, 1, 0, []) (List.mem_of_getElem? (i := 17) rfl)) rfl rfl ?_
        refine zp_add (n := ((ln : Int) + 1)) (pc := 29) hx hb (zd_X12_four (29, .iadd, 1, 0, []) (List.mem_of_getElem? (i := 18) rfl)) (by omega) (zp_r0 (by omega) (by omega)) ?_
        refine zp_putf (pc := 30) hx hb hE hw heff (zd_X12_four (30, .putfield 228, 3, 0, []) (List.mem_of_getElem? (i := 19) rfl)) (j := 31) rfl rfl rfl hp (zp_o0 (by omega) (by omega) (by omega) (by omega)) ?_
        refine zp_iinc (L' := [(2, 0, ((-8) * (k : Int) + 16)), (0, 2, (a : Int)), (1, 0, p1)]) (n := ((-8) * (k : Int) + 16)) (pc := 33) hx hb hnL (zd_X12_four (33, .iinc 2 (-8), 3, 0, []) (List.mem_of_getElem? (i := 20) rfl)) (j := 0) rfl (by omega) (zp_r0 (by omega) (by omega)) rfl rfl ?_
        refine zp_goto (tgt := 3) (pc := 36) hx hb (zd_X12_four (36, .goto (-33), 3, 0, []) (List.mem_of_getElem? (i := 21) rfl)) rfl ?_
        refine zp_drop (L' := [(2, 0, (24 - 8 * ((k + 1 : Nat) : Int))), (0, 2, (a : Int)), (1, 0, p1)]) (by simp <;> omega) ?_
        refine ih (k + 1) _ (by omega) (by omega) (((zp_set_ne (Or.inr (by decide))).trans ((zp_set_ne (Or.inl (zp_pne hp qtb (by decide)))).trans (e0)))) ((zp_set_self).trans (by omega)) (fun j => ?_)
        rw [zp_set_ne (Or.inl (zp_pne qtb hp (by decide))), zp_set_el]
        by_cases hj : j = ln
        · rw [if_pos hj, if_pos (by omega)]
          rw [show 24 - 8 * ((j : Int) - (l0 : Int)) = 24 - 8 * (k : Int) by omega]
        · rw [if_neg hj, hB j]
          by_cases hj2 : l0 ≤ j ∧ j < l0 + k
          · rw [if_pos hj2, if_pos (by omega)]
          · rw [if_neg hj2, if_neg (by omega)]
  refine zp_const (pc := 0) hx hb (zd_X12_four (0, .bipush 24, 2, 0, []) (List.mem_of_getElem? (i := 0) rfl)) rfl rfl ?_
  refine zp_store (L' := [(2, 0, 24), (0, 2, (a : Int)), (1, 0, p1)]) (pc := 2) hx hb hnL (zd_X12_four (2, .istore_n 2, 1, 0, []) (List.mem_of_getElem? (i := 1) rfl)) rfl rfl rfl ?_
  refine zp_drop (L' := [(2, 0, (24 - 8 * ((0 : Nat) : Int))), (0, 2, (a : Int)), (1, 0, p1)]) (by simp) ?_
  exact loop 5 0 _ (by omega) (by omega) htb hl0 (fun j => by rw [if_neg (by omega)])
noncomputable def zK_mfd : zk_K := (zt_mn 205, prog_14_method_33_code, 6, (Option.some Jvm.ClassFile.FieldType.int), 1, 12, [(2, 13, 0, 0), (0, 0, (-2147483648), 2147483647), (0, 0, (-2147483648), 2147483647), (0, 0, (-2147483648), 2147483647), (0, 0, (-2147483648), 2147483647), (0, 0, (-2147483648), 2147483647)], [(some (0, 0, (-1), 400), [])], [(13, 0, 0), (66, 1001, 0), (13, 13, 0)], (1, 40, 0, 0))
noncomputable def zψ_mfd : (Nat → Option Nat) → (Nat → Nat → Int) → List Int → (Nat → Option Nat) → (Nat → Nat → Int) → Int → Prop := fun P G ps P' G' rn => (G (zp_0 ps) 13 ≤ 380 → rn = G (zp_0 ps) 13 + 20 ∧ G' (zp_0 ps) 13 = G (zp_0 ps) 13 + 20 ∧ ∀ j : Nat, G' (G (zp_0 ps) 12).toNat (2000 + j) = zF_5 (fun j => G (G (zp_0 ps) 12).toNat (2000 + j)) (G (zp_0 ps) 13) (ps.getD 1 0) (ps.getD 2 0) (ps.getD 3 0) (ps.getD 4 0) (ps.getD 5 0) j) ∧ (¬ (G (zp_0 ps) 13 ≤ 380) → rn = -1 ∧ G' (zp_0 ps) 13 = G (zp_0 ps) 13 ∧ ∀ j : Nat, G' (G (zp_0 ps) 12).toNat (2000 + j) = (fun j => G (G (zp_0 ps) 12).toNat (2000 + j)) j)
theorem zX_mfd {l : Launch} {w : zk_W} (hW : zh_W w) : zk_metX l w zt_dv zt_TB zK_mfd (zp_A zp_tA) (zp_B zψ_mfd) ∧ zk_cok w zt_TB zK_mfd := by
  refine zp_methX (cn := "WoundTownModel") zp_lkall hW (pl := 1656) rfl (by decide +kernel) (fun p e R s m args below meth c Q u hx hb hE hQ hU5 heff hnL hok hφ => ?_)
  have hw := hW.1
  obtain ⟨p0, p1, p2, p3, p4, p5, hps, k0, k1, k2, k3, k4, k5⟩ := zp_ps6 hok
  obtain ⟨a, rfl, hp⟩ := zp_this k0
  have hrm : zk_Kr (zk_ev (zt_types, zp_lk, zt_dv, [], [], zp_lc, zK_mfd)) = zk_Kr zK_mfd := rfl
  rw [hps] at hφ ⊢
  have hi1 := zp_int k1
  have hi2 := zp_int k2
  have hi3 := zp_int k3
  have hi4 := zp_int k4
  have hi5 := zp_int k5
  show zp_J p l e R s m args below meth c Q w u [] 0 [(0, 2, (a : Int)), (1, 0, p1), (2, 0, p2), (3, 0, p3), (4, 0, p4), (5, 0, p5)] [] u.1 (zp_n u.2.1)
  refine zp_kn (k := 13) (a := a) hw (show zp_fd 13 13 = some (12, 0, 0, 0, 400) from rfl) rfl hp (fun hkn0 => ?_)
  obtain ⟨n0, hn0⟩ : ∃ z0 : Int, (zp_n u.2.1) a 13 = z0 := ⟨_, rfl⟩
  have hn0b := zp_int hkn0
  rw [hn0] at hn0b
  refine zp_kn (k := 12) (a := a) hw (show zp_fd 13 12 = some (12, 2, 66, 0, 0) from rfl) rfl hp (fun hktb => ?_)
  obtain ⟨tb, htb, qtb⟩ := zp_this hktb
  have htv : (zp_n u.2.1 a 12).toNat = tb := by rw [htb, Int.toNat_natCast]
  refine zp_load (pc := 0) hx hb (zd_X12_feed (0, .aload_n 0, 1, 0, []) (List.mem_of_getElem? (i := 0) rfl)) rfl (j := 0) rfl ?_
  refine zp_const (pc := 1) hx hb (zd_X12_feed (1, .iconst 0, 1, 0, []) (List.mem_of_getElem? (i := 1) rfl)) rfl rfl ?_
  refine zp_putf (pc := 2) hx hb hE hw heff (zd_X12_feed (2, .putfield 161, 3, 0, []) (List.mem_of_getElem? (i := 2) rfl)) (j := 18) rfl rfl rfl hp (zp_o0 (by decide) (by decide) (by decide) (by decide)) ?_
  refine zp_load (pc := 5) hx hb (zd_X12_feed (5, .aload_n 0, 1, 0, []) (List.mem_of_getElem? (i := 3) rfl)) rfl (j := 0) rfl ?_
  refine zp_getf (n := n0) (pc := 6) hx hb hE hw (zd_X12_feed (6, .getfield 228, 3, 0, []) (List.mem_of_getElem? (i := 4) rfl)) (j := 31) rfl rfl rfl hp ((zp_set_ne (Or.inr (by decide))).trans (hn0)) ?_
  refine zp_const (pc := 9) hx hb (zd_X12_feed (9, .bipush 20, 2, 0, []) (List.mem_of_getElem? (i := 5) rfl)) rfl rfl ?_
  refine zp_add (n := (n0 + 20)) (pc := 11) hx hb (zd_X12_feed (11, .iadd, 1, 0, []) (List.mem_of_getElem? (i := 6) rfl)) (by omega) (zp_r0 (by omega) (by omega)) ?_
  refine zp_const (pc := 12) hx hb (zd_X12_feed (12, .sipush 400, 3, 0, []) (List.mem_of_getElem? (i := 7) rfl)) rfl rfl ?_
  refine zp_icmp (pc := 15) (tgt := 20) hx hb (zd_X12_feed (15, .if_icmp .le 5, 3, 0, []) (List.mem_of_getElem? (i := 8) rfl)) rfl (fun (hc56 : (n0 + 20) ≤ 400) => ?_) (fun (hc56 : ¬ ((n0 + 20) ≤ 400)) => ?_)
  · refine zp_load (pc := 20) hx hb (zd_X12_feed (20, .aload_n 0, 1, 0, []) (List.mem_of_getElem? (i := 11) rfl)) rfl (j := 0) rfl ?_
    refine zp_load (pc := 21) hx hb (zd_X12_feed (21, .iload_n 1, 1, 0, []) (List.mem_of_getElem? (i := 12) rfl)) rfl (j := 1) rfl ?_
    have qf0 : (zp_set (zp_n u.2.1) a 0 0) a 13 = n0 := ((zp_set_ne (Or.inr (by decide))).trans (hn0))
    have zf0 : (zp_set (zp_n u.2.1) a 0 0) a 12 = (tb : Int) := ((zp_set_ne (Or.inr (by decide))).trans (htb))
    refine zp_call (pc := 22) (how := 0) (idx := 234) (mi := 206) (S := []) hx hb hE hw heff hrm (zX_mfo hW) rfl (j := 11) rfl rfl (by decide +kernel) (zd_X12_feed (22, .invokevirtual 234, 3, 0, []) (List.mem_of_getElem? (i := 13) rfl)) [(a : Int), p1] rfl ⟨zp_o2 hp, k1, trivial⟩ (Nat.le_of_ble_eq_true rfl) (show (zp_set (zp_n u.2.1) a 0 0) a 13 ≤ 396 by omega) (fun al hal rnf0 Pf0 Gf0 hextf0 hfrf0 hokf0 hcsf0 hpsif0 => ?_)
    obtain rfl := List.mem_singleton.mp hal
    have yaf0 := hextf0 _ _ hp
    have ytbf0 := hextf0 _ _ qtb
    obtain ⟨hPf0, htf0, hbf0⟩ := hpsif0
    subst hPf0
    have htf0 : Gf0 a 13 = (zp_set (zp_n u.2.1) a 0 0) a 13 + 4 := htf0
    have ef0 : Gf0 a 13 = (n0 + 4) := by omega
    have hbf0 : ∀ j : Nat, Gf0 ((zp_set (zp_n u.2.1) a 0 0) a 12).toNat (2000 + j) = if (zp_set (zp_n u.2.1) a 0 0) a 13 ≤ (j : Int) ∧ (j : Int) < (zp_set (zp_n u.2.1) a 0 0) a 13 + 4 then zF_c p1 (24 - 8 * ((j : Int) - (zp_set (zp_n u.2.1) a 0 0) a 13)) else (zp_set (zp_n u.2.1) a 0 0) ((zp_set (zp_n u.2.1) a 0 0) a 12).toNat (2000 + j) := hbf0
    rw [zf0, qf0, show ((tb : Int)).toNat = tb from rfl] at hbf0
    refine zp_load (pc := 25) hx hb (zd_X12_feed (25, .aload_n 0, 1, 0, []) (List.mem_of_getElem? (i := 14) rfl)) rfl (j := 0) rfl ?_
    refine zp_load (pc := 26) hx hb (zd_X12_feed (26, .iload_n 2, 1, 0, []) (List.mem_of_getElem? (i := 15) rfl)) rfl (j := 2) rfl ?_
    have qf1 : Gf0 a 13 = (n0 + 4) := ef0
    have zf1 : Gf0 a 12 = (tb : Int) := ((zp_nf hfrf0 hp rfl).trans ((zp_set_ne (Or.inr (by decide))).trans (htb)))
    refine zp_call (pc := 27) (how := 0) (idx := 234) (mi := 206) (S := []) hx hb hE hw heff hrm (zX_mfo hW) rfl (j := 11) rfl rfl (by decide +kernel) (zd_X12_feed (27, .invokevirtual 234, 3, 0, []) (List.mem_of_getElem? (i := 16) rfl)) [(a : Int), p2] rfl ⟨zp_o2 hp, k2, trivial⟩ (Nat.le_of_ble_eq_true rfl) (show Gf0 a 13 ≤ 396 by omega) (fun al hal rnf1 Pf1 Gf1 hextf1 hfrf1 hokf1 hcsf1 hpsif1 => ?_)
    obtain rfl := List.mem_singleton.mp hal
    have yaf1 := hextf1 _ _ hp
    have ytbf1 := hextf1 _ _ qtb
    obtain ⟨hPf1, htf1, hbf1⟩ := hpsif1
    subst hPf1
    have htf1 : Gf1 a 13 = Gf0 a 13 + 4 := htf1
    have ef1 : Gf1 a 13 = (n0 + 8) := by omega
    have hbf1 : ∀ j : Nat, Gf1 (Gf0 a 12).toNat (2000 + j) = if Gf0 a 13 ≤ (j : Int) ∧ (j : Int) < Gf0 a 13 + 4 then zF_c p2 (24 - 8 * ((j : Int) - Gf0 a 13)) else Gf0 (Gf0 a 12).toNat (2000 + j) := hbf1
    rw [zf1, qf1, show ((tb : Int)).toNat = tb from rfl] at hbf1
    refine zp_load (pc := 30) hx hb (zd_X12_feed (30, .aload_n 0, 1, 0, []) (List.mem_of_getElem? (i := 17) rfl)) rfl (j := 0) rfl ?_
    refine zp_load (pc := 31) hx hb (zd_X12_feed (31, .iload_n 3, 1, 0, []) (List.mem_of_getElem? (i := 18) rfl)) rfl (j := 3) rfl ?_
    have qf2 : Gf1 a 13 = (n0 + 8) := ef1
    have zf2 : Gf1 a 12 = (tb : Int) := ((zp_nf hfrf1 hp rfl).trans ((zp_nf hfrf0 hp rfl).trans ((zp_set_ne (Or.inr (by decide))).trans (htb))))
    refine zp_call (pc := 32) (how := 0) (idx := 234) (mi := 206) (S := []) hx hb hE hw heff hrm (zX_mfo hW) rfl (j := 11) rfl rfl (by decide +kernel) (zd_X12_feed (32, .invokevirtual 234, 3, 0, []) (List.mem_of_getElem? (i := 19) rfl)) [(a : Int), p3] rfl ⟨zp_o2 hp, k3, trivial⟩ (Nat.le_of_ble_eq_true rfl) (show Gf1 a 13 ≤ 396 by omega) (fun al hal rnf2 Pf2 Gf2 hextf2 hfrf2 hokf2 hcsf2 hpsif2 => ?_)
    obtain rfl := List.mem_singleton.mp hal
    have yaf2 := hextf2 _ _ hp
    have ytbf2 := hextf2 _ _ qtb
    obtain ⟨hPf2, htf2, hbf2⟩ := hpsif2
    subst hPf2
    have htf2 : Gf2 a 13 = Gf1 a 13 + 4 := htf2
    have ef2 : Gf2 a 13 = (n0 + 12) := by omega
    have hbf2 : ∀ j : Nat, Gf2 (Gf1 a 12).toNat (2000 + j) = if Gf1 a 13 ≤ (j : Int) ∧ (j : Int) < Gf1 a 13 + 4 then zF_c p3 (24 - 8 * ((j : Int) - Gf1 a 13)) else Gf1 (Gf1 a 12).toNat (2000 + j) := hbf2
    rw [zf2, qf2, show ((tb : Int)).toNat = tb from rfl] at hbf2
    refine zp_load (pc := 35) hx hb (zd_X12_feed (35, .aload_n 0, 1, 0, []) (List.mem_of_getElem? (i := 20) rfl)) rfl (j := 0) rfl ?_
    refine zp_load (pc := 36) hx hb (zd_X12_feed (36, .iload 4, 2, 0, []) (List.mem_of_getElem? (i := 21) rfl)) rfl (j := 4) rfl ?_
    have qf3 : Gf2 a 13 = (n0 + 12) := ef2
    have zf3 : Gf2 a 12 = (tb : Int) := ((zp_nf hfrf2 hp rfl).trans ((zp_nf hfrf1 hp rfl).trans ((zp_nf hfrf0 hp rfl).trans ((zp_set_ne (Or.inr (by decide))).trans (htb)))))
    refine zp_call (pc := 38) (how := 0) (idx := 234) (mi := 206) (S := []) hx hb hE hw heff hrm (zX_mfo hW) rfl (j := 11) rfl rfl (by decide +kernel) (zd_X12_feed (38, .invokevirtual 234, 3, 0, []) (List.mem_of_getElem? (i := 22) rfl)) [(a : Int), p4] rfl ⟨zp_o2 hp, k4, trivial⟩ (Nat.le_of_ble_eq_true rfl) (show Gf2 a 13 ≤ 396 by omega) (fun al hal rnf3 Pf3 Gf3 hextf3 hfrf3 hokf3 hcsf3 hpsif3 => ?_)
    obtain rfl := List.mem_singleton.mp hal
    have yaf3 := hextf3 _ _ hp
    have ytbf3 := hextf3 _ _ qtb
    obtain ⟨hPf3, htf3, hbf3⟩ := hpsif3
    subst hPf3
    have htf3 : Gf3 a 13 = Gf2 a 13 + 4 := htf3
    have ef3 : Gf3 a 13 = (n0 + 16) := by omega
    have hbf3 : ∀ j : Nat, Gf3 (Gf2 a 12).toNat (2000 + j) = if Gf2 a 13 ≤ (j : Int) ∧ (j : Int) < Gf2 a 13 + 4 then zF_c p4 (24 - 8 * ((j : Int) - Gf2 a 13)) else Gf2 (Gf2 a 12).toNat (2000 + j) := hbf3
    rw [zf3, qf3, show ((tb : Int)).toNat = tb from rfl] at hbf3
    refine zp_load (pc := 41) hx hb (zd_X12_feed (41, .aload_n 0, 1, 0, []) (List.mem_of_getElem? (i := 23) rfl)) rfl (j := 0) rfl ?_
    refine zp_load (pc := 42) hx hb (zd_X12_feed (42, .iload 5, 2, 0, []) (List.mem_of_getElem? (i := 24) rfl)) rfl (j := 5) rfl ?_
    have qf4 : Gf3 a 13 = (n0 + 16) := ef3
    have zf4 : Gf3 a 12 = (tb : Int) := ((zp_nf hfrf3 hp rfl).trans ((zp_nf hfrf2 hp rfl).trans ((zp_nf hfrf1 hp rfl).trans ((zp_nf hfrf0 hp rfl).trans ((zp_set_ne (Or.inr (by decide))).trans (htb))))))
    refine zp_call (pc := 44) (how := 0) (idx := 234) (mi := 206) (S := []) hx hb hE hw heff hrm (zX_mfo hW) rfl (j := 11) rfl rfl (by decide +kernel) (zd_X12_feed (44, .invokevirtual 234, 3, 0, []) (List.mem_of_getElem? (i := 25) rfl)) [(a : Int), p5] rfl ⟨zp_o2 hp, k5, trivial⟩ (Nat.le_of_ble_eq_true rfl) (show Gf3 a 13 ≤ 396 by omega) (fun al hal rnf4 Pf4 Gf4 hextf4 hfrf4 hokf4 hcsf4 hpsif4 => ?_)
    obtain rfl := List.mem_singleton.mp hal
    have yaf4 := hextf4 _ _ hp
    have ytbf4 := hextf4 _ _ qtb
    obtain ⟨hPf4, htf4, hbf4⟩ := hpsif4
    subst hPf4
    have htf4 : Gf4 a 13 = Gf3 a 13 + 4 := htf4
    have ef4 : Gf4 a 13 = (n0 + 20) := by omega
    have hbf4 : ∀ j : Nat, Gf4 (Gf3 a 12).toNat (2000 + j) = if Gf3 a 13 ≤ (j : Int) ∧ (j : Int) < Gf3 a 13 + 4 then zF_c p5 (24 - 8 * ((j : Int) - Gf3 a 13)) else Gf3 (Gf3 a 12).toNat (2000 + j) := hbf4
    rw [zf4, qf4, show ((tb : Int)).toNat = tb from rfl] at hbf4
    refine zp_load (pc := 47) hx hb (zd_X12_feed (47, .aload_n 0, 1, 0, []) (List.mem_of_getElem? (i := 26) rfl)) rfl (j := 0) rfl ?_
    refine zp_getf (n := (n0 + 20)) (pc := 48) hx hb hE hw (zd_X12_feed (48, .getfield 228, 3, 0, []) (List.mem_of_getElem? (i := 27) rfl)) (j := 31) rfl rfl rfl hp ef4 ?_
    have ez0 : Gf4 a 13 = (n0 + 20) := ef4
    refine zp_iret (pc := 51) (n := (n0 + 20)) hx hb hE hQ hU5 rfl (by decide) (zd_X12_feed (51, .ireturn, 1, 0, []) (List.mem_of_getElem? (i := 28) rfl)) (j := 0) rfl (zp_o0 (by omega) (by omega) (by omega) (by omega)) ?_
    rw [hps]
    show (zp_n u.2.1 a 13 ≤ 380 → (n0 + 20) = zp_n u.2.1 a 13 + 20 ∧ Gf4 a 13 = zp_n u.2.1 a 13 + 20 ∧ ∀ j : Nat, Gf4 (zp_n u.2.1 a 12).toNat (2000 + j) = zF_5 (fun j => zp_n u.2.1 (zp_n u.2.1 a 12).toNat (2000 + j)) (zp_n u.2.1 a 13) p1 p2 p3 p4 p5 j) ∧ (¬ (zp_n u.2.1 a 13 ≤ 380) → (n0 + 20) = -1 ∧ Gf4 a 13 = zp_n u.2.1 a 13 ∧ ∀ j : Nat, Gf4 (zp_n u.2.1 a 12).toNat (2000 + j) = (fun j => zp_n u.2.1 (zp_n u.2.1 a 12).toNat (2000 + j)) j)
    rw [htv, hn0]
    refine ⟨fun h => ⟨by omega, by omega, fun j => ?_⟩, fun h => by exfalso; omega⟩
    have hj4 : Gf4 tb (2000 + j) = zF_4 (fun j => Gf3 tb (2000 + j)) (n0 + 16) p5 j := hbf4 j
    have hf3 : (fun j => Gf3 tb (2000 + j)) = zF_4 (fun j => Gf2 tb (2000 + j)) (n0 + 12) p4 := funext hbf3
    have hf2 : (fun j => Gf2 tb (2000 + j)) = zF_4 (fun j => Gf1 tb (2000 + j)) (n0 + 8) p3 := funext hbf2
    have hf1 : (fun j => Gf1 tb (2000 + j)) = zF_4 (fun j => Gf0 tb (2000 + j)) (n0 + 4) p2 := funext hbf1
    have hf0 : (fun j => Gf0 tb (2000 + j)) = zF_4 (fun j => (zp_set (zp_n u.2.1) a 0 0) tb (2000 + j)) n0 p1 := funext hbf0
    have hfb : (fun j => zp_set (zp_n u.2.1) a 0 0 tb (2000 + j)) = fun j => zp_n u.2.1 tb (2000 + j) := funext fun j => zp_set_ne (Or.inl (zp_pne qtb hp (by decide)))
    rw [hj4, hf3, hf2, hf1, hf0, hfb]
    rfl
  · refine zp_const (pc := 18) hx hb (zd_X12_feed (18, .iconst (-1), 1, 0, []) (List.mem_of_getElem? (i := 9) rfl)) rfl rfl ?_
    have ez0 : (zp_set (zp_n u.2.1) a 0 0) a 13 = n0 := ((zp_set_ne (Or.inr (by decide))).trans (hn0))
    refine zp_iret (pc := 19) (n := (-1)) hx hb hE hQ hU5 rfl (by decide) (zd_X12_feed (19, .ireturn, 1, 0, []) (List.mem_of_getElem? (i := 10) rfl)) (j := 0) rfl (zp_o0 (by omega) (by omega) (by omega) (by omega)) ?_
    rw [hps]
    show (zp_n u.2.1 a 13 ≤ 380 → (-1) = zp_n u.2.1 a 13 + 20 ∧ (zp_set (zp_n u.2.1) a 0 0) a 13 = zp_n u.2.1 a 13 + 20 ∧ ∀ j : Nat, (zp_set (zp_n u.2.1) a 0 0) (zp_n u.2.1 a 12).toNat (2000 + j) = zF_5 (fun j => zp_n u.2.1 (zp_n u.2.1 a 12).toNat (2000 + j)) (zp_n u.2.1 a 13) p1 p2 p3 p4 p5 j) ∧ (¬ (zp_n u.2.1 a 13 ≤ 380) → (-1) = -1 ∧ (zp_set (zp_n u.2.1) a 0 0) a 13 = zp_n u.2.1 a 13 ∧ ∀ j : Nat, (zp_set (zp_n u.2.1) a 0 0) (zp_n u.2.1 a 12).toNat (2000 + j) = (fun j => zp_n u.2.1 (zp_n u.2.1 a 12).toNat (2000 + j)) j)
    rw [htv, hn0]
    exact ⟨fun h => by exfalso; omega, fun h => ⟨rfl, by omega, fun j => zp_set_ne (Or.inl (zp_pne qtb hp (by decide)))⟩⟩
