/-! part 8azc: the class: row; the tape with its bytes -/
noncomputable def zK_anb : zk_K := (zt_mn 33, prog_9_method_3_code, 3, (Option.none : Option Jvm.ClassFile.FieldType), 1, 7, [(2, 7, 0, 0), (0, 0, (-2147483648), 2147483647)], [(none, [])], [(29, 1001, 0), (7, 1, 0)], (0, 0, 0, 0))
noncomputable def zφ_anb : (Nat → Option Nat) → (Nat → Nat → Int) → List Int → Prop := fun _ G ps => G (zp_0 ps) 1 ≤ 396
noncomputable def zψ_anb : (Nat → Option Nat) → (Nat → Nat → Int) → List Int → (Nat → Option Nat) → (Nat → Nat → Int) → Int → Prop := fun P G ps P' G' rn => P' = P ∧ G' (zp_0 ps) 1 = G (zp_0 ps) 1 + 4 ∧ ∀ j : Nat, G' (G (zp_0 ps) 0).toNat (2000 + j) = if (G (zp_0 ps) 1 : Int) ≤ (j : Int) ∧ (j : Int) < G (zp_0 ps) 1 + 4 then zF_c (ps.getD 1 0) (24 - 8 * ((j : Int) - G (zp_0 ps) 1)) else G (G (zp_0 ps) 0).toNat (2000 + j)
theorem zX_anb {l : Launch} {w : zk_W} (hW : zh_W w) : zk_metX l w zt_dv zt_TB zK_anb (zp_A zφ_anb) (zp_B zψ_anb) ∧ zk_cok w zt_TB zK_anb := by
  refine zp_methX (cn := "WoundTown$Tape") zp_lkallT hW (pl := 680) rfl (by decide +kernel) (fun p e R s m args below meth c Q u hx hb hE hQ hU5 heff hnL hok hφ => ?_)
  have hw := hW.1
  obtain ⟨p0, p1, hps, k0, k1⟩ := zp_ps2 hok
  obtain ⟨a, rfl, hp⟩ := zp_this k0
  have hrm : zk_Kr (zk_ev (zt_types, zp_lkT, zt_dv, [], [], zp_lcT, zK_anb)) = zk_Kr zK_anb := rfl
  rw [hps] at hφ ⊢
  have hi1 := zp_int k1
  show zp_J p l e R s m args below meth c Q w u [] 0 [(0, 2, (a : Int)), (1, 0, p1)] [] u.1 (zp_n u.2.1)
  have hφ : zp_n u.2.1 a 1 ≤ 396 := hφ
  refine zp_kn (k := 1) (a := a) hw (show zp_fd 7 1 = some (7, 0, 0, 0, 400) from rfl) rfl hp (fun hkl0 => ?_)
  obtain ⟨l0, hl0⟩ := zp_nat (zp_int hkl0).1
  have hl0b := zp_int hkl0
  rw [hl0] at hl0b
  rw [hl0] at hφ
  refine zp_kn (k := 0) (a := a) hw (show zp_fd 7 0 = some (7, 2, 29, 0, 0) from rfl) rfl hp (fun hktb => ?_)
  obtain ⟨tb, htb, qtb⟩ := zp_this hktb
  have htv : (zp_n u.2.1 a 0).toNat = tb := by rw [htb, Int.toNat_natCast]
  have loop : ∀ (n k : Nat) (G : Nat → Nat → Int), 4 - k < n → k ≤ 4 → G a 0 = (tb : Int) → G a 1 = ((l0 + k : Nat) : Int) → (∀ j : Nat, G tb (2000 + j) = if l0 ≤ j ∧ j < l0 + k then zF_c p1 (24 - 8 * ((j : Int) - (l0 : Int))) else zp_n u.2.1 tb (2000 + j)) → zp_J p l e R s m args below meth c Q w u [] 3 [(2, 0, (24 - 8 * (k : Int))), (0, 2, (a : Int)), (1, 0, p1)] [] u.1 G := by
    intro n
    induction n with
    | zero => intro k G h; exact absurd h (Nat.not_lt_zero _)
    | succ n ih =>
      intro k G hn hk e0 e1 hB
      obtain ⟨ln, hln⟩ : ∃ ln : Nat, l0 + k = ln := ⟨_, rfl⟩
      rw [hln] at e1
      refine zp_load (pc := 3) hx hb (zd_X7_addNumber (3, .iload_n 2, 1, 0, []) (List.mem_of_getElem? (i := 2) rfl)) rfl (j := 0) rfl ?_
      refine zp_if (pc := 4) (tgt := 56) hx hb (zd_X7_addNumber (4, .ifCond .lt 52, 3, 0, []) (List.mem_of_getElem? (i := 3) rfl)) rfl (fun (hc24 : (24 - 8 * (k : Int)) < 0) => ?_) (fun (hc24 : ¬ ((24 - 8 * (k : Int)) < 0)) => ?_)
      · have hk4 : k = 4 := by omega
        refine zp_vret (pc := 56) hx hb hE hQ hU5 rfl (by decide) (zd_X7_addNumber (56, .return_, 1, 0, []) (List.mem_of_getElem? (i := 29) rfl)) (j := 0) rfl ?_
        rw [hps]
        refine ⟨rfl, ?_, fun j => ?_⟩
        · show G a 1 = zp_n u.2.1 a 1 + 4
          rw [e1, hl0]
          omega
        · show G (zp_n u.2.1 a 0).toNat (2000 + j) = if zp_n u.2.1 a 1 ≤ (j : Int) ∧ (j : Int) < zp_n u.2.1 a 1 + 4 then zF_c p1 (24 - 8 * ((j : Int) - zp_n u.2.1 a 1)) else zp_n u.2.1 (zp_n u.2.1 a 0).toNat (2000 + j)
          rw [htv, hl0, hB j]
          by_cases hj : l0 ≤ j ∧ j < l0 + k
          · rw [if_pos hj, if_pos (by omega)]
          · rw [if_neg hj, if_neg (by omega)]
      · refine zp_load (pc := 7) hx hb (zd_X7_addNumber (7, .aload_n 0, 1, 0, []) (List.mem_of_getElem? (i := 4) rfl)) rfl (j := 1) rfl ?_
        refine zp_getf (n := (ln : Int)) (pc := 8) hx hb hE hw (zd_X7_addNumber (8, .getfield 15, 3, 0, []) (List.mem_of_getElem? (i := 5) rfl)) (j := 2) rfl rfl rfl hp e1 ?_
        refine zp_if (pc := 11) (tgt := 50) hx hb (zd_X7_addNumber (11, .ifCond .lt 39, 3, 0, []) (List.mem_of_getElem? (i := 6) rfl)) rfl (fun (hc25 : (ln : Int) < 0) => ?_) (fun (hc25 : ¬ ((ln : Int) < 0)) => ?_)
        · refine zp_iinc (L' := [(2, 0, ((-8) * (k : Int) + 16)), (0, 2, (a : Int)), (1, 0, p1)]) (n := ((-8) * (k : Int) + 16)) (pc := 50) hx hb hnL (zd_X7_addNumber (50, .iinc 2 (-8), 3, 0, []) (List.mem_of_getElem? (i := 27) rfl)) (j := 0) rfl (by omega) (zp_r0 (by omega) (by omega)) rfl rfl ?_
          refine zp_goto (tgt := 3) (pc := 53) hx hb (zd_X7_addNumber (53, .goto (-50), 3, 0, []) (List.mem_of_getElem? (i := 28) rfl)) rfl ?_
          exfalso
          omega
        · refine zp_load (pc := 14) hx hb (zd_X7_addNumber (14, .aload_n 0, 1, 0, []) (List.mem_of_getElem? (i := 7) rfl)) rfl (j := 1) rfl ?_
          refine zp_getf (n := (ln : Int)) (pc := 15) hx hb hE hw (zd_X7_addNumber (15, .getfield 15, 3, 0, []) (List.mem_of_getElem? (i := 8) rfl)) (j := 2) rfl rfl rfl hp e1 ?_
          refine zp_const (pc := 18) hx hb (zd_X7_addNumber (18, .sipush 400, 3, 0, []) (List.mem_of_getElem? (i := 9) rfl)) rfl rfl ?_
          refine zp_icmp (pc := 21) (tgt := 50) hx hb (zd_X7_addNumber (21, .if_icmp .ge 29, 3, 0, []) (List.mem_of_getElem? (i := 10) rfl)) rfl (fun (hc26 : 400 ≤ (ln : Int)) => ?_) (fun (hc26 : ¬ (400 ≤ (ln : Int))) => ?_)
          · refine zp_iinc (L' := [(2, 0, ((-8) * (k : Int) + 16)), (0, 2, (a : Int)), (1, 0, p1)]) (n := ((-8) * (k : Int) + 16)) (pc := 50) hx hb hnL (zd_X7_addNumber (50, .iinc 2 (-8), 3, 0, []) (List.mem_of_getElem? (i := 27) rfl)) (j := 0) rfl (by omega) (zp_r0 (by omega) (by omega)) rfl rfl ?_
            refine zp_goto (tgt := 3) (pc := 53) hx hb (zd_X7_addNumber (53, .goto (-50), 3, 0, []) (List.mem_of_getElem? (i := 28) rfl)) rfl ?_
            exfalso
            omega
          · refine zp_load (pc := 24) hx hb (zd_X7_addNumber (24, .aload_n 0, 1, 0, []) (List.mem_of_getElem? (i := 11) rfl)) rfl (j := 1) rfl ?_
            refine zp_getf (n := (tb : Int)) (pc := 25) hx hb hE hw (zd_X7_addNumber (25, .getfield 11, 3, 0, []) (List.mem_of_getElem? (i := 12) rfl)) (j := 1) rfl rfl rfl hp e0 ?_
            refine zp_load (pc := 28) hx hb (zd_X7_addNumber (28, .aload_n 0, 1, 0, []) (List.mem_of_getElem? (i := 13) rfl)) rfl (j := 1) rfl ?_
            refine zp_getf (n := (ln : Int)) (pc := 29) hx hb hE hw (zd_X7_addNumber (29, .getfield 15, 3, 0, []) (List.mem_of_getElem? (i := 14) rfl)) (j := 2) rfl rfl rfl hp e1 ?_
            refine zp_load (pc := 32) hx hb (zd_X7_addNumber (32, .iload_n 1, 1, 0, []) (List.mem_of_getElem? (i := 15) rfl)) rfl (j := 2) rfl ?_
            refine zp_load (pc := 33) hx hb (zd_X7_addNumber (33, .iload_n 2, 1, 0, []) (List.mem_of_getElem? (i := 16) rfl)) rfl (j := 0) rfl ?_
            refine zp_binx (o := 8) (n := ((zk_bn 8 (Int32.ofInt p1) (Int32.ofInt (24 - 8 * (k : Int)))).toInt)) (pc := 34) hx hb (zd_X7_addNumber (34, .iushr, 1, 0, []) (List.mem_of_getElem? (i := 17) rfl)) rfl (by decide) rfl ?_
            refine zp_const (pc := 35) hx hb (zd_X7_addNumber (35, .sipush 255, 3, 0, []) (List.mem_of_getElem? (i := 18) rfl)) rfl rfl ?_
            refine zp_binx (o := 3) (n := (zF_c p1 (24 - 8 * (k : Int)))) (pc := 38) hx hb (zd_X7_addNumber (38, .iand, 1, 0, []) (List.mem_of_getElem? (i := 19) rfl)) rfl (by decide) rfl ?_
            have hzf := zF_rg (v := p1) (s := 24 - 8 * (k : Int))
            refine zp_iast (j := ln) (pc := 39) hx hb hw heff (zd_X7_addNumber (39, .iastore, 1, 0, []) (List.mem_of_getElem? (i := 20) rfl)) (show zp_ia 1 29 = some (400, 0, 0, (-2147483648), 2147483647) from rfl) qtb (by omega) (by omega) (zp_o0 (by omega) (by omega) (by omega) (by omega)) rfl ?_
            refine zp_load (pc := 40) hx hb (zd_X7_addNumber (40, .aload_n 0, 1, 0, []) (List.mem_of_getElem? (i := 21) rfl)) rfl (j := 1) rfl ?_
            refine zp_dup (pc := 41) hx hb (zd_X7_addNumber (41, .dup, 1, 0, []) (List.mem_of_getElem? (i := 22) rfl)) (show (2 : Nat) ≠ 1 by decide) ?_
            refine zp_getf (n := (ln : Int)) (pc := 42) hx hb hE hw (zd_X7_addNumber (42, .getfield 15, 3, 0, []) (List.mem_of_getElem? (i := 23) rfl)) (j := 2) rfl rfl rfl hp ((zp_set_ne (Or.inl (zp_pne hp qtb (by decide)))).trans (e1)) ?_
            refine zp_const (pc := 45) hx hb (zd_X7_addNumber (45, .iconst 1, 1, 0, []) (List.mem_of_getElem? (i := 24) rfl)) rfl rfl ?_
            refine zp_add (n := ((ln : Int) + 1)) (pc := 46) hx hb (zd_X7_addNumber (46, .iadd, 1, 0, []) (List.mem_of_getElem? (i := 25) rfl)) (by omega) (zp_r0 (by omega) (by omega)) ?_
            refine zp_putf (pc := 47) hx hb hE hw heff (zd_X7_addNumber (47, .putfield 15, 3, 0, []) (List.mem_of_getElem? (i := 26) rfl)) (j := 2) rfl rfl rfl hp (zp_o0 (by omega) (by omega) (by omega) (by omega)) ?_
            refine zp_iinc (L' := [(2, 0, ((-8) * (k : Int) + 16)), (0, 2, (a : Int)), (1, 0, p1)]) (n := ((-8) * (k : Int) + 16)) (pc := 50) hx hb hnL (zd_X7_addNumber (50, .iinc 2 (-8), 3, 0, []) (List.mem_of_getElem? (i := 27) rfl)) (j := 0) rfl (by omega) (zp_r0 (by omega) (by omega)) rfl rfl ?_
            refine zp_goto (tgt := 3) (pc := 53) hx hb (zd_X7_addNumber (53, .goto (-50), 3, 0, []) (List.mem_of_getElem? (i := 28) rfl)) rfl ?_
            refine zp_drop (L' := [(2, 0, (24 - 8 * ((k + 1 : Nat) : Int))), (0, 2, (a : Int)), (1, 0, p1)]) (by simp <;> omega) ?_
            refine ih (k + 1) _ (by omega) (by omega) (((zp_set_ne (Or.inr (by decide))).trans ((zp_set_ne (Or.inl (zp_pne hp qtb (by decide)))).trans (e0)))) ((zp_set_self).trans (by omega)) (fun j => ?_)
            rw [zp_set_ne (Or.inl (zp_pne qtb hp (by decide))), zp_set_el]
            by_cases hj : j = ln
            · rw [if_pos hj, if_pos (by omega)]
              rw [show 24 - 8 * ((j : Int) - (l0 : Int)) = 24 - 8 * (k : Int) by omega]
            · rw [if_neg hj, hB j]
              by_cases hj2 : l0 ≤ j ∧ j < l0 + k
              · rw [if_pos hj2, if_pos (by omega)]
              · rw [if_neg hj2, if_neg (by omega)]
  refine zp_const (pc := 0) hx hb (zd_X7_addNumber (0, .bipush 24, 2, 0, []) (List.mem_of_getElem? (i := 0) rfl)) rfl rfl ?_
  refine zp_store (L' := [(2, 0, 24), (0, 2, (a : Int)), (1, 0, p1)]) (pc := 2) hx hb hnL (zd_X7_addNumber (2, .istore_n 2, 1, 0, []) (List.mem_of_getElem? (i := 1) rfl)) rfl rfl rfl ?_
  refine zp_drop (L' := [(2, 0, (24 - 8 * ((0 : Nat) : Int))), (0, 2, (a : Int)), (1, 0, p1)]) (by simp) ?_
  exact loop 5 0 _ (by omega) (by omega) htb hl0 (fun j => by rw [if_neg (by omega)])
/-- the tape's bytes behind five numbers -/
noncomputable def zF_4 (B : Nat → Int) (n v : Int) (j : Nat) : Int := if n ≤ (j : Int) ∧ (j : Int) < n + 4 then zF_c v (24 - 8 * ((j : Int) - n)) else B j
noncomputable def zF_5 (B : Nat → Int) (n v1 v2 v3 v4 v5 : Int) (j : Nat) : Int := zF_4 (zF_4 (zF_4 (zF_4 (zF_4 B n v1) (n + 4) v2) (n + 8) v3) (n + 12) v4) (n + 16) v5 j
noncomputable def zK_fdb : zk_K := (zt_mn 31, prog_1_method_9_code, 6, (Option.some Jvm.ClassFile.FieldType.int), 1, 11, [(2, 12, 0, 0), (0, 0, (-2147483648), 2147483647), (0, 0, (-2147483648), 2147483647), (0, 0, (-2147483648), 2147483647), (0, 0, (-2147483648), 2147483647), (0, 0, (-2147483648), 2147483647)], [(some (0, 0, (-1), 400), [])], [(29, 1001, 0), (7, 1, 0)], (1, 40, 0, 0))
noncomputable def zψ_fdb : (Nat → Option Nat) → (Nat → Nat → Int) → List Int → (Nat → Option Nat) → (Nat → Nat → Int) → Int → Prop := fun P G ps P' G' rn => (G (G (zp_0 ps) 8).toNat 1 ≤ 380 → rn = G (G (zp_0 ps) 8).toNat 1 + 20 ∧ G' (G (zp_0 ps) 8).toNat 1 = G (G (zp_0 ps) 8).toNat 1 + 20 ∧ ∀ j : Nat, G' (G (G (zp_0 ps) 8).toNat 0).toNat (2000 + j) = zF_5 (fun j => G (G (G (zp_0 ps) 8).toNat 0).toNat (2000 + j)) (G (G (zp_0 ps) 8).toNat 1) (ps.getD 1 0) (ps.getD 2 0) (ps.getD 3 0) (ps.getD 4 0) (ps.getD 5 0) j) ∧ (¬ (G (G (zp_0 ps) 8).toNat 1 ≤ 380) → rn = -1 ∧ G' (G (zp_0 ps) 8).toNat 1 = G (G (zp_0 ps) 8).toNat 1 ∧ ∀ j : Nat, G' (G (G (zp_0 ps) 8).toNat 0).toNat (2000 + j) = (fun j => G (G (G (zp_0 ps) 8).toNat 0).toNat (2000 + j)) j)
theorem zX_fdb {l : Launch} {w : zk_W} (hW : zh_W w) : zk_metX l w zt_dv zt_TB zK_fdb (zp_A zp_tA) (zp_B zψ_fdb) ∧ zk_cok w zt_TB zK_fdb := by
  refine zp_methX (cn := "WoundTown") zp_lkallW hW (pl := 672) rfl (by decide +kernel) (fun p e R s m args below meth c Q u hx hb hE hQ hU5 heff hnL hok hφ => ?_)
  have hw := hW.1
  obtain ⟨p0, p1, p2, p3, p4, p5, hps, k0, k1, k2, k3, k4, k5⟩ := zp_ps6 hok
  obtain ⟨a, rfl, hp⟩ := zp_this k0
  have hrm : zk_Kr (zk_ev (zt_types, zp_lkW, zt_dv, [], [], zp_lcW, zK_fdb)) = zk_Kr zK_fdb := rfl
  rw [hps] at hφ ⊢
  have hi1 := zp_int k1
  have hi2 := zp_int k2
  have hi3 := zp_int k3
  have hi4 := zp_int k4
  have hi5 := zp_int k5
  show zp_J p l e R s m args below meth c Q w u [] 0 [(0, 2, (a : Int)), (1, 0, p1), (2, 0, p2), (3, 0, p3), (4, 0, p4), (5, 0, p5)] [] u.1 (zp_n u.2.1)
  refine zp_kn (k := 8) (a := a) hw (show zp_fd 12 8 = some (11, 2, 7, 0, 0) from rfl) rfl hp (fun hktp => ?_)
  obtain ⟨tp, htp, qtp⟩ := zp_this hktp
  refine zp_kn (k := 0) (a := tp) hw (show zp_fd 7 0 = some (7, 2, 29, 0, 0) from rfl) rfl qtp (fun hktb => ?_)
  obtain ⟨tb, htb, qtb⟩ := zp_this hktb
  refine zp_kn (k := 1) (a := tp) hw (show zp_fd 7 1 = some (7, 0, 0, 0, 400) from rfl) rfl qtp (fun hkn0 => ?_)
  obtain ⟨n0, hn0⟩ : ∃ z0 : Int, (zp_n u.2.1) tp 1 = z0 := ⟨_, rfl⟩
  have hn0b := zp_int hkn0
  rw [hn0] at hn0b
  have htu : (zp_n u.2.1 a 8).toNat = tp := by rw [htp, Int.toNat_natCast]
  have htv : (zp_n u.2.1 tp 0).toNat = tb := by rw [htb, Int.toNat_natCast]
  refine zp_load (pc := 0) hx hb (zd_X11_feed (0, .aload_n 0, 1, 0, []) (List.mem_of_getElem? (i := 0) rfl)) rfl (j := 0) rfl ?_
  refine zp_getf (n := (tp : Int)) (pc := 1) hx hb hE hw (zd_X11_feed (1, .getfield 67, 3, 0, []) (List.mem_of_getElem? (i := 1) rfl)) (j := 58) rfl rfl rfl hp htp ?_
  refine zp_const (pc := 4) hx hb (zd_X11_feed (4, .bipush 20, 2, 0, []) (List.mem_of_getElem? (i := 2) rfl)) rfl rfl ?_
  refine zp_call (pc := 6) (how := 0) (idx := 186) (mi := 32) (S := []) hx hb hE hw heff hrm (zX_rf hW) rfl (j := 19) rfl rfl (by decide +kernel) (zd_X11_feed (6, .invokevirtual 186, 3, 0, []) (List.mem_of_getElem? (i := 3) rfl)) [(tp : Int), 20] rfl ⟨zp_o2 qtp, zp_o0 (by decide) (by decide) (by decide) (by decide), trivial⟩ (Nat.le_of_ble_eq_true rfl) trivial (fun al hal rnrm Prm Grm hextrm hfrrm hokrm hcsrm hpsirm => ?_)
  obtain rfl := List.mem_singleton.mp hal
  have hrrm := zp_int (hokrm _ rfl).1
  obtain ⟨hPerm, hGerm, htrm⟩ := hpsirm
  have htrm : rnrm = 1 ↔ zp_n u.2.1 tp 1 + 20 ≤ 400 := htrm
  rw [hPerm, hGerm]
  rw [hn0] at htrm
  refine zp_if (pc := 9) (tgt := 14) hx hb (zd_X11_feed (9, .ifCond .ne 5, 3, 0, []) (List.mem_of_getElem? (i := 4) rfl)) rfl (fun (hc27 : ¬ rnrm = 0) => ?_) (fun (hc27 : ¬ (¬ rnrm = 0)) => ?_)
  · refine zp_load (pc := 14) hx hb (zd_X11_feed (14, .aload_n 0, 1, 0, []) (List.mem_of_getElem? (i := 7) rfl)) rfl (j := 0) rfl ?_
    refine zp_getf (n := (tp : Int)) (pc := 15) hx hb hE hw (zd_X11_feed (15, .getfield 67, 3, 0, []) (List.mem_of_getElem? (i := 8) rfl)) (j := 58) rfl rfl rfl hp htp ?_
    refine zp_load (pc := 18) hx hb (zd_X11_feed (18, .iload_n 1, 1, 0, []) (List.mem_of_getElem? (i := 9) rfl)) rfl (j := 1) rfl ?_
    have qf0 : (zp_n u.2.1) tp 1 = n0 := hn0
    have zf0 : (zp_n u.2.1) tp 0 = (tb : Int) := htb
    refine zp_call (pc := 19) (how := 0) (idx := 189) (mi := 33) (S := []) hx hb hE hw heff hrm (zX_anb hW) rfl (j := 20) rfl rfl (by decide +kernel) (zd_X11_feed (19, .invokevirtual 189, 3, 0, []) (List.mem_of_getElem? (i := 10) rfl)) [(tp : Int), p1] rfl ⟨zp_o2 qtp, k1, trivial⟩ (Nat.le_of_ble_eq_true rfl) (show (zp_n u.2.1) tp 1 ≤ 396 by omega) (fun al hal rnf0 Pf0 Gf0 hextf0 hfrf0 hokf0 hcsf0 hpsif0 => ?_)
    obtain rfl := List.mem_singleton.mp hal
    have yaf0 := hextf0 _ _ hp
    have ytpf0 := hextf0 _ _ qtp
    have ytbf0 := hextf0 _ _ qtb
    obtain ⟨hPf0, htf0, hbf0⟩ := hpsif0
    subst hPf0
    have htf0 : Gf0 tp 1 = (zp_n u.2.1) tp 1 + 4 := htf0
    have ef0 : Gf0 tp 1 = (n0 + 4) := by omega
    have hbf0 : ∀ j : Nat, Gf0 ((zp_n u.2.1) tp 0).toNat (2000 + j) = if (zp_n u.2.1) tp 1 ≤ (j : Int) ∧ (j : Int) < (zp_n u.2.1) tp 1 + 4 then zF_c p1 (24 - 8 * ((j : Int) - (zp_n u.2.1) tp 1)) else (zp_n u.2.1) ((zp_n u.2.1) tp 0).toNat (2000 + j) := hbf0
    rw [zf0, qf0, show ((tb : Int)).toNat = tb from rfl] at hbf0
    refine zp_load (pc := 22) hx hb (zd_X11_feed (22, .aload_n 0, 1, 0, []) (List.mem_of_getElem? (i := 11) rfl)) rfl (j := 0) rfl ?_
    refine zp_getf (n := (tp : Int)) (pc := 23) hx hb hE hw (zd_X11_feed (23, .getfield 67, 3, 0, []) (List.mem_of_getElem? (i := 12) rfl)) (j := 58) rfl rfl rfl hp ((zp_nf hfrf0 hp rfl).trans htp) ?_
    refine zp_load (pc := 26) hx hb (zd_X11_feed (26, .iload_n 2, 1, 0, []) (List.mem_of_getElem? (i := 13) rfl)) rfl (j := 2) rfl ?_
    have qf1 : Gf0 tp 1 = (n0 + 4) := ef0
    have zf1 : Gf0 tp 0 = (tb : Int) := ((zp_nf hfrf0 qtp rfl).trans htb)
    refine zp_call (pc := 27) (how := 0) (idx := 189) (mi := 33) (S := []) hx hb hE hw heff hrm (zX_anb hW) rfl (j := 20) rfl rfl (by decide +kernel) (zd_X11_feed (27, .invokevirtual 189, 3, 0, []) (List.mem_of_getElem? (i := 14) rfl)) [(tp : Int), p2] rfl ⟨zp_o2 qtp, k2, trivial⟩ (Nat.le_of_ble_eq_true rfl) (show Gf0 tp 1 ≤ 396 by omega) (fun al hal rnf1 Pf1 Gf1 hextf1 hfrf1 hokf1 hcsf1 hpsif1 => ?_)
    obtain rfl := List.mem_singleton.mp hal
    have yaf1 := hextf1 _ _ hp
    have ytpf1 := hextf1 _ _ qtp
    have ytbf1 := hextf1 _ _ qtb
    obtain ⟨hPf1, htf1, hbf1⟩ := hpsif1
    subst hPf1
    have htf1 : Gf1 tp 1 = Gf0 tp 1 + 4 := htf1
    have ef1 : Gf1 tp 1 = (n0 + 8) := by omega
    have hbf1 : ∀ j : Nat, Gf1 (Gf0 tp 0).toNat (2000 + j) = if Gf0 tp 1 ≤ (j : Int) ∧ (j : Int) < Gf0 tp 1 + 4 then zF_c p2 (24 - 8 * ((j : Int) - Gf0 tp 1)) else Gf0 (Gf0 tp 0).toNat (2000 + j) := hbf1
    rw [zf1, qf1, show ((tb : Int)).toNat = tb from rfl] at hbf1
    refine zp_load (pc := 30) hx hb (zd_X11_feed (30, .aload_n 0, 1, 0, []) (List.mem_of_getElem? (i := 15) rfl)) rfl (j := 0) rfl ?_
    refine zp_getf (n := (tp : Int)) (pc := 31) hx hb hE hw (zd_X11_feed (31, .getfield 67, 3, 0, []) (List.mem_of_getElem? (i := 16) rfl)) (j := 58) rfl rfl rfl hp ((zp_nf hfrf1 hp rfl).trans ((zp_nf hfrf0 hp rfl).trans htp)) ?_
    refine zp_load (pc := 34) hx hb (zd_X11_feed (34, .iload_n 3, 1, 0, []) (List.mem_of_getElem? (i := 17) rfl)) rfl (j := 3) rfl ?_
    have qf2 : Gf1 tp 1 = (n0 + 8) := ef1
    have zf2 : Gf1 tp 0 = (tb : Int) := ((zp_nf hfrf1 qtp rfl).trans ((zp_nf hfrf0 qtp rfl).trans htb))
    refine zp_call (pc := 35) (how := 0) (idx := 189) (mi := 33) (S := []) hx hb hE hw heff hrm (zX_anb hW) rfl (j := 20) rfl rfl (by decide +kernel) (zd_X11_feed (35, .invokevirtual 189, 3, 0, []) (List.mem_of_getElem? (i := 18) rfl)) [(tp : Int), p3] rfl ⟨zp_o2 qtp, k3, trivial⟩ (Nat.le_of_ble_eq_true rfl) (show Gf1 tp 1 ≤ 396 by omega) (fun al hal rnf2 Pf2 Gf2 hextf2 hfrf2 hokf2 hcsf2 hpsif2 => ?_)
    obtain rfl := List.mem_singleton.mp hal
    have yaf2 := hextf2 _ _ hp
    have ytpf2 := hextf2 _ _ qtp
    have ytbf2 := hextf2 _ _ qtb
    obtain ⟨hPf2, htf2, hbf2⟩ := hpsif2
    subst hPf2
    have htf2 : Gf2 tp 1 = Gf1 tp 1 + 4 := htf2
    have ef2 : Gf2 tp 1 = (n0 + 12) := by omega
    have hbf2 : ∀ j : Nat, Gf2 (Gf1 tp 0).toNat (2000 + j) = if Gf1 tp 1 ≤ (j : Int) ∧ (j : Int) < Gf1 tp 1 + 4 then zF_c p3 (24 - 8 * ((j : Int) - Gf1 tp 1)) else Gf1 (Gf1 tp 0).toNat (2000 + j) := hbf2
    rw [zf2, qf2, show ((tb : Int)).toNat = tb from rfl] at hbf2
    refine zp_load (pc := 38) hx hb (zd_X11_feed (38, .aload_n 0, 1, 0, []) (List.mem_of_getElem? (i := 19) rfl)) rfl (j := 0) rfl ?_
    refine zp_getf (n := (tp : Int)) (pc := 39) hx hb hE hw (zd_X11_feed (39, .getfield 67, 3, 0, []) (List.mem_of_getElem? (i := 20) rfl)) (j := 58) rfl rfl rfl hp ((zp_nf hfrf2 hp rfl).trans ((zp_nf hfrf1 hp rfl).trans ((zp_nf hfrf0 hp rfl).trans htp))) ?_
    refine zp_load (pc := 42) hx hb (zd_X11_feed (42, .iload 4, 2, 0, []) (List.mem_of_getElem? (i := 21) rfl)) rfl (j := 4) rfl ?_
    have qf3 : Gf2 tp 1 = (n0 + 12) := ef2
    have zf3 : Gf2 tp 0 = (tb : Int) := ((zp_nf hfrf2 qtp rfl).trans ((zp_nf hfrf1 qtp rfl).trans ((zp_nf hfrf0 qtp rfl).trans htb)))
    refine zp_call (pc := 44) (how := 0) (idx := 189) (mi := 33) (S := []) hx hb hE hw heff hrm (zX_anb hW) rfl (j := 20) rfl rfl (by decide +kernel) (zd_X11_feed (44, .invokevirtual 189, 3, 0, []) (List.mem_of_getElem? (i := 22) rfl)) [(tp : Int), p4] rfl ⟨zp_o2 qtp, k4, trivial⟩ (Nat.le_of_ble_eq_true rfl) (show Gf2 tp 1 ≤ 396 by omega) (fun al hal rnf3 Pf3 Gf3 hextf3 hfrf3 hokf3 hcsf3 hpsif3 => ?_)
    obtain rfl := List.mem_singleton.mp hal
    have yaf3 := hextf3 _ _ hp
    have ytpf3 := hextf3 _ _ qtp
    have ytbf3 := hextf3 _ _ qtb
    obtain ⟨hPf3, htf3, hbf3⟩ := hpsif3
    subst hPf3
    have htf3 : Gf3 tp 1 = Gf2 tp 1 + 4 := htf3
    have ef3 : Gf3 tp 1 = (n0 + 16) := by omega
    have hbf3 : ∀ j : Nat, Gf3 (Gf2 tp 0).toNat (2000 + j) = if Gf2 tp 1 ≤ (j : Int) ∧ (j : Int) < Gf2 tp 1 + 4 then zF_c p4 (24 - 8 * ((j : Int) - Gf2 tp 1)) else Gf2 (Gf2 tp 0).toNat (2000 + j) := hbf3
    rw [zf3, qf3, show ((tb : Int)).toNat = tb from rfl] at hbf3
    refine zp_load (pc := 47) hx hb (zd_X11_feed (47, .aload_n 0, 1, 0, []) (List.mem_of_getElem? (i := 23) rfl)) rfl (j := 0) rfl ?_
    refine zp_getf (n := (tp : Int)) (pc := 48) hx hb hE hw (zd_X11_feed (48, .getfield 67, 3, 0, []) (List.mem_of_getElem? (i := 24) rfl)) (j := 58) rfl rfl rfl hp ((zp_nf hfrf3 hp rfl).trans ((zp_nf hfrf2 hp rfl).trans ((zp_nf hfrf1 hp rfl).trans ((zp_nf hfrf0 hp rfl).trans htp)))) ?_
    refine zp_load (pc := 51) hx hb (zd_X11_feed (51, .iload 5, 2, 0, []) (List.mem_of_getElem? (i := 25) rfl)) rfl (j := 5) rfl ?_
    have qf4 : Gf3 tp 1 = (n0 + 16) := ef3
    have zf4 : Gf3 tp 0 = (tb : Int) := ((zp_nf hfrf3 qtp rfl).trans ((zp_nf hfrf2 qtp rfl).trans ((zp_nf hfrf1 qtp rfl).trans ((zp_nf hfrf0 qtp rfl).trans htb))))
    refine zp_call (pc := 53) (how := 0) (idx := 189) (mi := 33) (S := []) hx hb hE hw heff hrm (zX_anb hW) rfl (j := 20) rfl rfl (by decide +kernel) (zd_X11_feed (53, .invokevirtual 189, 3, 0, []) (List.mem_of_getElem? (i := 26) rfl)) [(tp : Int), p5] rfl ⟨zp_o2 qtp, k5, trivial⟩ (Nat.le_of_ble_eq_true rfl) (show Gf3 tp 1 ≤ 396 by omega) (fun al hal rnf4 Pf4 Gf4 hextf4 hfrf4 hokf4 hcsf4 hpsif4 => ?_)
    obtain rfl := List.mem_singleton.mp hal
    have yaf4 := hextf4 _ _ hp
    have ytpf4 := hextf4 _ _ qtp
    have ytbf4 := hextf4 _ _ qtb
    obtain ⟨hPf4, htf4, hbf4⟩ := hpsif4
    subst hPf4
    have htf4 : Gf4 tp 1 = Gf3 tp 1 + 4 := htf4
    have ef4 : Gf4 tp 1 = (n0 + 20) := by omega
    have hbf4 : ∀ j : Nat, Gf4 (Gf3 tp 0).toNat (2000 + j) = if Gf3 tp 1 ≤ (j : Int) ∧ (j : Int) < Gf3 tp 1 + 4 then zF_c p5 (24 - 8 * ((j : Int) - Gf3 tp 1)) else Gf3 (Gf3 tp 0).toNat (2000 + j) := hbf4
    rw [zf4, qf4, show ((tb : Int)).toNat = tb from rfl] at hbf4
    refine zp_load (pc := 56) hx hb (zd_X11_feed (56, .aload_n 0, 1, 0, []) (List.mem_of_getElem? (i := 27) rfl)) rfl (j := 0) rfl ?_
    refine zp_getf (n := (tp : Int)) (pc := 57) hx hb hE hw (zd_X11_feed (57, .getfield 67, 3, 0, []) (List.mem_of_getElem? (i := 28) rfl)) (j := 58) rfl rfl rfl hp ((zp_nf hfrf4 hp rfl).trans ((zp_nf hfrf3 hp rfl).trans ((zp_nf hfrf2 hp rfl).trans ((zp_nf hfrf1 hp rfl).trans ((zp_nf hfrf0 hp rfl).trans htp))))) ?_
    refine zp_getf (n := (n0 + 20)) (pc := 60) hx hb hE hw (zd_X11_feed (60, .getfield 193, 3, 0, []) (List.mem_of_getElem? (i := 29) rfl)) (j := 39) rfl rfl rfl qtp ef4 ?_
    have ez0 : Gf4 tp 1 = (n0 + 20) := ef4
    refine zp_iret (pc := 63) (n := (n0 + 20)) hx hb hE hQ hU5 rfl (by decide) (zd_X11_feed (63, .ireturn, 1, 0, []) (List.mem_of_getElem? (i := 30) rfl)) (j := 0) rfl (zp_o0 (by omega) (by omega) (by omega) (by omega)) ?_
    rw [hps]
    show (zp_n u.2.1 (zp_n u.2.1 a 8).toNat 1 ≤ 380 → (n0 + 20) = zp_n u.2.1 (zp_n u.2.1 a 8).toNat 1 + 20 ∧ Gf4 (zp_n u.2.1 a 8).toNat 1 = zp_n u.2.1 (zp_n u.2.1 a 8).toNat 1 + 20 ∧ ∀ j : Nat, Gf4 (zp_n u.2.1 (zp_n u.2.1 a 8).toNat 0).toNat (2000 + j) = zF_5 (fun j => zp_n u.2.1 (zp_n u.2.1 (zp_n u.2.1 a 8).toNat 0).toNat (2000 + j)) (zp_n u.2.1 (zp_n u.2.1 a 8).toNat 1) p1 p2 p3 p4 p5 j) ∧ (¬ (zp_n u.2.1 (zp_n u.2.1 a 8).toNat 1 ≤ 380) → (n0 + 20) = -1 ∧ Gf4 (zp_n u.2.1 a 8).toNat 1 = zp_n u.2.1 (zp_n u.2.1 a 8).toNat 1 ∧ ∀ j : Nat, Gf4 (zp_n u.2.1 (zp_n u.2.1 a 8).toNat 0).toNat (2000 + j) = (fun j => zp_n u.2.1 (zp_n u.2.1 (zp_n u.2.1 a 8).toNat 0).toNat (2000 + j)) j)
    rw [htu, htv, hn0]
    refine ⟨fun h => ⟨by omega, by omega, fun j => ?_⟩, fun h => by exfalso; omega⟩
    have hj4 : Gf4 tb (2000 + j) = zF_4 (fun j => Gf3 tb (2000 + j)) (n0 + 16) p5 j := hbf4 j
    have hf3 : (fun j => Gf3 tb (2000 + j)) = zF_4 (fun j => Gf2 tb (2000 + j)) (n0 + 12) p4 := funext hbf3
    have hf2 : (fun j => Gf2 tb (2000 + j)) = zF_4 (fun j => Gf1 tb (2000 + j)) (n0 + 8) p3 := funext hbf2
    have hf1 : (fun j => Gf1 tb (2000 + j)) = zF_4 (fun j => Gf0 tb (2000 + j)) (n0 + 4) p2 := funext hbf1
    have hf0 : (fun j => Gf0 tb (2000 + j)) = zF_4 (fun j => zp_n u.2.1 tb (2000 + j)) n0 p1 := funext hbf0
    rw [hj4, hf3, hf2, hf1, hf0]
    rfl
  · refine zp_const (pc := 12) hx hb (zd_X11_feed (12, .iconst (-1), 1, 0, []) (List.mem_of_getElem? (i := 5) rfl)) rfl rfl ?_
    have ez0 : (zp_n u.2.1) tp 1 = n0 := hn0
    refine zp_iret (pc := 13) (n := (-1)) hx hb hE hQ hU5 rfl (by decide) (zd_X11_feed (13, .ireturn, 1, 0, []) (List.mem_of_getElem? (i := 6) rfl)) (j := 0) rfl (zp_o0 (by omega) (by omega) (by omega) (by omega)) ?_
    rw [hps]
    show (zp_n u.2.1 (zp_n u.2.1 a 8).toNat 1 ≤ 380 → (-1) = zp_n u.2.1 (zp_n u.2.1 a 8).toNat 1 + 20 ∧ (zp_n u.2.1) (zp_n u.2.1 a 8).toNat 1 = zp_n u.2.1 (zp_n u.2.1 a 8).toNat 1 + 20 ∧ ∀ j : Nat, (zp_n u.2.1) (zp_n u.2.1 (zp_n u.2.1 a 8).toNat 0).toNat (2000 + j) = zF_5 (fun j => zp_n u.2.1 (zp_n u.2.1 (zp_n u.2.1 a 8).toNat 0).toNat (2000 + j)) (zp_n u.2.1 (zp_n u.2.1 a 8).toNat 1) p1 p2 p3 p4 p5 j) ∧ (¬ (zp_n u.2.1 (zp_n u.2.1 a 8).toNat 1 ≤ 380) → (-1) = -1 ∧ (zp_n u.2.1) (zp_n u.2.1 a 8).toNat 1 = zp_n u.2.1 (zp_n u.2.1 a 8).toNat 1 ∧ ∀ j : Nat, (zp_n u.2.1) (zp_n u.2.1 (zp_n u.2.1 a 8).toNat 0).toNat (2000 + j) = (fun j => zp_n u.2.1 (zp_n u.2.1 (zp_n u.2.1 a 8).toNat 0).toNat (2000 + j)) j)
    rw [htu, htv, hn0]
    exact ⟨fun h => by exfalso; omega, fun h => ⟨rfl, by omega, fun j => rfl⟩⟩
