/-! part 68: tell, law -/
def zK_te : zk_K := (zt_mn 183, prog_14_method_7_code, 2, (Option.some Jvm.ClassFile.FieldType.int), 1, 12, [(2, 92, 0, 0), (0, 0, (-6), 2147483647)], [(some (0, 0, (-6), 2147483647), [])], [(92, 1, 0), (58, 1001, 0)], (0, 0, 0, 0))
def zψ_te : (Nat → Option Nat) → (Nat → Nat → Int) → List Int → (Nat → Option Nat) → (Nat → Nat → Int) → Int → Prop := fun P G ps P' G' rn => P' = P ∧ rn = ps.getD 1 0
theorem zX_te {l : Launch} {w : zk_W} (hW : zh_W w) : zk_metX l w zt_dv zt_TB zK_te (zp_A zp_tA) (zp_B zψ_te) ∧ zk_cok w zt_TB zK_te := by
  refine zp_meth hW (pl := 1561) rfl (by decide +kernel) (fun p e R s m args below meth c Q u hx hb hE hQ hU5 heff hnL hok hφ => ?_)
  have hw := hW.1
  obtain ⟨p0, p1, hps, k0, k1⟩ := zp_ps2 hok
  obtain ⟨a, rfl, hp⟩ := zp_this k0
  have hrm : zk_Kr (zk_ev (zp_E zK_te)) = zk_Kr zK_te := rfl
  rw [hps] at hφ ⊢
  have hi1 := zp_int k1
  show zp_J p l e R s m args below meth c Q w u [] 0 [(0, 2, (a : Int)), (1, 0, p1)] [] u.1 (zp_n u.2.1)
  refine zp_kn (k := 2) (a := a) hw (show zp_fd 92 2 = some (12, 2, 58, 0, 0) from rfl) rfl hp (fun hk2 => ?_)
  obtain ⟨b2, hb2, hq2⟩ := zp_this hk2
  refine zp_load (pc := 0) hx hb (zd_X12_tell (0, .aload_n 0, 1, 0, []) (List.mem_of_getElem? (i := 0) rfl)) rfl (j := 0) rfl ?_
  refine zp_load (pc := 1) hx hb (zd_X12_tell (1, .iload_n 1, 1, 0, []) (List.mem_of_getElem? (i := 1) rfl)) rfl (j := 1) rfl ?_
  refine zp_if (pc := 2) (tgt := 9) hx hb (zd_X12_tell (2, .ifCond .ge 7, 3, 0, []) (List.mem_of_getElem? (i := 2) rfl)) rfl (fun (hc171 : 0 ≤ p1) => ?_) (fun (hc171 : ¬ (0 ≤ p1)) => ?_)
  · refine zp_const (pc := 9) hx hb (zd_X12_tell (9, .iconst 0, 1, 0, []) (List.mem_of_getElem? (i := 5) rfl)) rfl rfl ?_
    refine zp_putf (pc := 10) hx hb hE hw heff (zd_X12_tell (10, .putfield 164, 3, 0, []) (List.mem_of_getElem? (i := 6) rfl)) (j := 19) rfl rfl rfl hp (zp_o0 (by decide) (by decide) (by decide) (by decide)) ?_
    refine zp_load (pc := 13) hx hb (zd_X12_tell (13, .iload_n 1, 1, 0, []) (List.mem_of_getElem? (i := 7) rfl)) rfl (j := 1) rfl ?_
    refine zp_if (pc := 14) (tgt := 28) hx hb (zd_X12_tell (14, .ifCond .ge 14, 3, 0, []) (List.mem_of_getElem? (i := 8) rfl)) rfl (fun (hc172 : 0 ≤ p1) => ?_) (fun (hc172 : ¬ (0 ≤ p1)) => ?_)
    · refine zp_load (pc := 28) hx hb (zd_X12_tell (28, .iload_n 1, 1, 0, []) (List.mem_of_getElem? (i := 18) rfl)) rfl (j := 1) rfl ?_
      refine zp_iret (pc := 29) (n := p1) hx hb hE hQ hU5 rfl (by decide) (zd_X12_tell (29, .ireturn, 1, 0, []) (List.mem_of_getElem? (i := 19) rfl)) (j := 0) rfl (zp_o0 (by omega) (by omega) (by omega) (by omega)) ?_
      rw [hps]
      exact ⟨rfl, rfl⟩
    · refine zp_load (pc := 17) hx hb (zd_X12_tell (17, .aload_n 0, 1, 0, []) (List.mem_of_getElem? (i := 9) rfl)) rfl (j := 0) rfl ?_
      refine zp_getf (n := (b2 : Int)) (pc := 18) hx hb hE hw (zd_X12_tell (18, .getfield 7, 3, 0, []) (List.mem_of_getElem? (i := 10) rfl)) (j := 20) rfl rfl rfl hp ((zp_set_ne (Or.inr (by decide))).trans (hb2)) ?_
      refine zp_load (pc := 21) hx hb (zd_X12_tell (21, .iload_n 1, 1, 0, []) (List.mem_of_getElem? (i := 11) rfl)) rfl (j := 1) rfl ?_
      refine zp_neg (n := (-p1)) (pc := 22) hx hb (zd_X12_tell (22, .ineg, 1, 0, []) (List.mem_of_getElem? (i := 12) rfl)) (by omega) (zp_r0 (by omega) (by omega)) ?_
      refine zp_dup2 (pc := 23) hx hb (zd_X12_tell (23, .dup2, 1, 0, []) (List.mem_of_getElem? (i := 13) rfl)) (show (0 : Nat) ≠ 1 by decide) (show (2 : Nat) ≠ 1 by decide) ?_
      refine zp_iald (j := ((-p1)).toNat) (v := ((zp_n u.2.1) b2 (2000 + ((-p1)).toNat))) (pc := 24) hx hb hw (zd_X12_tell (24, .iaload, 1, 0, []) (List.mem_of_getElem? (i := 14) rfl)) (show zp_ia 1 58 = some (7, 0, 0, (-2147483648), 2147483647) from rfl) hq2 (by omega) (by omega) ((zp_set_ne (Or.inl (zp_pne hq2 hp (by decide))))) (fun hk173 => ?_)
      have hk173b := zp_int hk173
      refine zp_const (pc := 25) hx hb (zd_X12_tell (25, .iconst 1, 1, 0, []) (List.mem_of_getElem? (i := 15) rfl)) rfl rfl ?_
      refine zp_bin (o := 0) (la := -2147483648) (ha := 2147483647) (lb := -2147483648) (hb' := 2147483647) (pc := 26) hx hb (zd_X12_tell (26, .iadd, 1, 0, []) (List.mem_of_getElem? (i := 16) rfl)) rfl (fun h => absurd h (by decide)) (by omega) (by omega) (by omega) (by omega) (fun x174 r_x174 _ _ => ?_)
      have i_x174 := zp_rg0 r_x174
      refine zp_iast (j := ((-p1)).toNat) (pc := 27) hx hb hw heff (zd_X12_tell (27, .iastore, 1, 0, []) (List.mem_of_getElem? (i := 17) rfl)) (show zp_ia 1 58 = some (7, 0, 0, (-2147483648), 2147483647) from rfl) hq2 (by omega) (by omega) (zp_o0 (by omega) (by omega) (by omega) (by omega)) rfl ?_
      refine zp_load (pc := 28) hx hb (zd_X12_tell (28, .iload_n 1, 1, 0, []) (List.mem_of_getElem? (i := 18) rfl)) rfl (j := 1) rfl ?_
      refine zp_iret (pc := 29) (n := p1) hx hb hE hQ hU5 rfl (by decide) (zd_X12_tell (29, .ireturn, 1, 0, []) (List.mem_of_getElem? (i := 19) rfl)) (j := 0) rfl (zp_o0 (by omega) (by omega) (by omega) (by omega)) ?_
      rw [hps]
      exact ⟨rfl, rfl⟩
  · refine zp_load (pc := 5) hx hb (zd_X12_tell (5, .iload_n 1, 1, 0, []) (List.mem_of_getElem? (i := 3) rfl)) rfl (j := 1) rfl ?_
    refine zp_goto (tgt := 10) (pc := 6) hx hb (zd_X12_tell (6, .goto 4, 3, 0, []) (List.mem_of_getElem? (i := 4) rfl)) rfl ?_
    refine zp_putf (pc := 10) hx hb hE hw heff (zd_X12_tell (10, .putfield 164, 3, 0, []) (List.mem_of_getElem? (i := 6) rfl)) (j := 19) rfl rfl rfl hp (zp_o0 (by omega) (by omega) (by omega) (by omega)) ?_
    refine zp_load (pc := 13) hx hb (zd_X12_tell (13, .iload_n 1, 1, 0, []) (List.mem_of_getElem? (i := 7) rfl)) rfl (j := 1) rfl ?_
    refine zp_if (pc := 14) (tgt := 28) hx hb (zd_X12_tell (14, .ifCond .ge 14, 3, 0, []) (List.mem_of_getElem? (i := 8) rfl)) rfl (fun (hc175 : 0 ≤ p1) => ?_) (fun (hc175 : ¬ (0 ≤ p1)) => ?_)
    · refine zp_load (pc := 28) hx hb (zd_X12_tell (28, .iload_n 1, 1, 0, []) (List.mem_of_getElem? (i := 18) rfl)) rfl (j := 1) rfl ?_
      refine zp_iret (pc := 29) (n := p1) hx hb hE hQ hU5 rfl (by decide) (zd_X12_tell (29, .ireturn, 1, 0, []) (List.mem_of_getElem? (i := 19) rfl)) (j := 0) rfl (zp_o0 (by omega) (by omega) (by omega) (by omega)) ?_
      rw [hps]
      exact ⟨rfl, rfl⟩
    · refine zp_load (pc := 17) hx hb (zd_X12_tell (17, .aload_n 0, 1, 0, []) (List.mem_of_getElem? (i := 9) rfl)) rfl (j := 0) rfl ?_
      refine zp_getf (n := (b2 : Int)) (pc := 18) hx hb hE hw (zd_X12_tell (18, .getfield 7, 3, 0, []) (List.mem_of_getElem? (i := 10) rfl)) (j := 20) rfl rfl rfl hp ((zp_set_ne (Or.inr (by decide))).trans (hb2)) ?_
      refine zp_load (pc := 21) hx hb (zd_X12_tell (21, .iload_n 1, 1, 0, []) (List.mem_of_getElem? (i := 11) rfl)) rfl (j := 1) rfl ?_
      refine zp_neg (n := (-p1)) (pc := 22) hx hb (zd_X12_tell (22, .ineg, 1, 0, []) (List.mem_of_getElem? (i := 12) rfl)) (by omega) (zp_r0 (by omega) (by omega)) ?_
      refine zp_dup2 (pc := 23) hx hb (zd_X12_tell (23, .dup2, 1, 0, []) (List.mem_of_getElem? (i := 13) rfl)) (show (0 : Nat) ≠ 1 by decide) (show (2 : Nat) ≠ 1 by decide) ?_
      refine zp_iald (j := ((-p1)).toNat) (v := ((zp_n u.2.1) b2 (2000 + ((-p1)).toNat))) (pc := 24) hx hb hw (zd_X12_tell (24, .iaload, 1, 0, []) (List.mem_of_getElem? (i := 14) rfl)) (show zp_ia 1 58 = some (7, 0, 0, (-2147483648), 2147483647) from rfl) hq2 (by omega) (by omega) ((zp_set_ne (Or.inl (zp_pne hq2 hp (by decide))))) (fun hk176 => ?_)
      have hk176b := zp_int hk176
      refine zp_const (pc := 25) hx hb (zd_X12_tell (25, .iconst 1, 1, 0, []) (List.mem_of_getElem? (i := 15) rfl)) rfl rfl ?_
      refine zp_bin (o := 0) (la := -2147483648) (ha := 2147483647) (lb := -2147483648) (hb' := 2147483647) (pc := 26) hx hb (zd_X12_tell (26, .iadd, 1, 0, []) (List.mem_of_getElem? (i := 16) rfl)) rfl (fun h => absurd h (by decide)) (by omega) (by omega) (by omega) (by omega) (fun x177 r_x177 _ _ => ?_)
      have i_x177 := zp_rg0 r_x177
      refine zp_iast (j := ((-p1)).toNat) (pc := 27) hx hb hw heff (zd_X12_tell (27, .iastore, 1, 0, []) (List.mem_of_getElem? (i := 17) rfl)) (show zp_ia 1 58 = some (7, 0, 0, (-2147483648), 2147483647) from rfl) hq2 (by omega) (by omega) (zp_o0 (by omega) (by omega) (by omega) (by omega)) rfl ?_
      refine zp_load (pc := 28) hx hb (zd_X12_tell (28, .iload_n 1, 1, 0, []) (List.mem_of_getElem? (i := 18) rfl)) rfl (j := 1) rfl ?_
      refine zp_iret (pc := 29) (n := p1) hx hb hE hQ hU5 rfl (by decide) (zd_X12_tell (29, .ireturn, 1, 0, []) (List.mem_of_getElem? (i := 19) rfl)) (j := 0) rfl (zp_o0 (by omega) (by omega) (by omega) (by omega)) ?_
      rw [hps]
      exact ⟨rfl, rfl⟩
def zK_te13 : zk_K := (zt_mn 183, prog_14_method_7_code, 2, (Option.some Jvm.ClassFile.FieldType.int), 1, 12, [(2, 13, 0, 0), (0, 0, (-6), 2147483647)], [(some (0, 0, (-6), 2147483647), [])], [(13, 1, 0), (58, 1001, 0)], (0, 0, 0, 0))
def zψ_te13 : (Nat → Option Nat) → (Nat → Nat → Int) → List Int → (Nat → Option Nat) → (Nat → Nat → Int) → Int → Prop := fun P G ps P' G' rn => P' = P ∧ rn = ps.getD 1 0
theorem zX_te13 {l : Launch} {w : zk_W} (hW : zh_W w) : zk_metX l w zt_dv zt_TB zK_te13 (zp_A zp_tA) (zp_B zψ_te13) ∧ zk_cok w zt_TB zK_te13 := by
  refine zp_meth hW (pl := 1561) rfl (by decide +kernel) (fun p e R s m args below meth c Q u hx hb hE hQ hU5 heff hnL hok hφ => ?_)
  have hw := hW.1
  obtain ⟨p0, p1, hps, k0, k1⟩ := zp_ps2 hok
  obtain ⟨a, rfl, hp⟩ := zp_this k0
  have hrm : zk_Kr (zk_ev (zp_E zK_te13)) = zk_Kr zK_te13 := rfl
  rw [hps] at hφ ⊢
  have hi1 := zp_int k1
  show zp_J p l e R s m args below meth c Q w u [] 0 [(0, 2, (a : Int)), (1, 0, p1)] [] u.1 (zp_n u.2.1)
  refine zp_kn (k := 2) (a := a) hw (show zp_fd 13 2 = some (12, 2, 58, 0, 0) from rfl) rfl hp (fun hk2 => ?_)
  obtain ⟨b2, hb2, hq2⟩ := zp_this hk2
  refine zp_load (pc := 0) hx hb (zd_X12_tell (0, .aload_n 0, 1, 0, []) (List.mem_of_getElem? (i := 0) rfl)) rfl (j := 0) rfl ?_
  refine zp_load (pc := 1) hx hb (zd_X12_tell (1, .iload_n 1, 1, 0, []) (List.mem_of_getElem? (i := 1) rfl)) rfl (j := 1) rfl ?_
  refine zp_if (pc := 2) (tgt := 9) hx hb (zd_X12_tell (2, .ifCond .ge 7, 3, 0, []) (List.mem_of_getElem? (i := 2) rfl)) rfl (fun (hc178 : 0 ≤ p1) => ?_) (fun (hc178 : ¬ (0 ≤ p1)) => ?_)
  · refine zp_const (pc := 9) hx hb (zd_X12_tell (9, .iconst 0, 1, 0, []) (List.mem_of_getElem? (i := 5) rfl)) rfl rfl ?_
    refine zp_putf (pc := 10) hx hb hE hw heff (zd_X12_tell (10, .putfield 164, 3, 0, []) (List.mem_of_getElem? (i := 6) rfl)) (j := 19) rfl rfl rfl hp (zp_o0 (by decide) (by decide) (by decide) (by decide)) ?_
    refine zp_load (pc := 13) hx hb (zd_X12_tell (13, .iload_n 1, 1, 0, []) (List.mem_of_getElem? (i := 7) rfl)) rfl (j := 1) rfl ?_
    refine zp_if (pc := 14) (tgt := 28) hx hb (zd_X12_tell (14, .ifCond .ge 14, 3, 0, []) (List.mem_of_getElem? (i := 8) rfl)) rfl (fun (hc179 : 0 ≤ p1) => ?_) (fun (hc179 : ¬ (0 ≤ p1)) => ?_)
    · refine zp_load (pc := 28) hx hb (zd_X12_tell (28, .iload_n 1, 1, 0, []) (List.mem_of_getElem? (i := 18) rfl)) rfl (j := 1) rfl ?_
      refine zp_iret (pc := 29) (n := p1) hx hb hE hQ hU5 rfl (by decide) (zd_X12_tell (29, .ireturn, 1, 0, []) (List.mem_of_getElem? (i := 19) rfl)) (j := 0) rfl (zp_o0 (by omega) (by omega) (by omega) (by omega)) ?_
      rw [hps]
      exact ⟨rfl, rfl⟩
    · refine zp_load (pc := 17) hx hb (zd_X12_tell (17, .aload_n 0, 1, 0, []) (List.mem_of_getElem? (i := 9) rfl)) rfl (j := 0) rfl ?_
      refine zp_getf (n := (b2 : Int)) (pc := 18) hx hb hE hw (zd_X12_tell (18, .getfield 7, 3, 0, []) (List.mem_of_getElem? (i := 10) rfl)) (j := 20) rfl rfl rfl hp ((zp_set_ne (Or.inr (by decide))).trans (hb2)) ?_
      refine zp_load (pc := 21) hx hb (zd_X12_tell (21, .iload_n 1, 1, 0, []) (List.mem_of_getElem? (i := 11) rfl)) rfl (j := 1) rfl ?_
      refine zp_neg (n := (-p1)) (pc := 22) hx hb (zd_X12_tell (22, .ineg, 1, 0, []) (List.mem_of_getElem? (i := 12) rfl)) (by omega) (zp_r0 (by omega) (by omega)) ?_
      refine zp_dup2 (pc := 23) hx hb (zd_X12_tell (23, .dup2, 1, 0, []) (List.mem_of_getElem? (i := 13) rfl)) (show (0 : Nat) ≠ 1 by decide) (show (2 : Nat) ≠ 1 by decide) ?_
      refine zp_iald (j := ((-p1)).toNat) (v := ((zp_n u.2.1) b2 (2000 + ((-p1)).toNat))) (pc := 24) hx hb hw (zd_X12_tell (24, .iaload, 1, 0, []) (List.mem_of_getElem? (i := 14) rfl)) (show zp_ia 1 58 = some (7, 0, 0, (-2147483648), 2147483647) from rfl) hq2 (by omega) (by omega) ((zp_set_ne (Or.inl (zp_pne hq2 hp (by decide))))) (fun hk180 => ?_)
      have hk180b := zp_int hk180
      refine zp_const (pc := 25) hx hb (zd_X12_tell (25, .iconst 1, 1, 0, []) (List.mem_of_getElem? (i := 15) rfl)) rfl rfl ?_
      refine zp_bin (o := 0) (la := -2147483648) (ha := 2147483647) (lb := -2147483648) (hb' := 2147483647) (pc := 26) hx hb (zd_X12_tell (26, .iadd, 1, 0, []) (List.mem_of_getElem? (i := 16) rfl)) rfl (fun h => absurd h (by decide)) (by omega) (by omega) (by omega) (by omega) (fun x181 r_x181 _ _ => ?_)
      have i_x181 := zp_rg0 r_x181
      refine zp_iast (j := ((-p1)).toNat) (pc := 27) hx hb hw heff (zd_X12_tell (27, .iastore, 1, 0, []) (List.mem_of_getElem? (i := 17) rfl)) (show zp_ia 1 58 = some (7, 0, 0, (-2147483648), 2147483647) from rfl) hq2 (by omega) (by omega) (zp_o0 (by omega) (by omega) (by omega) (by omega)) rfl ?_
      refine zp_load (pc := 28) hx hb (zd_X12_tell (28, .iload_n 1, 1, 0, []) (List.mem_of_getElem? (i := 18) rfl)) rfl (j := 1) rfl ?_
      refine zp_iret (pc := 29) (n := p1) hx hb hE hQ hU5 rfl (by decide) (zd_X12_tell (29, .ireturn, 1, 0, []) (List.mem_of_getElem? (i := 19) rfl)) (j := 0) rfl (zp_o0 (by omega) (by omega) (by omega) (by omega)) ?_
      rw [hps]
      exact ⟨rfl, rfl⟩
  · refine zp_load (pc := 5) hx hb (zd_X12_tell (5, .iload_n 1, 1, 0, []) (List.mem_of_getElem? (i := 3) rfl)) rfl (j := 1) rfl ?_
    refine zp_goto (tgt := 10) (pc := 6) hx hb (zd_X12_tell (6, .goto 4, 3, 0, []) (List.mem_of_getElem? (i := 4) rfl)) rfl ?_
    refine zp_putf (pc := 10) hx hb hE hw heff (zd_X12_tell (10, .putfield 164, 3, 0, []) (List.mem_of_getElem? (i := 6) rfl)) (j := 19) rfl rfl rfl hp (zp_o0 (by omega) (by omega) (by omega) (by omega)) ?_
    refine zp_load (pc := 13) hx hb (zd_X12_tell (13, .iload_n 1, 1, 0, []) (List.mem_of_getElem? (i := 7) rfl)) rfl (j := 1) rfl ?_
    refine zp_if (pc := 14) (tgt := 28) hx hb (zd_X12_tell (14, .ifCond .ge 14, 3, 0, []) (List.mem_of_getElem? (i := 8) rfl)) rfl (fun (hc182 : 0 ≤ p1) => ?_) (fun (hc182 : ¬ (0 ≤ p1)) => ?_)
    · refine zp_load (pc := 28) hx hb (zd_X12_tell (28, .iload_n 1, 1, 0, []) (List.mem_of_getElem? (i := 18) rfl)) rfl (j := 1) rfl ?_
      refine zp_iret (pc := 29) (n := p1) hx hb hE hQ hU5 rfl (by decide) (zd_X12_tell (29, .ireturn, 1, 0, []) (List.mem_of_getElem? (i := 19) rfl)) (j := 0) rfl (zp_o0 (by omega) (by omega) (by omega) (by omega)) ?_
      rw [hps]
      exact ⟨rfl, rfl⟩
    · refine zp_load (pc := 17) hx hb (zd_X12_tell (17, .aload_n 0, 1, 0, []) (List.mem_of_getElem? (i := 9) rfl)) rfl (j := 0) rfl ?_
      refine zp_getf (n := (b2 : Int)) (pc := 18) hx hb hE hw (zd_X12_tell (18, .getfield 7, 3, 0, []) (List.mem_of_getElem? (i := 10) rfl)) (j := 20) rfl rfl rfl hp ((zp_set_ne (Or.inr (by decide))).trans (hb2)) ?_
      refine zp_load (pc := 21) hx hb (zd_X12_tell (21, .iload_n 1, 1, 0, []) (List.mem_of_getElem? (i := 11) rfl)) rfl (j := 1) rfl ?_
      refine zp_neg (n := (-p1)) (pc := 22) hx hb (zd_X12_tell (22, .ineg, 1, 0, []) (List.mem_of_getElem? (i := 12) rfl)) (by omega) (zp_r0 (by omega) (by omega)) ?_
      refine zp_dup2 (pc := 23) hx hb (zd_X12_tell (23, .dup2, 1, 0, []) (List.mem_of_getElem? (i := 13) rfl)) (show (0 : Nat) ≠ 1 by decide) (show (2 : Nat) ≠ 1 by decide) ?_
      refine zp_iald (j := ((-p1)).toNat) (v := ((zp_n u.2.1) b2 (2000 + ((-p1)).toNat))) (pc := 24) hx hb hw (zd_X12_tell (24, .iaload, 1, 0, []) (List.mem_of_getElem? (i := 14) rfl)) (show zp_ia 1 58 = some (7, 0, 0, (-2147483648), 2147483647) from rfl) hq2 (by omega) (by omega) ((zp_set_ne (Or.inl (zp_pne hq2 hp (by decide))))) (fun hk183 => ?_)
      have hk183b := zp_int hk183
      refine zp_const (pc := 25) hx hb (zd_X12_tell (25, .iconst 1, 1, 0, []) (List.mem_of_getElem? (i := 15) rfl)) rfl rfl ?_
      refine zp_bin (o := 0) (la := -2147483648) (ha := 2147483647) (lb := -2147483648) (hb' := 2147483647) (pc := 26) hx hb (zd_X12_tell (26, .iadd, 1, 0, []) (List.mem_of_getElem? (i := 16) rfl)) rfl (fun h => absurd h (by decide)) (by omega) (by omega) (by omega) (by omega) (fun x184 r_x184 _ _ => ?_)
      have i_x184 := zp_rg0 r_x184
      refine zp_iast (j := ((-p1)).toNat) (pc := 27) hx hb hw heff (zd_X12_tell (27, .iastore, 1, 0, []) (List.mem_of_getElem? (i := 17) rfl)) (show zp_ia 1 58 = some (7, 0, 0, (-2147483648), 2147483647) from rfl) hq2 (by omega) (by omega) (zp_o0 (by omega) (by omega) (by omega) (by omega)) rfl ?_
      refine zp_load (pc := 28) hx hb (zd_X12_tell (28, .iload_n 1, 1, 0, []) (List.mem_of_getElem? (i := 18) rfl)) rfl (j := 1) rfl ?_
      refine zp_iret (pc := 29) (n := p1) hx hb hE hQ hU5 rfl (by decide) (zd_X12_tell (29, .ireturn, 1, 0, []) (List.mem_of_getElem? (i := 19) rfl)) (j := 0) rfl (zp_o0 (by omega) (by omega) (by omega) (by omega)) ?_
      rw [hps]
      exact ⟨rfl, rfl⟩
