/-! part 59: the parser: must, number, openBracket, leaf, isCompared, partAt -/
/-- where the text is read: from, to, the sort of what stands there -/
def zs_tk (a : Nat) (G : Nat → Nat → Int) : Prop := 0 ≤ G a 14 ∧ G a 14 ≤ G a 15 ∧ G a 15 ≤ G a 13 ∧ 0 ≤ G a 16 ∧ G a 16 ≤ 3 ∧ (G a 16 ≠ 0 → G a 14 < G a 15)
def zs_mu (a : Nat) (is : Int) (G G' : Nat → Nat → Int) : Prop := (G' a 19 = 1 ∧ (G a 19 = 1 ∨ is = 0) ∧ G' a 14 = G a 14 ∧ G' a 15 = G a 15 ∧ G' a 16 = G a 16) ∨ (G' a 19 = 0 ∧ G a 19 = 0 ∧ is = 1 ∧ G a 15 ≤ G' a 14)
theorem zs_tk_congr {a : Nat} {G G' : Nat → Nat → Int} (h : zs_tk a G) (h3 : G' a 13 = G a 13) (h4 : G' a 14 = G a 14) (h5 : G' a 15 = G a 15) (h6 : G' a 16 = G a 16) : zs_tk a G' := by
  unfold zs_tk
  rw [h3, h4, h5, h6]
  exact h
def zK_mu : zk_K := (zt_mn 217, prog_14_method_41_code, 2, (Option.none : Option Jvm.ClassFile.FieldType), 1, 12, [(2, 92, 0, 0), (0, 0, 0, 1)], [(none, [])], [(92, 14, 0), (92, 15, 0), (92, 16, 0), (92, 17, 0), (92, 18, 0), (92, 19, 0)], (2, 70, 0, 0))
def zφ_mu : (Nat → Option Nat) → (Nat → Nat → Int) → List Int → Prop := fun _ G ps => zs_tk (zp_0 ps) G
def zψ_mu : (Nat → Option Nat) → (Nat → Nat → Int) → List Int → (Nat → Option Nat) → (Nat → Nat → Int) → Int → Prop := fun P G ps P' G' rn => P' = P ∧ zs_tk (zp_0 ps) G' ∧ zs_mu (zp_0 ps) (ps.getD 1 0) G G'
theorem zX_mu {l : Launch} {w : zk_W} (hW : zh_W w) : zk_metX l w zt_dv zt_TB zK_mu (zp_A zφ_mu) (zp_B zψ_mu) ∧ zk_cok w zt_TB zK_mu := by
  refine zp_meth hW (pl := 1708) rfl (by decide +kernel) (fun p e R s m args below meth c Q u hx hb hE hQ hU5 heff hnL hok hφ => ?_)
  have hw := hW.1
  obtain ⟨p0, p1, hps, k0, k1⟩ := zp_ps2 hok
  obtain ⟨a, rfl, hp⟩ := zp_this k0
  have hrm : zk_Kr (zk_ev (zp_E zK_mu)) = zk_Kr zK_mu := rfl
  rw [hps] at hφ ⊢
  have hi1 := zp_int k1
  have hφ : zs_tk a (zp_n u.2.1) := hφ
  have hφ2 := hφ
  obtain ⟨t1, t2, t3, t4, t5, t6⟩ := hφ2
  show zp_J p l e R s m args below meth c Q w u [] 0 [(0, 2, (a : Int)), (1, 0, p1)] [] u.1 (zp_n u.2.1)
  refine zp_kn (k := 13) (a := a) hw (show zp_fd 92 13 = some (12, 0, 0, 0, 400) from rfl) rfl hp (fun hk13 => ?_)
  have hxb := zp_int hk13
  refine zp_kn (k := 15) (a := a) hw (show zp_fd 92 15 = some (12, 0, 0, 0, 400) from rfl) rfl hp (fun hk15 => ?_)
  have hxb := zp_int hk15
  refine zp_kn (k := 19) (a := a) hw (show zp_fd 92 19 = some (12, 0, 0, 0, 1) from rfl) rfl hp (fun hk19 => ?_)
  have hxb := zp_int hk19
  refine zp_load (pc := 0) hx hb (zd_X12_must (0, .aload_n 0, 1, 0, []) (List.mem_of_getElem? (i := 0) rfl)) rfl (j := 0) rfl ?_
  refine zp_getf (n := ((zp_n u.2.1) a 19)) (pc := 1) hx hb hE hw (zd_X12_must (1, .getfield 240, 3, 0, []) (List.mem_of_getElem? (i := 1) rfl)) (j := 37) rfl rfl rfl hp rfl ?_
  refine zp_if (pc := 4) (tgt := 24) hx hb (zd_X12_must (4, .ifCond .ne 20, 3, 0, []) (List.mem_of_getElem? (i := 2) rfl)) rfl (fun (hc21 : ¬ ((zp_n u.2.1) a 19) = 0) => ?_) (fun (hc21 : ¬ (¬ ((zp_n u.2.1) a 19) = 0)) => ?_)
  · refine zp_load (pc := 24) hx hb (zd_X12_must (24, .aload_n 0, 1, 0, []) (List.mem_of_getElem? (i := 12) rfl)) rfl (j := 0) rfl ?_
    refine zp_getf (n := ((zp_n u.2.1) a 19)) (pc := 25) hx hb hE hw (zd_X12_must (25, .getfield 240, 3, 0, []) (List.mem_of_getElem? (i := 13) rfl)) (j := 37) rfl rfl rfl hp rfl ?_
    refine zp_if (pc := 28) (tgt := 35) hx hb (zd_X12_must (28, .ifCond .ne 7, 3, 0, []) (List.mem_of_getElem? (i := 14) rfl)) rfl (fun (hc22 : ¬ ((zp_n u.2.1) a 19) = 0) => ?_) (fun (hc22 : ¬ (¬ ((zp_n u.2.1) a 19) = 0)) => ?_)
    · refine zp_vret (pc := 35) hx hb hE hQ hU5 rfl (by decide) (zd_X12_must (35, .return_, 1, 0, []) (List.mem_of_getElem? (i := 17) rfl)) (j := 0) rfl ?_
      rw [hps]
      refine ⟨rfl, ?_⟩
      show zs_tk a (zp_n u.2.1) ∧ zs_mu a p1 (zp_n u.2.1) (zp_n u.2.1)
      unfold zs_tk zs_mu
      omega
    · refine zp_load (pc := 31) hx hb (zd_X12_must (31, .aload_n 0, 1, 0, []) (List.mem_of_getElem? (i := 15) rfl)) rfl (j := 0) rfl ?_
      have hq15 : (zp_n u.2.1) a 15 = ((zp_n u.2.1) a 15) := rfl
      have hq13 : (zp_n u.2.1) a 13 = ((zp_n u.2.1) a 13) := rfl
      refine zp_call (pc := 32) (how := 0) (idx := 244) (mi := 212) (S := []) hx hb hE hw heff hrm (zX_nx hW) rfl (j := 14) rfl rfl (by decide +kernel) (zd_X12_must (32, .invokevirtual 244, 3, 0, []) (List.mem_of_getElem? (i := 16) rfl)) [(a : Int)] rfl ⟨zp_o2 hp, trivial⟩ (Nat.le_of_ble_eq_true rfl) (show 0 ≤ (zp_n u.2.1) a 15 ∧ (zp_n u.2.1) a 15 ≤ (zp_n u.2.1) a 13 by omega) (fun al hal rnn Pn Gn hextn hfrn hokn hcsn hpsin => ?_)
      obtain rfl := List.mem_singleton.mp hal
      obtain ⟨rfl, hxn⟩ := hpsin
      have hxn : (zp_n u.2.1) a 15 ≤ Gn a 14 ∧ Gn a 14 ≤ Gn a 15 ∧ Gn a 15 ≤ (zp_n u.2.1) a 13 ∧ 0 ≤ Gn a 16 ∧ Gn a 16 ≤ 3 ∧ (Gn a 16 ≠ 0 → Gn a 14 < Gn a 15) := hxn
      have n13 : Gn a 13 = ((zp_n u.2.1) a 13) := zp_nf hfrn hp rfl
      have n19 : Gn a 19 = ((zp_n u.2.1) a 19) := zp_nf hfrn hp rfl
      refine zp_vret (pc := 35) hx hb hE hQ hU5 rfl (by decide) (zd_X12_must (35, .return_, 1, 0, []) (List.mem_of_getElem? (i := 17) rfl)) (j := 0) rfl ?_
      rw [hps]
      refine ⟨rfl, ?_⟩
      show zs_tk a Gn ∧ zs_mu a p1 (zp_n u.2.1) Gn
      unfold zs_tk zs_mu
      omega
  · refine zp_load (pc := 7) hx hb (zd_X12_must (7, .iload_n 1, 1, 0, []) (List.mem_of_getElem? (i := 3) rfl)) rfl (j := 1) rfl ?_
    refine zp_if (pc := 8) (tgt := 24) hx hb (zd_X12_must (8, .ifCond .ne 16, 3, 0, []) (List.mem_of_getElem? (i := 4) rfl)) rfl (fun (hc23 : ¬ p1 = 0) => ?_) (fun (hc23 : ¬ (¬ p1 = 0)) => ?_)
    · refine zp_load (pc := 24) hx hb (zd_X12_must (24, .aload_n 0, 1, 0, []) (List.mem_of_getElem? (i := 12) rfl)) rfl (j := 0) rfl ?_
      refine zp_getf (n := ((zp_n u.2.1) a 19)) (pc := 25) hx hb hE hw (zd_X12_must (25, .getfield 240, 3, 0, []) (List.mem_of_getElem? (i := 13) rfl)) (j := 37) rfl rfl rfl hp rfl ?_
      refine zp_if (pc := 28) (tgt := 35) hx hb (zd_X12_must (28, .ifCond .ne 7, 3, 0, []) (List.mem_of_getElem? (i := 14) rfl)) rfl (fun (hc24 : ¬ ((zp_n u.2.1) a 19) = 0) => ?_) (fun (hc24 : ¬ (¬ ((zp_n u.2.1) a 19) = 0)) => ?_)
      · refine zp_vret (pc := 35) hx hb hE hQ hU5 rfl (by decide) (zd_X12_must (35, .return_, 1, 0, []) (List.mem_of_getElem? (i := 17) rfl)) (j := 0) rfl ?_
        rw [hps]
        refine ⟨rfl, ?_⟩
        show zs_tk a (zp_n u.2.1) ∧ zs_mu a p1 (zp_n u.2.1) (zp_n u.2.1)
        unfold zs_tk zs_mu
        omega
      · refine zp_load (pc := 31) hx hb (zd_X12_must (31, .aload_n 0, 1, 0, []) (List.mem_of_getElem? (i := 15) rfl)) rfl (j := 0) rfl ?_
        have hq15 : (zp_n u.2.1) a 15 = ((zp_n u.2.1) a 15) := rfl
        have hq13 : (zp_n u.2.1) a 13 = ((zp_n u.2.1) a 13) := rfl
        refine zp_call (pc := 32) (how := 0) (idx := 244) (mi := 212) (S := []) hx hb hE hw heff hrm (zX_nx hW) rfl (j := 14) rfl rfl (by decide +kernel) (zd_X12_must (32, .invokevirtual 244, 3, 0, []) (List.mem_of_getElem? (i := 16) rfl)) [(a : Int)] rfl ⟨zp_o2 hp, trivial⟩ (Nat.le_of_ble_eq_true rfl) (show 0 ≤ (zp_n u.2.1) a 15 ∧ (zp_n u.2.1) a 15 ≤ (zp_n u.2.1) a 13 by omega) (fun al hal rnn Pn Gn hextn hfrn hokn hcsn hpsin => ?_)
        obtain rfl := List.mem_singleton.mp hal
        obtain ⟨rfl, hxn⟩ := hpsin
        have hxn : (zp_n u.2.1) a 15 ≤ Gn a 14 ∧ Gn a 14 ≤ Gn a 15 ∧ Gn a 15 ≤ (zp_n u.2.1) a 13 ∧ 0 ≤ Gn a 16 ∧ Gn a 16 ≤ 3 ∧ (Gn a 16 ≠ 0 → Gn a 14 < Gn a 15) := hxn
        have n13 : Gn a 13 = ((zp_n u.2.1) a 13) := zp_nf hfrn hp rfl
        have n19 : Gn a 19 = ((zp_n u.2.1) a 19) := zp_nf hfrn hp rfl
        refine zp_vret (pc := 35) hx hb hE hQ hU5 rfl (by decide) (zd_X12_must (35, .return_, 1, 0, []) (List.mem_of_getElem? (i := 17) rfl)) (j := 0) rfl ?_
        rw [hps]
        refine ⟨rfl, ?_⟩
        show zs_tk a Gn ∧ zs_mu a p1 (zp_n u.2.1) Gn
        unfold zs_tk zs_mu
        omega
    · refine zp_load (pc := 11) hx hb (zd_X12_must (11, .aload_n 0, 1, 0, []) (List.mem_of_getElem? (i := 5) rfl)) rfl (j := 0) rfl ?_
      refine zp_const (pc := 12) hx hb (zd_X12_must (12, .iconst 1, 1, 0, []) (List.mem_of_getElem? (i := 6) rfl)) rfl rfl ?_
      refine zp_putf (pc := 13) hx hb hE hw heff (zd_X12_must (13, .putfield 240, 3, 0, []) (List.mem_of_getElem? (i := 7) rfl)) (j := 37) rfl rfl rfl hp (zp_o0 (by decide) (by decide) (by decide) (by decide)) ?_
      refine zp_load (pc := 16) hx hb (zd_X12_must (16, .aload_n 0, 1, 0, []) (List.mem_of_getElem? (i := 8) rfl)) rfl (j := 0) rfl ?_
      refine zp_load (pc := 17) hx hb (zd_X12_must (17, .aload_n 0, 1, 0, []) (List.mem_of_getElem? (i := 9) rfl)) rfl (j := 0) rfl ?_
      refine zp_getf (n := ((zp_n u.2.1) a 14)) (pc := 18) hx hb hE hw (zd_X12_must (18, .getfield 247, 3, 0, []) (List.mem_of_getElem? (i := 10) rfl)) (j := 32) rfl rfl rfl hp ((zp_set_ne (Or.inr (by decide)))) ?_
      refine zp_putf (pc := 21) hx hb hE hw heff (zd_X12_must (21, .putfield 38, 3, 0, []) (List.mem_of_getElem? (i := 11) rfl)) (j := 36) rfl rfl rfl hp (zp_o0 (by omega) (by omega) (by omega) (by omega)) ?_
      refine zp_load (pc := 24) hx hb (zd_X12_must (24, .aload_n 0, 1, 0, []) (List.mem_of_getElem? (i := 12) rfl)) rfl (j := 0) rfl ?_
      refine zp_getf (n := 1) (pc := 25) hx hb hE hw (zd_X12_must (25, .getfield 240, 3, 0, []) (List.mem_of_getElem? (i := 13) rfl)) (j := 37) rfl rfl rfl hp ((zp_set_ne (Or.inr (by decide))).trans (zp_set_self)) ?_
      refine zp_if (pc := 28) (tgt := 35) hx hb (zd_X12_must (28, .ifCond .ne 7, 3, 0, []) (List.mem_of_getElem? (i := 14) rfl)) rfl (fun (hc25 : ¬ 1 = 0) => ?_) (fun (hc25 : ¬ (¬ 1 = 0)) => ?_)
      · refine zp_vret (pc := 35) hx hb hE hQ hU5 rfl (by decide) (zd_X12_must (35, .return_, 1, 0, []) (List.mem_of_getElem? (i := 17) rfl)) (j := 0) rfl ?_
        rw [hps]
        refine ⟨rfl, ?_⟩
        show zs_tk a (zp_set (zp_set (zp_n u.2.1) a 19 1) a 18 ((zp_n u.2.1) a 14)) ∧ zs_mu a p1 (zp_n u.2.1) (zp_set (zp_set (zp_n u.2.1) a 19 1) a 18 ((zp_n u.2.1) a 14))
        have y13 : (zp_set (zp_set (zp_n u.2.1) a 19 1) a 18 ((zp_n u.2.1) a 14)) a 13 = ((zp_n u.2.1) a 13) := ((zp_set_ne (Or.inr (by decide))).trans ((zp_set_ne (Or.inr (by decide)))))
        have y14 : (zp_set (zp_set (zp_n u.2.1) a 19 1) a 18 ((zp_n u.2.1) a 14)) a 14 = ((zp_n u.2.1) a 14) := ((zp_set_ne (Or.inr (by decide))).trans ((zp_set_ne (Or.inr (by decide)))))
        have y15 : (zp_set (zp_set (zp_n u.2.1) a 19 1) a 18 ((zp_n u.2.1) a 14)) a 15 = ((zp_n u.2.1) a 15) := ((zp_set_ne (Or.inr (by decide))).trans ((zp_set_ne (Or.inr (by decide)))))
        have y16 : (zp_set (zp_set (zp_n u.2.1) a 19 1) a 18 ((zp_n u.2.1) a 14)) a 16 = ((zp_n u.2.1) a 16) := ((zp_set_ne (Or.inr (by decide))).trans ((zp_set_ne (Or.inr (by decide)))))
        have y19 : (zp_set (zp_set (zp_n u.2.1) a 19 1) a 18 ((zp_n u.2.1) a 14)) a 19 = 1 := ((zp_set_ne (Or.inr (by decide))).trans (zp_set_self))
        unfold zs_tk zs_mu
        omega
      · refine zp_load (pc := 31) hx hb (zd_X12_must (31, .aload_n 0, 1, 0, []) (List.mem_of_getElem? (i := 15) rfl)) rfl (j := 0) rfl ?_
        have hq15 : (zp_set (zp_set (zp_n u.2.1) a 19 1) a 18 ((zp_n u.2.1) a 14)) a 15 = ((zp_n u.2.1) a 15) := ((zp_set_ne (Or.inr (by decide))).trans ((zp_set_ne (Or.inr (by decide)))))
        have hq13 : (zp_set (zp_set (zp_n u.2.1) a 19 1) a 18 ((zp_n u.2.1) a 14)) a 13 = ((zp_n u.2.1) a 13) := ((zp_set_ne (Or.inr (by decide))).trans ((zp_set_ne (Or.inr (by decide)))))
        refine zp_call (pc := 32) (how := 0) (idx := 244) (mi := 212) (S := []) hx hb hE hw heff hrm (zX_nx hW) rfl (j := 14) rfl rfl (by decide +kernel) (zd_X12_must (32, .invokevirtual 244, 3, 0, []) (List.mem_of_getElem? (i := 16) rfl)) [(a : Int)] rfl ⟨zp_o2 hp, trivial⟩ (Nat.le_of_ble_eq_true rfl) (show 0 ≤ (zp_set (zp_set (zp_n u.2.1) a 19 1) a 18 ((zp_n u.2.1) a 14)) a 15 ∧ (zp_set (zp_set (zp_n u.2.1) a 19 1) a 18 ((zp_n u.2.1) a 14)) a 15 ≤ (zp_set (zp_set (zp_n u.2.1) a 19 1) a 18 ((zp_n u.2.1) a 14)) a 13 by omega) (fun al hal rnn Pn Gn hextn hfrn hokn hcsn hpsin => ?_)
        obtain rfl := List.mem_singleton.mp hal
        obtain ⟨rfl, hxn⟩ := hpsin
        have hxn : (zp_set (zp_set (zp_n u.2.1) a 19 1) a 18 ((zp_n u.2.1) a 14)) a 15 ≤ Gn a 14 ∧ Gn a 14 ≤ Gn a 15 ∧ Gn a 15 ≤ (zp_set (zp_set (zp_n u.2.1) a 19 1) a 18 ((zp_n u.2.1) a 14)) a 13 ∧ 0 ≤ Gn a 16 ∧ Gn a 16 ≤ 3 ∧ (Gn a 16 ≠ 0 → Gn a 14 < Gn a 15) := hxn
        have n13 : Gn a 13 = ((zp_n u.2.1) a 13) := (zp_nf hfrn hp rfl).trans (((zp_set_ne (Or.inr (by decide))).trans ((zp_set_ne (Or.inr (by decide))))))
        have n19 : Gn a 19 = 1 := (zp_nf hfrn hp rfl).trans (((zp_set_ne (Or.inr (by decide))).trans (zp_set_self)))
        refine zp_vret (pc := 35) hx hb hE hQ hU5 rfl (by decide) (zd_X12_must (35, .return_, 1, 0, []) (List.mem_of_getElem? (i := 17) rfl)) (j := 0) rfl ?_
        rw [hps]
        refine ⟨rfl, ?_⟩
        show zs_tk a Gn ∧ zs_mu a p1 (zp_n u.2.1) Gn
        unfold zs_tk zs_mu
        omega
def zK_nu : zk_K := (zt_mn 228, prog_14_method_42_code, 6, (Option.some Jvm.ClassFile.FieldType.int), 1, 12, [(2, 92, 0, 0), (1, 0, (-9223372036854775808), 9223372036854775807), (1, 0, (-9223372036854775808), 9223372036854775807)], [(some (0, 0, (-2147483648), 2147483647), [])], [(92, 14, 0), (92, 15, 0), (92, 16, 0), (92, 17, 0), (92, 18, 0), (92, 19, 0)], (3, 130, 0, 0))
def zφ_nu : (Nat → Option Nat) → (Nat → Nat → Int) → List Int → Prop := fun _ G ps => zs_tk (zp_0 ps) G
def zψ_nu : (Nat → Option Nat) → (Nat → Nat → Int) → List Int → (Nat → Option Nat) → (Nat → Nat → Int) → Int → Prop := fun P G ps P' G' rn => P' = P ∧ zs_tk (zp_0 ps) G' ∧ ∃ is : Int, (is = 1 → G (zp_0 ps) 16 = 2) ∧ zs_mu (zp_0 ps) is G G'
theorem zX_nu {l : Launch} {w : zk_W} (hW : zh_W w) : zk_metX l w zt_dv zt_TB zK_nu (zp_A zφ_nu) (zp_B zψ_nu) ∧ zk_cok w zt_TB zK_nu := by
  refine zp_meth hW (pl := 1754) rfl (by decide +kernel) (fun p e R s m args below meth c Q u hx hb hE hQ hU5 heff hnL hok hφ => ?_)
  have hw := hW.1
  obtain ⟨p0, p1, p2, hps, k0, k1, k2⟩ := zp_ps3 hok
  obtain ⟨a, rfl, hp⟩ := zp_this k0
  have hrm : zk_Kr (zk_ev (zp_E zK_nu)) = zk_Kr zK_nu := rfl
  rw [hps] at hφ ⊢
  have hφ : zs_tk a (zp_n u.2.1) := hφ
  show zp_J p l e R s m args below meth c Q w u [] 0 [(0, 2, (a : Int)), (1, 1, p1), (3, 1, p2)] [] u.1 (zp_n u.2.1)
  refine zp_kn (k := 17) (a := a) hw (show zp_fd 92 17 = some (12, 1, 0, (-9223372036854775808), 9223372036854775807) from rfl) rfl hp (fun hk17 => ?_)
  refine zp_load (pc := 0) hx hb (zd_X12_number (0, .aload_n 0, 1, 0, []) (List.mem_of_getElem? (i := 0) rfl)) rfl (j := 0) rfl ?_
  refine zp_getf (n := ((zp_n u.2.1) a 17)) (pc := 1) hx hb hE hw (zd_X12_number (1, .getfield 250, 3, 0, []) (List.mem_of_getElem? (i := 1) rfl)) (j := 35) rfl rfl rfl hp rfl ?_
  refine zp_l2i (pc := 4) hx hb (zd_X12_number (4, .l2i, 1, 0, []) (List.mem_of_getElem? (i := 2) rfl)) (fun x26 r_x26 e_x26 => ?_)
  have i_x26 := zp_rg0 r_x26
  refine zp_store (L' := [(5, 0, x26), (0, 2, (a : Int)), (1, 1, p1), (3, 1, p2)]) (pc := 5) hx hb hnL (zd_X12_number (5, .istore 5, 2, 0, []) (List.mem_of_getElem? (i := 3) rfl)) rfl rfl rfl ?_
  refine zp_load (pc := 7) hx hb (zd_X12_number (7, .aload_n 0, 1, 0, []) (List.mem_of_getElem? (i := 4) rfl)) rfl (j := 1) rfl ?_
  refine zp_load (pc := 8) hx hb (zd_X12_number (8, .aload_n 0, 1, 0, []) (List.mem_of_getElem? (i := 5) rfl)) rfl (j := 1) rfl ?_
  refine zp_getf (n := ((zp_n u.2.1) a 16)) (pc := 9) hx hb hE hw (zd_X12_number (9, .getfield 260, 3, 0, []) (List.mem_of_getElem? (i := 6) rfl)) (j := 34) rfl rfl rfl hp rfl ?_
  refine zp_const (pc := 12) hx hb (zd_X12_number (12, .iconst 2, 1, 0, []) (List.mem_of_getElem? (i := 7) rfl)) rfl rfl ?_
  refine zp_icmp (pc := 13) (tgt := 32) hx hb (zd_X12_number (13, .if_icmp .ne 19, 3, 0, []) (List.mem_of_getElem? (i := 8) rfl)) rfl (fun (hc27 : ¬ ((zp_n u.2.1) a 16) = 2) => ?_) (fun (hc27 : ¬ (¬ ((zp_n u.2.1) a 16) = 2)) => ?_)
  · refine zp_const (pc := 32) hx hb (zd_X12_number (32, .iconst 0, 1, 0, []) (List.mem_of_getElem? (i := 17) rfl)) rfl rfl ?_
    refine zp_call (pc := 33) (how := 0) (idx := 275) (mi := 217) (S := []) hx hb hE hw heff hrm (zX_mu hW) rfl (j := 19) rfl rfl (by decide +kernel) (zd_X12_number (33, .invokevirtual 275, 3, 0, []) (List.mem_of_getElem? (i := 18) rfl)) [(a : Int), 0] rfl ⟨zp_o2 hp, zp_o0 (by decide) (by decide) (by decide) (by decide), trivial⟩ (Nat.le_of_ble_eq_true rfl) hφ (fun al hal rnm Pm Gm hextm hfrm hokm hcsm hpsim => ?_)
    obtain rfl := List.mem_singleton.mp hal
    obtain ⟨rfl, htm, hmm⟩ := hpsim
    refine zp_load (pc := 36) hx hb (zd_X12_number (36, .iload 5, 2, 0, []) (List.mem_of_getElem? (i := 19) rfl)) rfl (j := 0) rfl ?_
    refine zp_iret (pc := 38) (n := x26) hx hb hE hQ hU5 rfl (by decide) (zd_X12_number (38, .ireturn, 1, 0, []) (List.mem_of_getElem? (i := 20) rfl)) (j := 0) rfl (zp_o0 (by omega) (by omega) (by omega) (by omega)) ?_
    rw [hps]
    refine ⟨rfl, htm, 0, ?_, hmm⟩
    intro hz
    show zp_n u.2.1 a 16 = 2
    omega
  · refine zp_load (pc := 16) hx hb (zd_X12_number (16, .aload_n 0, 1, 0, []) (List.mem_of_getElem? (i := 9) rfl)) rfl (j := 1) rfl ?_
    refine zp_getf (n := ((zp_n u.2.1) a 17)) (pc := 17) hx hb hE hw (zd_X12_number (17, .getfield 250, 3, 0, []) (List.mem_of_getElem? (i := 10) rfl)) (j := 35) rfl rfl rfl hp rfl ?_
    refine zp_load (pc := 20) hx hb (zd_X12_number (20, .lload_n 1, 1, 0, []) (List.mem_of_getElem? (i := 11) rfl)) rfl (j := 2) rfl ?_
    refine zp_load (pc := 21) hx hb (zd_X12_number (21, .lload_n 3, 1, 0, []) (List.mem_of_getElem? (i := 12) rfl)) rfl (j := 3) rfl ?_
    refine zp_call (pc := 22) (how := 1) (idx := 181) (mi := 186) (S := [(2, (a : Int))]) hx hb hE hw heff hrm (zX_in hW) rfl (j := 2) rfl rfl (by decide +kernel) (zd_X12_number (22, .invokestatic 181, 3, 0, []) (List.mem_of_getElem? (i := 13) rfl)) [((zp_n u.2.1) a 17), p1, p2] rfl ⟨zp_o1 (by first | assumption | exact hk17.2.2), k1, k2, trivial⟩ (Nat.le_of_ble_eq_true rfl) trivial (fun al hal rni Pi Gi hexti hfri hoki hcsi hpsii => ?_)
    obtain rfl := List.mem_singleton.mp hal
    have hri := zp_int (hoki _ rfl).1
    obtain ⟨hPei, hGei, hti⟩ := hpsii
    rw [hPei, hGei]
    refine zp_if (pc := 25) (tgt := 32) hx hb (zd_X12_number (25, .ifCond .eq 7, 3, 0, []) (List.mem_of_getElem? (i := 14) rfl)) rfl (fun (hc28 : rni = 0) => ?_) (fun (hc28 : ¬ (rni = 0)) => ?_)
    · refine zp_const (pc := 32) hx hb (zd_X12_number (32, .iconst 0, 1, 0, []) (List.mem_of_getElem? (i := 17) rfl)) rfl rfl ?_
      refine zp_call (pc := 33) (how := 0) (idx := 275) (mi := 217) (S := []) hx hb hE hw heff hrm (zX_mu hW) rfl (j := 19) rfl rfl (by decide +kernel) (zd_X12_number (33, .invokevirtual 275, 3, 0, []) (List.mem_of_getElem? (i := 18) rfl)) [(a : Int), 0] rfl ⟨zp_o2 hp, zp_o0 (by decide) (by decide) (by decide) (by decide), trivial⟩ (Nat.le_of_ble_eq_true rfl) hφ (fun al hal rnm Pm Gm hextm hfrm hokm hcsm hpsim => ?_)
      obtain rfl := List.mem_singleton.mp hal
      obtain ⟨rfl, htm, hmm⟩ := hpsim
      refine zp_load (pc := 36) hx hb (zd_X12_number (36, .iload 5, 2, 0, []) (List.mem_of_getElem? (i := 19) rfl)) rfl (j := 0) rfl ?_
      refine zp_iret (pc := 38) (n := x26) hx hb hE hQ hU5 rfl (by decide) (zd_X12_number (38, .ireturn, 1, 0, []) (List.mem_of_getElem? (i := 20) rfl)) (j := 0) rfl (zp_o0 (by omega) (by omega) (by omega) (by omega)) ?_
      rw [hps]
      refine ⟨rfl, htm, 0, ?_, hmm⟩
      intro hz
      show zp_n u.2.1 a 16 = 2
      omega
    · refine zp_const (pc := 28) hx hb (zd_X12_number (28, .iconst 1, 1, 0, []) (List.mem_of_getElem? (i := 15) rfl)) rfl rfl ?_
      refine zp_goto (tgt := 33) (pc := 29) hx hb (zd_X12_number (29, .goto 4, 3, 0, []) (List.mem_of_getElem? (i := 16) rfl)) rfl ?_
      refine zp_call (pc := 33) (how := 0) (idx := 275) (mi := 217) (S := []) hx hb hE hw heff hrm (zX_mu hW) rfl (j := 19) rfl rfl (by decide +kernel) (zd_X12_number (33, .invokevirtual 275, 3, 0, []) (List.mem_of_getElem? (i := 18) rfl)) [(a : Int), 1] rfl ⟨zp_o2 hp, zp_o0 (by decide) (by decide) (by decide) (by decide), trivial⟩ (Nat.le_of_ble_eq_true rfl) hφ (fun al hal rnm Pm Gm hextm hfrm hokm hcsm hpsim => ?_)
      obtain rfl := List.mem_singleton.mp hal
      obtain ⟨rfl, htm, hmm⟩ := hpsim
      refine zp_load (pc := 36) hx hb (zd_X12_number (36, .iload 5, 2, 0, []) (List.mem_of_getElem? (i := 19) rfl)) rfl (j := 0) rfl ?_
      refine zp_iret (pc := 38) (n := x26) hx hb hE hQ hU5 rfl (by decide) (zd_X12_number (38, .ireturn, 1, 0, []) (List.mem_of_getElem? (i := 20) rfl)) (j := 0) rfl (zp_o0 (by omega) (by omega) (by omega) (by omega)) ?_
      rw [hps]
      refine ⟨rfl, htm, 1, ?_, hmm⟩
      intro hz
      show zp_n u.2.1 a 16 = 2
      omega
def zK_ob : zk_K := (zt_mn 222, prog_14_method_52_code, 2, (Option.none : Option Jvm.ClassFile.FieldType), 1, 12, [(2, 92, 0, 0), (0, 0, (-2147483648), 2147483647)], [(none, [])], [(92, 14, 0), (92, 15, 0), (92, 16, 0), (92, 17, 0), (92, 18, 0), (92, 19, 0), (92, 30, 0), (92, 29, 0), (70, 1001, 0), (71, 1001, 0)], (3, 130, 0, 0))
def zφ_ob : (Nat → Option Nat) → (Nat → Nat → Int) → List Int → Prop := fun _ G ps => zs_tk (zp_0 ps) G ∧ G (zp_0 ps) 16 ≠ 0 ∧ G (zp_0 ps) 29 ≤ G (zp_0 ps) 14
def zψ_ob : (Nat → Option Nat) → (Nat → Nat → Int) → List Int → (Nat → Option Nat) → (Nat → Nat → Int) → Int → Prop := fun P G ps P' G' rn => P' = P ∧ zs_tk (zp_0 ps) G' ∧ ((G' (zp_0 ps) 19 = 1 ∧ G' (zp_0 ps) 14 = G (zp_0 ps) 14 ∧ G' (zp_0 ps) 29 = G (zp_0 ps) 29 ∧ (∀ j : Nat, zv G' (zp_0 ps) 27 j = zv G (zp_0 ps) 27 j) ∧ ∀ j : Nat, zv G' (zp_0 ps) 28 j = zv G (zp_0 ps) 28 j) ∨ (G' (zp_0 ps) 19 = 0 ∧ G (zp_0 ps) 19 = 0 ∧ G (zp_0 ps) 15 ≤ G' (zp_0 ps) 14 ∧ G' (zp_0 ps) 29 = G (zp_0 ps) 29 + 1 ∧ (∀ j : Nat, zv G' (zp_0 ps) 27 j = if j = (G (zp_0 ps) 29).toNat then ps.getD 1 0 else zv G (zp_0 ps) 27 j) ∧ ∀ j : Nat, zv G' (zp_0 ps) 28 j = if j = (G (zp_0 ps) 29).toNat then 0 else zv G (zp_0 ps) 28 j))
theorem zX_ob {l : Launch} {w : zk_W} (hW : zh_W w) : zk_metX l w zt_dv zt_TB zK_ob (zp_A zφ_ob) (zp_B zψ_ob) ∧ zk_cok w zt_TB zK_ob := by
  refine zp_meth hW (pl := 1729) rfl (by decide +kernel) (fun p e R s m args below meth c Q u hx hb hE hQ hU5 heff hnL hok hφ => ?_)
  have hw := hW.1
  obtain ⟨p0, p1, hps, k0, k1⟩ := zp_ps2 hok
  obtain ⟨a, rfl, hp⟩ := zp_this k0
  have hrm : zk_Kr (zk_ev (zp_E zK_ob)) = zk_Kr zK_ob := rfl
  rw [hps] at hφ ⊢
  have hi1 := zp_int k1
  have hφ : zs_tk a (zp_n u.2.1) ∧ zp_n u.2.1 a 16 ≠ 0 ∧ zp_n u.2.1 a 29 ≤ zp_n u.2.1 a 14 := hφ
  obtain ⟨htk, hs0, hpf⟩ := hφ
  show zp_J p l e R s m args below meth c Q w u [] 0 [(0, 2, (a : Int)), (1, 0, p1)] [] u.1 (zp_n u.2.1)
  refine zp_kn (k := 27) (a := a) hw (show zp_fd 92 27 = some (12, 2, 70, 0, 0) from rfl) rfl hp (fun hk27 => ?_)
  obtain ⟨b27, hb27, hq27⟩ := zp_this hk27
  refine zp_kn (k := 28) (a := a) hw (show zp_fd 92 28 = some (12, 2, 71, 0, 0) from rfl) rfl hp (fun hk28 => ?_)
  obtain ⟨b28, hb28, hq28⟩ := zp_this hk28
  refine zp_kn (k := 13) (a := a) hw (show zp_fd 92 13 = some (12, 0, 0, 0, 400) from rfl) rfl hp (fun hk13 => ?_)
  have hxb := zp_int hk13
  refine zp_kn (k := 30) (a := a) hw (show zp_fd 92 30 = some (12, 0, 0, (-2147483648), 2147483647) from rfl) rfl hp (fun hk30 => ?_)
  have hxb := zp_int hk30
  refine zp_kn (k := 29) (a := a) hw (show zp_fd 92 29 = some (12, 0, 0, 0, 400) from rfl) rfl hp (fun hk29 => ?_)
  obtain ⟨pd, hpd⟩ := zp_nat (zp_int hk29).1
  have hpdb := zp_int hk29
  rw [hpd] at hpdb
  refine zp_load (pc := 0) hx hb (zd_X12_openBracket (0, .aload_n 0, 1, 0, []) (List.mem_of_getElem? (i := 0) rfl)) rfl (j := 0) rfl ?_
  refine zp_load (pc := 1) hx hb (zd_X12_openBracket (1, .aload_n 0, 1, 0, []) (List.mem_of_getElem? (i := 1) rfl)) rfl (j := 0) rfl ?_
  refine zp_getf (n := ((zp_n u.2.1) a 30)) (pc := 2) hx hb hE hw (zd_X12_openBracket (2, .getfield 304, 3, 0, []) (List.mem_of_getElem? (i := 2) rfl)) (j := 48) rfl rfl rfl hp rfl ?_
  refine zp_const (pc := 5) hx hb (zd_X12_openBracket (5, .bipush 8, 2, 0, []) (List.mem_of_getElem? (i := 3) rfl)) rfl rfl ?_
  refine zp_icmp (pc := 7) (tgt := 14) hx hb (zd_X12_openBracket (7, .if_icmp .ge 7, 3, 0, []) (List.mem_of_getElem? (i := 4) rfl)) rfl (fun (hc29 : 8 ≤ ((zp_n u.2.1) a 30)) => ?_) (fun (hc29 : ¬ (8 ≤ ((zp_n u.2.1) a 30))) => ?_)
  · refine zp_const (pc := 14) hx hb (zd_X12_openBracket (14, .iconst 0, 1, 0, []) (List.mem_of_getElem? (i := 7) rfl)) rfl rfl ?_
    refine zp_call (pc := 15) (how := 0) (idx := 275) (mi := 217) (S := []) hx hb hE hw heff hrm (zX_mu hW) rfl (j := 19) rfl rfl (by decide +kernel) (zd_X12_openBracket (15, .invokevirtual 275, 3, 0, []) (List.mem_of_getElem? (i := 8) rfl)) [(a : Int), 0] rfl ⟨zp_o2 hp, zp_o0 (by decide) (by decide) (by decide) (by decide), trivial⟩ (Nat.le_of_ble_eq_true rfl) htk (fun al hal rnm Pm Gm hextm hfrm hokm hcsm hpsim => ?_)
    obtain rfl := List.mem_singleton.mp hal
    obtain ⟨rfl, htm, hmm⟩ := hpsim
    have htm : zs_tk a Gm := htm
    have hmm : zs_mu a 0 (zp_n u.2.1) Gm := hmm
    have htm2 := htm
    have htk2 := htk
    obtain ⟨m1, m2, m3, m4, m5, m6⟩ := htm2
    obtain ⟨q1, q2, q3, q4, q5, q6⟩ := htk2
    have m13 : Gm a 13 = ((zp_n u.2.1) a 13) := zp_nf hfrm hp rfl
    have m27 : Gm a 27 = (b27 : Int) := (zp_nf hfrm hp rfl).trans (hb27)
    have m28 : Gm a 28 = (b28 : Int) := (zp_nf hfrm hp rfl).trans (hb28)
    have m29 : Gm a 29 = (pd : Int) := (zp_nf hfrm hp rfl).trans (hpd)
    have m30 : Gm a 30 = ((zp_n u.2.1) a 30) := zp_nf hfrm hp rfl
    refine zp_load (pc := 18) hx hb (zd_X12_openBracket (18, .aload_n 0, 1, 0, []) (List.mem_of_getElem? (i := 9) rfl)) rfl (j := 0) rfl ?_
    refine zp_getf (n := (Gm a 19)) (pc := 19) hx hb hE hw (zd_X12_openBracket (19, .getfield 240, 3, 0, []) (List.mem_of_getElem? (i := 10) rfl)) (j := 37) rfl rfl rfl hp rfl ?_
    refine zp_if (pc := 22) (tgt := 41) hx hb (zd_X12_openBracket (22, .ifCond .ne 19, 3, 0, []) (List.mem_of_getElem? (i := 11) rfl)) rfl (fun (hc30 : ¬ (Gm a 19) = 0) => ?_) (fun (hc30 : ¬ (¬ (Gm a 19) = 0)) => ?_)
    · refine zp_vret (pc := 41) hx hb hE hQ hU5 rfl (by decide) (zd_X12_openBracket (41, .return_, 1, 0, []) (List.mem_of_getElem? (i := 22) rfl)) (j := 0) rfl ?_
      rw [hps]
      refine ⟨rfl, htm, Or.inl ?_⟩
      have hz : Gm a 19 = 1 ∧ Gm a 14 = zp_n u.2.1 a 14 := by unfold zs_mu at hmm; omega
      refine ⟨hz.1, hz.2, by show Gm a 29 = zp_n u.2.1 a 29; omega, fun j => ?_, fun j => ?_⟩
      · show zv Gm a 27 j = zv (zp_n u.2.1) a 27 j
        rw [zv_eq m27, zv_eq hb27, zp_nc hfrm hq27 rfl]
      · show zv Gm a 28 j = zv (zp_n u.2.1) a 28 j
        rw [zv_eq m28, zv_eq hb28, zp_nc hfrm hq28 rfl]
    · exfalso
      unfold zs_mu at hmm
      omega
  · refine zp_const (pc := 10) hx hb (zd_X12_openBracket (10, .iconst 1, 1, 0, []) (List.mem_of_getElem? (i := 5) rfl)) rfl rfl ?_
    refine zp_goto (tgt := 15) (pc := 11) hx hb (zd_X12_openBracket (11, .goto 4, 3, 0, []) (List.mem_of_getElem? (i := 6) rfl)) rfl ?_
    refine zp_call (pc := 15) (how := 0) (idx := 275) (mi := 217) (S := []) hx hb hE hw heff hrm (zX_mu hW) rfl (j := 19) rfl rfl (by decide +kernel) (zd_X12_openBracket (15, .invokevirtual 275, 3, 0, []) (List.mem_of_getElem? (i := 8) rfl)) [(a : Int), 1] rfl ⟨zp_o2 hp, zp_o0 (by decide) (by decide) (by decide) (by decide), trivial⟩ (Nat.le_of_ble_eq_true rfl) htk (fun al hal rnm Pm Gm hextm hfrm hokm hcsm hpsim => ?_)
    obtain rfl := List.mem_singleton.mp hal
    obtain ⟨rfl, htm, hmm⟩ := hpsim
    have htm : zs_tk a Gm := htm
    have hmm : zs_mu a 1 (zp_n u.2.1) Gm := hmm
    have htm2 := htm
    have htk2 := htk
    obtain ⟨m1, m2, m3, m4, m5, m6⟩ := htm2
    obtain ⟨q1, q2, q3, q4, q5, q6⟩ := htk2
    have m13 : Gm a 13 = ((zp_n u.2.1) a 13) := zp_nf hfrm hp rfl
    have m27 : Gm a 27 = (b27 : Int) := (zp_nf hfrm hp rfl).trans (hb27)
    have m28 : Gm a 28 = (b28 : Int) := (zp_nf hfrm hp rfl).trans (hb28)
    have m29 : Gm a 29 = (pd : Int) := (zp_nf hfrm hp rfl).trans (hpd)
    have m30 : Gm a 30 = ((zp_n u.2.1) a 30) := zp_nf hfrm hp rfl
    refine zp_load (pc := 18) hx hb (zd_X12_openBracket (18, .aload_n 0, 1, 0, []) (List.mem_of_getElem? (i := 9) rfl)) rfl (j := 0) rfl ?_
    refine zp_getf (n := (Gm a 19)) (pc := 19) hx hb hE hw (zd_X12_openBracket (19, .getfield 240, 3, 0, []) (List.mem_of_getElem? (i := 10) rfl)) (j := 37) rfl rfl rfl hp rfl ?_
    refine zp_if (pc := 22) (tgt := 41) hx hb (zd_X12_openBracket (22, .ifCond .ne 19, 3, 0, []) (List.mem_of_getElem? (i := 11) rfl)) rfl (fun (hc31 : ¬ (Gm a 19) = 0) => ?_) (fun (hc31 : ¬ (¬ (Gm a 19) = 0)) => ?_)
    · refine zp_vret (pc := 41) hx hb hE hQ hU5 rfl (by decide) (zd_X12_openBracket (41, .return_, 1, 0, []) (List.mem_of_getElem? (i := 22) rfl)) (j := 0) rfl ?_
      rw [hps]
      refine ⟨rfl, htm, Or.inl ?_⟩
      have hz : Gm a 19 = 1 ∧ Gm a 14 = zp_n u.2.1 a 14 := by unfold zs_mu at hmm; omega
      refine ⟨hz.1, hz.2, by show Gm a 29 = zp_n u.2.1 a 29; omega, fun j => ?_, fun j => ?_⟩
      · show zv Gm a 27 j = zv (zp_n u.2.1) a 27 j
        rw [zv_eq m27, zv_eq hb27, zp_nc hfrm hq27 rfl]
      · show zv Gm a 28 j = zv (zp_n u.2.1) a 28 j
        rw [zv_eq m28, zv_eq hb28, zp_nc hfrm hq28 rfl]
    · refine zp_load (pc := 25) hx hb (zd_X12_openBracket (25, .aload_n 0, 1, 0, []) (List.mem_of_getElem? (i := 12) rfl)) rfl (j := 0) rfl ?_
      refine zp_dup (pc := 26) hx hb (zd_X12_openBracket (26, .dup, 1, 0, []) (List.mem_of_getElem? (i := 13) rfl)) (show (2 : Nat) ≠ 1 by decide) ?_
      refine zp_getf (n := ((zp_n u.2.1) a 30)) (pc := 27) hx hb hE hw (zd_X12_openBracket (27, .getfield 304, 3, 0, []) (List.mem_of_getElem? (i := 14) rfl)) (j := 48) rfl rfl rfl hp m30 ?_
      refine zp_const (pc := 30) hx hb (zd_X12_openBracket (30, .iconst 1, 1, 0, []) (List.mem_of_getElem? (i := 15) rfl)) rfl rfl ?_
      refine zp_add (n := (((zp_n u.2.1) a 30) + 1)) (pc := 31) hx hb (zd_X12_openBracket (31, .iadd, 1, 0, []) (List.mem_of_getElem? (i := 16) rfl)) (by omega) (zp_r0 (by omega) (by omega)) ?_
      refine zp_putf (pc := 32) hx hb hE hw heff (zd_X12_openBracket (32, .putfield 304, 3, 0, []) (List.mem_of_getElem? (i := 17) rfl)) (j := 48) rfl rfl rfl hp (zp_o0 (by omega) (by omega) (by omega) (by omega)) ?_
      refine zp_load (pc := 35) hx hb (zd_X12_openBracket (35, .aload_n 0, 1, 0, []) (List.mem_of_getElem? (i := 18) rfl)) rfl (j := 0) rfl ?_
      refine zp_load (pc := 36) hx hb (zd_X12_openBracket (36, .iload_n 1, 1, 0, []) (List.mem_of_getElem? (i := 19) rfl)) rfl (j := 1) rfl ?_
      refine zp_const (pc := 37) hx hb (zd_X12_openBracket (37, .iconst 0, 1, 0, []) (List.mem_of_getElem? (i := 20) rfl)) rfl rfl ?_
      have hp29 : (zp_set Gm a 30 (((zp_n u.2.1) a 30) + 1)) a 29 = (pd : Int) := ((zp_set_ne (Or.inr (by decide))).trans (m29))
      have hb14 : Gm a 19 = 0 ∧ zp_n u.2.1 a 19 = 0 ∧ zp_n u.2.1 a 15 ≤ Gm a 14 := by unfold zs_mu at hmm; omega
      have hq0 := q6 hs0
      refine zp_call (pc := 38) (how := 0) (idx := 307) (mi := 220) (S := []) hx hb hE hw heff hrm (zX_pu hW) rfl (j := 22) rfl rfl (by decide +kernel) (zd_X12_openBracket (38, .invokevirtual 307, 3, 0, []) (List.mem_of_getElem? (i := 21) rfl)) [(a : Int), p1, 0] rfl ⟨zp_o2 hp, k1, zp_o0 (by decide) (by decide) (by decide) (by decide), trivial⟩ (Nat.le_of_ble_eq_true rfl) (show (zp_set Gm a 30 (((zp_n u.2.1) a 30) + 1)) a 29 < 400 by omega) (fun al hal rnp Pp Gp hextp hfrp hokp hcsp hpsip => ?_)
      obtain rfl := List.mem_singleton.mp hal
      obtain ⟨rfl, hp1, hp2, hp3⟩ := hpsip
      have p13 : Gp a 13 = Gm a 13 := (zp_nf hfrp hp rfl).trans (zp_set_ne (Or.inr (by decide)))
      have p14 : Gp a 14 = Gm a 14 := (zp_nf hfrp hp rfl).trans (zp_set_ne (Or.inr (by decide)))
      have p15 : Gp a 15 = Gm a 15 := (zp_nf hfrp hp rfl).trans (zp_set_ne (Or.inr (by decide)))
      have p16 : Gp a 16 = Gm a 16 := (zp_nf hfrp hp rfl).trans (zp_set_ne (Or.inr (by decide)))
      have p19 : Gp a 19 = Gm a 19 := (zp_nf hfrp hp rfl).trans (zp_set_ne (Or.inr (by decide)))
      refine zp_vret (pc := 41) hx hb hE hQ hU5 rfl (by decide) (zd_X12_openBracket (41, .return_, 1, 0, []) (List.mem_of_getElem? (i := 22) rfl)) (j := 0) rfl ?_
      rw [hps]
      refine ⟨rfl, zs_tk_congr htm p13 p14 p15 p16, Or.inr ⟨by show Gp a 19 = 0; omega, hb14.2.1, by show zp_n u.2.1 a 15 ≤ Gp a 14; omega, ?_, fun j => ?_, fun j => ?_⟩⟩
      · show Gp a 29 = zp_n u.2.1 a 29 + 1
        have h : Gp a 29 = (zp_set Gm a 30 (((zp_n u.2.1) a 30) + 1)) a 29 + 1 := hp1
        omega
      · show zv Gp a 27 j = if j = (zp_n u.2.1 a 29).toNat then p1 else zv (zp_n u.2.1) a 27 j
        have h : zv Gp a 27 j = if j = ((zp_set Gm a 30 (((zp_n u.2.1) a 30) + 1)) a 29).toNat then p1 else zv (zp_set Gm a 30 (((zp_n u.2.1) a 30) + 1)) a 27 j := hp2 j
        rw [h, hp29, hpd]
        have h2 : zv (zp_set Gm a 30 (((zp_n u.2.1) a 30) + 1)) a 27 j = zv (zp_n u.2.1) a 27 j := by
          rw [zv_eq (show (zp_set Gm a 30 (((zp_n u.2.1) a 30) + 1)) a 27 = (b27 : Int) from (zp_set_ne (Or.inr (by decide))).trans m27), zv_eq hb27, zp_set_ne (Or.inl (zp_pne hq27 hp (by decide))), zp_nc hfrm hq27 rfl]
        rw [h2]
      · show zv Gp a 28 j = if j = (zp_n u.2.1 a 29).toNat then 0 else zv (zp_n u.2.1) a 28 j
        have h : zv Gp a 28 j = if j = ((zp_set Gm a 30 (((zp_n u.2.1) a 30) + 1)) a 29).toNat then 0 else zv (zp_set Gm a 30 (((zp_n u.2.1) a 30) + 1)) a 28 j := hp3 j
        rw [h, hp29, hpd]
        have h2 : zv (zp_set Gm a 30 (((zp_n u.2.1) a 30) + 1)) a 28 j = zv (zp_n u.2.1) a 28 j := by
          rw [zv_eq (show (zp_set Gm a 30 (((zp_n u.2.1) a 30) + 1)) a 28 = (b28 : Int) from (zp_set_ne (Or.inr (by decide))).trans m28), zv_eq hb28, zp_set_ne (Or.inl (zp_pne hq28 hp (by decide))), zp_nc hfrm hq28 rfl]
        rw [h2]
def zK_lf : zk_K := (zt_mn 226, prog_14_method_53_code, 4, (Option.none : Option Jvm.ClassFile.FieldType), 1, 12, [(2, 92, 0, 0), (0, 0, 0, 1), (0, 0, (-2147483648), 2147483647), (0, 0, (-2147483648), 2147483647)], [(none, [])], [(92, 14, 0), (92, 15, 0), (92, 16, 0), (92, 17, 0), (92, 18, 0), (92, 19, 0), (92, 26, 0), (92, 23, 0), (68, 1001, 0), (69, 1001, 0)], (3, 130, 0, 0))
def zφ_lf : (Nat → Option Nat) → (Nat → Nat → Int) → List Int → Prop := fun _ G ps => zs_tk (zp_0 ps) G ∧ (ps.getD 1 0 = 1 → G (zp_0 ps) 16 ≠ 0) ∧ G (zp_0 ps) 23 ≤ G (zp_0 ps) 14
def zψ_lf : (Nat → Option Nat) → (Nat → Nat → Int) → List Int → (Nat → Option Nat) → (Nat → Nat → Int) → Int → Prop := fun P G ps P' G' rn => P' = P ∧ zs_tk (zp_0 ps) G' ∧ ((G' (zp_0 ps) 19 = 1 ∧ G' (zp_0 ps) 14 = G (zp_0 ps) 14 ∧ G' (zp_0 ps) 23 = G (zp_0 ps) 23 ∧ (∀ j : Nat, zv G' (zp_0 ps) 24 j = zv G (zp_0 ps) 24 j) ∧ ∀ j : Nat, zv G' (zp_0 ps) 25 j = zv G (zp_0 ps) 25 j) ∨ (G' (zp_0 ps) 19 = 0 ∧ G (zp_0 ps) 19 = 0 ∧ ps.getD 1 0 = 1 ∧ G (zp_0 ps) 15 ≤ G' (zp_0 ps) 14 ∧ G' (zp_0 ps) 23 = G (zp_0 ps) 23 + 1 ∧ (∀ j : Nat, zv G' (zp_0 ps) 24 j = if j = (G (zp_0 ps) 23).toNat then ps.getD 2 0 else zv G (zp_0 ps) 24 j) ∧ ∀ j : Nat, zv G' (zp_0 ps) 25 j = if j = (G (zp_0 ps) 23).toNat then ps.getD 3 0 else zv G (zp_0 ps) 25 j))
theorem zX_lf {l : Launch} {w : zk_W} (hW : zh_W w) : zk_metX l w zt_dv zt_TB zK_lf (zp_A zφ_lf) (zp_B zψ_lf) ∧ zk_cok w zt_TB zK_lf := by
  refine zp_meth hW (pl := 1746) rfl (by decide +kernel) (fun p e R s m args below meth c Q u hx hb hE hQ hU5 heff hnL hok hφ => ?_)
  have hw := hW.1
  obtain ⟨p0, p1, p2, p3, hps, k0, k1, k2, k3⟩ := zp_ps4 hok
  obtain ⟨a, rfl, hp⟩ := zp_this k0
  have hrm : zk_Kr (zk_ev (zp_E zK_lf)) = zk_Kr zK_lf := rfl
  rw [hps] at hφ ⊢
  have hi1 := zp_int k1
  have hi2 := zp_int k2
  have hi3 := zp_int k3
  have hφ : zs_tk a (zp_n u.2.1) ∧ (p1 = 1 → zp_n u.2.1 a 16 ≠ 0) ∧ zp_n u.2.1 a 23 ≤ zp_n u.2.1 a 14 := hφ
  obtain ⟨htk, hs0, hpf⟩ := hφ
  show zp_J p l e R s m args below meth c Q w u [] 0 [(0, 2, (a : Int)), (1, 0, p1), (2, 0, p2), (3, 0, p3)] [] u.1 (zp_n u.2.1)
  refine zp_kn (k := 24) (a := a) hw (show zp_fd 92 24 = some (12, 2, 68, 0, 0) from rfl) rfl hp (fun hk24 => ?_)
  obtain ⟨b24, hb24, hq24⟩ := zp_this hk24
  refine zp_kn (k := 25) (a := a) hw (show zp_fd 92 25 = some (12, 2, 69, 0, 0) from rfl) rfl hp (fun hk25 => ?_)
  obtain ⟨b25, hb25, hq25⟩ := zp_this hk25
  refine zp_kn (k := 13) (a := a) hw (show zp_fd 92 13 = some (12, 0, 0, 0, 400) from rfl) rfl hp (fun hk13 => ?_)
  have hxb := zp_int hk13
  refine zp_kn (k := 26) (a := a) hw (show zp_fd 92 26 = some (12, 0, 0, (-2147483648), 2147483647) from rfl) rfl hp (fun hk26 => ?_)
  have hxb := zp_int hk26
  refine zp_kn (k := 23) (a := a) hw (show zp_fd 92 23 = some (12, 0, 0, 0, 400) from rfl) rfl hp (fun hk23 => ?_)
  obtain ⟨nc, hnc⟩ := zp_nat (zp_int hk23).1
  have hncb := zp_int hk23
  rw [hnc] at hncb
  refine zp_load (pc := 0) hx hb (zd_X12_leaf (0, .aload_n 0, 1, 0, []) (List.mem_of_getElem? (i := 0) rfl)) rfl (j := 0) rfl ?_
  refine zp_load (pc := 1) hx hb (zd_X12_leaf (1, .iload_n 1, 1, 0, []) (List.mem_of_getElem? (i := 1) rfl)) rfl (j := 1) rfl ?_
  refine zp_if (pc := 2) (tgt := 18) hx hb (zd_X12_leaf (2, .ifCond .eq 16, 3, 0, []) (List.mem_of_getElem? (i := 2) rfl)) rfl (fun (hc32 : p1 = 0) => ?_) (fun (hc32 : ¬ (p1 = 0)) => ?_)
  · refine zp_const (pc := 18) hx hb (zd_X12_leaf (18, .iconst 0, 1, 0, []) (List.mem_of_getElem? (i := 9) rfl)) rfl rfl ?_
    refine zp_call (pc := 19) (how := 0) (idx := 275) (mi := 217) (S := []) hx hb hE hw heff hrm (zX_mu hW) rfl (j := 19) rfl rfl (by decide +kernel) (zd_X12_leaf (19, .invokevirtual 275, 3, 0, []) (List.mem_of_getElem? (i := 10) rfl)) [(a : Int), 0] rfl ⟨zp_o2 hp, zp_o0 (by decide) (by decide) (by decide) (by decide), trivial⟩ (Nat.le_of_ble_eq_true rfl) htk (fun al hal rnm Pm Gm hextm hfrm hokm hcsm hpsim => ?_)
    obtain rfl := List.mem_singleton.mp hal
    obtain ⟨rfl, htm, hmm⟩ := hpsim
    have htm : zs_tk a Gm := htm
    have hmm : zs_mu a 0 (zp_n u.2.1) Gm := hmm
    have htm2 := htm
    have htk2 := htk
    obtain ⟨m1, m2, m3, m4, m5, m6⟩ := htm2
    obtain ⟨q1, q2, q3, q4, q5, q6⟩ := htk2
    have m13 : Gm a 13 = ((zp_n u.2.1) a 13) := zp_nf hfrm hp rfl
    have m24 : Gm a 24 = (b24 : Int) := (zp_nf hfrm hp rfl).trans (hb24)
    have m25 : Gm a 25 = (b25 : Int) := (zp_nf hfrm hp rfl).trans (hb25)
    have m23 : Gm a 23 = (nc : Int) := (zp_nf hfrm hp rfl).trans (hnc)
    have m26 : Gm a 26 = ((zp_n u.2.1) a 26) := zp_nf hfrm hp rfl
    refine zp_load (pc := 22) hx hb (zd_X12_leaf (22, .aload_n 0, 1, 0, []) (List.mem_of_getElem? (i := 11) rfl)) rfl (j := 0) rfl ?_
    refine zp_getf (n := (Gm a 19)) (pc := 23) hx hb hE hw (zd_X12_leaf (23, .getfield 240, 3, 0, []) (List.mem_of_getElem? (i := 12) rfl)) (j := 37) rfl rfl rfl hp rfl ?_
    refine zp_if (pc := 26) (tgt := 45) hx hb (zd_X12_leaf (26, .ifCond .ne 19, 3, 0, []) (List.mem_of_getElem? (i := 13) rfl)) rfl (fun (hc33 : ¬ (Gm a 19) = 0) => ?_) (fun (hc33 : ¬ (¬ (Gm a 19) = 0)) => ?_)
    · refine zp_vret (pc := 45) hx hb hE hQ hU5 rfl (by decide) (zd_X12_leaf (45, .return_, 1, 0, []) (List.mem_of_getElem? (i := 24) rfl)) (j := 0) rfl ?_
      rw [hps]
      refine ⟨rfl, htm, Or.inl ?_⟩
      have hz : Gm a 19 = 1 ∧ Gm a 14 = zp_n u.2.1 a 14 := by unfold zs_mu at hmm; omega
      refine ⟨hz.1, hz.2, by show Gm a 23 = zp_n u.2.1 a 23; omega, fun j => ?_, fun j => ?_⟩
      · show zv Gm a 24 j = zv (zp_n u.2.1) a 24 j
        rw [zv_eq m24, zv_eq hb24, zp_nc hfrm hq24 rfl]
      · show zv Gm a 25 j = zv (zp_n u.2.1) a 25 j
        rw [zv_eq m25, zv_eq hb25, zp_nc hfrm hq25 rfl]
    · exfalso
      unfold zs_mu at hmm
      omega
  · refine zp_load (pc := 5) hx hb (zd_X12_leaf (5, .aload_n 0, 1, 0, []) (List.mem_of_getElem? (i := 3) rfl)) rfl (j := 0) rfl ?_
    refine zp_getf (n := ((zp_n u.2.1) a 26)) (pc := 6) hx hb hE hw (zd_X12_leaf (6, .getfield 310, 3, 0, []) (List.mem_of_getElem? (i := 4) rfl)) (j := 44) rfl rfl rfl hp rfl ?_
    refine zp_const (pc := 9) hx hb (zd_X12_leaf (9, .bipush 50, 2, 0, []) (List.mem_of_getElem? (i := 5) rfl)) rfl rfl ?_
    refine zp_icmp (pc := 11) (tgt := 18) hx hb (zd_X12_leaf (11, .if_icmp .ge 7, 3, 0, []) (List.mem_of_getElem? (i := 6) rfl)) rfl (fun (hc34 : 50 ≤ ((zp_n u.2.1) a 26)) => ?_) (fun (hc34 : ¬ (50 ≤ ((zp_n u.2.1) a 26))) => ?_)
    · refine zp_const (pc := 18) hx hb (zd_X12_leaf (18, .iconst 0, 1, 0, []) (List.mem_of_getElem? (i := 9) rfl)) rfl rfl ?_
      refine zp_call (pc := 19) (how := 0) (idx := 275) (mi := 217) (S := []) hx hb hE hw heff hrm (zX_mu hW) rfl (j := 19) rfl rfl (by decide +kernel) (zd_X12_leaf (19, .invokevirtual 275, 3, 0, []) (List.mem_of_getElem? (i := 10) rfl)) [(a : Int), 0] rfl ⟨zp_o2 hp, zp_o0 (by decide) (by decide) (by decide) (by decide), trivial⟩ (Nat.le_of_ble_eq_true rfl) htk (fun al hal rnm Pm Gm hextm hfrm hokm hcsm hpsim => ?_)
      obtain rfl := List.mem_singleton.mp hal
      obtain ⟨rfl, htm, hmm⟩ := hpsim
      have htm : zs_tk a Gm := htm
      have hmm : zs_mu a 0 (zp_n u.2.1) Gm := hmm
      have htm2 := htm
      have htk2 := htk
      obtain ⟨m1, m2, m3, m4, m5, m6⟩ := htm2
      obtain ⟨q1, q2, q3, q4, q5, q6⟩ := htk2
      have m13 : Gm a 13 = ((zp_n u.2.1) a 13) := zp_nf hfrm hp rfl
      have m24 : Gm a 24 = (b24 : Int) := (zp_nf hfrm hp rfl).trans (hb24)
      have m25 : Gm a 25 = (b25 : Int) := (zp_nf hfrm hp rfl).trans (hb25)
      have m23 : Gm a 23 = (nc : Int) := (zp_nf hfrm hp rfl).trans (hnc)
      have m26 : Gm a 26 = ((zp_n u.2.1) a 26) := zp_nf hfrm hp rfl
      refine zp_load (pc := 22) hx hb (zd_X12_leaf (22, .aload_n 0, 1, 0, []) (List.mem_of_getElem? (i := 11) rfl)) rfl (j := 0) rfl ?_
      refine zp_getf (n := (Gm a 19)) (pc := 23) hx hb hE hw (zd_X12_leaf (23, .getfield 240, 3, 0, []) (List.mem_of_getElem? (i := 12) rfl)) (j := 37) rfl rfl rfl hp rfl ?_
      refine zp_if (pc := 26) (tgt := 45) hx hb (zd_X12_leaf (26, .ifCond .ne 19, 3, 0, []) (List.mem_of_getElem? (i := 13) rfl)) rfl (fun (hc35 : ¬ (Gm a 19) = 0) => ?_) (fun (hc35 : ¬ (¬ (Gm a 19) = 0)) => ?_)
      · refine zp_vret (pc := 45) hx hb hE hQ hU5 rfl (by decide) (zd_X12_leaf (45, .return_, 1, 0, []) (List.mem_of_getElem? (i := 24) rfl)) (j := 0) rfl ?_
        rw [hps]
        refine ⟨rfl, htm, Or.inl ?_⟩
        have hz : Gm a 19 = 1 ∧ Gm a 14 = zp_n u.2.1 a 14 := by unfold zs_mu at hmm; omega
        refine ⟨hz.1, hz.2, by show Gm a 23 = zp_n u.2.1 a 23; omega, fun j => ?_, fun j => ?_⟩
        · show zv Gm a 24 j = zv (zp_n u.2.1) a 24 j
          rw [zv_eq m24, zv_eq hb24, zp_nc hfrm hq24 rfl]
        · show zv Gm a 25 j = zv (zp_n u.2.1) a 25 j
          rw [zv_eq m25, zv_eq hb25, zp_nc hfrm hq25 rfl]
      · exfalso
        unfold zs_mu at hmm
        omega
    · refine zp_const (pc := 14) hx hb (zd_X12_leaf (14, .iconst 1, 1, 0, []) (List.mem_of_getElem? (i := 7) rfl)) rfl rfl ?_
      refine zp_goto (tgt := 19) (pc := 15) hx hb (zd_X12_leaf (15, .goto 4, 3, 0, []) (List.mem_of_getElem? (i := 8) rfl)) rfl ?_
      refine zp_call (pc := 19) (how := 0) (idx := 275) (mi := 217) (S := []) hx hb hE hw heff hrm (zX_mu hW) rfl (j := 19) rfl rfl (by decide +kernel) (zd_X12_leaf (19, .invokevirtual 275, 3, 0, []) (List.mem_of_getElem? (i := 10) rfl)) [(a : Int), 1] rfl ⟨zp_o2 hp, zp_o0 (by decide) (by decide) (by decide) (by decide), trivial⟩ (Nat.le_of_ble_eq_true rfl) htk (fun al hal rnm Pm Gm hextm hfrm hokm hcsm hpsim => ?_)
      obtain rfl := List.mem_singleton.mp hal
      obtain ⟨rfl, htm, hmm⟩ := hpsim
      have htm : zs_tk a Gm := htm
      have hmm : zs_mu a 1 (zp_n u.2.1) Gm := hmm
      have htm2 := htm
      have htk2 := htk
      obtain ⟨m1, m2, m3, m4, m5, m6⟩ := htm2
      obtain ⟨q1, q2, q3, q4, q5, q6⟩ := htk2
      have m13 : Gm a 13 = ((zp_n u.2.1) a 13) := zp_nf hfrm hp rfl
      have m24 : Gm a 24 = (b24 : Int) := (zp_nf hfrm hp rfl).trans (hb24)
      have m25 : Gm a 25 = (b25 : Int) := (zp_nf hfrm hp rfl).trans (hb25)
      have m23 : Gm a 23 = (nc : Int) := (zp_nf hfrm hp rfl).trans (hnc)
      have m26 : Gm a 26 = ((zp_n u.2.1) a 26) := zp_nf hfrm hp rfl
      refine zp_load (pc := 22) hx hb (zd_X12_leaf (22, .aload_n 0, 1, 0, []) (List.mem_of_getElem? (i := 11) rfl)) rfl (j := 0) rfl ?_
      refine zp_getf (n := (Gm a 19)) (pc := 23) hx hb hE hw (zd_X12_leaf (23, .getfield 240, 3, 0, []) (List.mem_of_getElem? (i := 12) rfl)) (j := 37) rfl rfl rfl hp rfl ?_
      refine zp_if (pc := 26) (tgt := 45) hx hb (zd_X12_leaf (26, .ifCond .ne 19, 3, 0, []) (List.mem_of_getElem? (i := 13) rfl)) rfl (fun (hc36 : ¬ (Gm a 19) = 0) => ?_) (fun (hc36 : ¬ (¬ (Gm a 19) = 0)) => ?_)
      · refine zp_vret (pc := 45) hx hb hE hQ hU5 rfl (by decide) (zd_X12_leaf (45, .return_, 1, 0, []) (List.mem_of_getElem? (i := 24) rfl)) (j := 0) rfl ?_
        rw [hps]
        refine ⟨rfl, htm, Or.inl ?_⟩
        have hz : Gm a 19 = 1 ∧ Gm a 14 = zp_n u.2.1 a 14 := by unfold zs_mu at hmm; omega
        refine ⟨hz.1, hz.2, by show Gm a 23 = zp_n u.2.1 a 23; omega, fun j => ?_, fun j => ?_⟩
        · show zv Gm a 24 j = zv (zp_n u.2.1) a 24 j
          rw [zv_eq m24, zv_eq hb24, zp_nc hfrm hq24 rfl]
        · show zv Gm a 25 j = zv (zp_n u.2.1) a 25 j
          rw [zv_eq m25, zv_eq hb25, zp_nc hfrm hq25 rfl]
      · refine zp_load (pc := 29) hx hb (zd_X12_leaf (29, .aload_n 0, 1, 0, []) (List.mem_of_getElem? (i := 14) rfl)) rfl (j := 0) rfl ?_
        refine zp_load (pc := 30) hx hb (zd_X12_leaf (30, .iload_n 2, 1, 0, []) (List.mem_of_getElem? (i := 15) rfl)) rfl (j := 2) rfl ?_
        refine zp_load (pc := 31) hx hb (zd_X12_leaf (31, .iload_n 3, 1, 0, []) (List.mem_of_getElem? (i := 16) rfl)) rfl (j := 3) rfl ?_
        have hb14 : Gm a 19 = 0 ∧ zp_n u.2.1 a 19 = 0 ∧ p1 = 1 ∧ zp_n u.2.1 a 15 ≤ Gm a 14 := by unfold zs_mu at hmm; omega
        have hq0 := q6 (hs0 hb14.2.2.1)
        refine zp_call (pc := 32) (how := 0) (idx := 288) (mi := 227) (S := []) hx hb hE hw heff hrm (zX_em hW) rfl (j := 29) rfl rfl (by decide +kernel) (zd_X12_leaf (32, .invokevirtual 288, 3, 0, []) (List.mem_of_getElem? (i := 17) rfl)) [(a : Int), p2, p3] rfl ⟨zp_o2 hp, k2, k3, trivial⟩ (Nat.le_of_ble_eq_true rfl) (show Gm a 23 < 400 by omega) (fun al hal rnp Pp Gp hextp hfrp hokp hcsp hpsip => ?_)
        obtain rfl := List.mem_singleton.mp hal
        obtain ⟨rfl, hp1, hp2, hp3⟩ := hpsip
        refine zp_kn (k := 26) (a := a) (G := Gp) hw (show zp_fd 92 26 = some (12, 0, 0, (-2147483648), 2147483647) from rfl) rfl hp (fun hk26 => ?_)
        have p13 : Gp a 13 = Gm a 13 := zp_nf hfrp hp rfl
        have p14 : Gp a 14 = Gm a 14 := zp_nf hfrp hp rfl
        have p15 : Gp a 15 = Gm a 15 := zp_nf hfrp hp rfl
        have p16 : Gp a 16 = Gm a 16 := zp_nf hfrp hp rfl
        have p19 : Gp a 19 = Gm a 19 := zp_nf hfrp hp rfl
        have p26 : Gp a 26 = Gm a 26 := zp_nf hfrp hp rfl
        refine zp_load (pc := 35) hx hb (zd_X12_leaf (35, .aload_n 0, 1, 0, []) (List.mem_of_getElem? (i := 18) rfl)) rfl (j := 0) rfl ?_
        refine zp_dup (pc := 36) hx hb (zd_X12_leaf (36, .dup, 1, 0, []) (List.mem_of_getElem? (i := 19) rfl)) (show (2 : Nat) ≠ 1 by decide) ?_
        refine zp_getf (n := (zp_n u.2.1 a 26)) (pc := 37) hx hb hE hw (zd_X12_leaf (37, .getfield 310, 3, 0, []) (List.mem_of_getElem? (i := 20) rfl)) (j := 44) rfl rfl rfl hp (p26.trans m26) ?_
        refine zp_const (pc := 40) hx hb (zd_X12_leaf (40, .iconst 1, 1, 0, []) (List.mem_of_getElem? (i := 21) rfl)) rfl rfl ?_
        refine zp_add (n := ((zp_n u.2.1 a 26) + 1)) (pc := 41) hx hb (zd_X12_leaf (41, .iadd, 1, 0, []) (List.mem_of_getElem? (i := 22) rfl)) (by omega) (zp_r0 (by omega) (by omega)) ?_
        refine zp_putf (pc := 42) hx hb hE hw heff (zd_X12_leaf (42, .putfield 310, 3, 0, []) (List.mem_of_getElem? (i := 23) rfl)) (j := 44) rfl rfl rfl hp (zp_o0 (by omega) (by omega) (by omega) (by omega)) ?_
        refine zp_vret (pc := 45) hx hb hE hQ hU5 rfl (by decide) (zd_X12_leaf (45, .return_, 1, 0, []) (List.mem_of_getElem? (i := 24) rfl)) (j := 0) rfl ?_
        rw [hps]
        refine ⟨rfl, zs_tk_congr htm ((zp_set_ne (Or.inr (by decide))).trans p13) ((zp_set_ne (Or.inr (by decide))).trans p14) ((zp_set_ne (Or.inr (by decide))).trans p15) ((zp_set_ne (Or.inr (by decide))).trans p16), Or.inr ⟨?_, hb14.2.1, hb14.2.2.1, ?_, ?_, fun j => ?_, fun j => ?_⟩⟩
        · show (zp_set Gp a 26 ((zp_n u.2.1 a 26) + 1)) a 19 = 0
          rw [zp_set_ne (Or.inr (by decide)), p19]; exact hb14.1
        · show zp_n u.2.1 a 15 ≤ (zp_set Gp a 26 ((zp_n u.2.1 a 26) + 1)) a 14
          rw [zp_set_ne (Or.inr (by decide)), p14]; exact hb14.2.2.2
        · show (zp_set Gp a 26 ((zp_n u.2.1 a 26) + 1)) a 23 = zp_n u.2.1 a 23 + 1
          rw [zp_set_ne (Or.inr (by decide))]
          have h : Gp a 23 = Gm a 23 + 1 := hp1
          omega
        · show zv (zp_set Gp a 26 ((zp_n u.2.1 a 26) + 1)) a 24 j = if j = (zp_n u.2.1 a 23).toNat then p2 else zv (zp_n u.2.1) a 24 j
          have h : zv Gp a 24 j = if j = (Gm a 23).toNat then p2 else zv Gm a 24 j := hp2 j
          have hb : Gp a 24 = (b24 : Int) := (zp_nf hfrp hp rfl).trans m24
          rw [zv_eq (show (zp_set Gp a 26 ((zp_n u.2.1 a 26) + 1)) a 24 = (b24 : Int) from (zp_set_ne (Or.inr (by decide))).trans hb), zp_set_ne (Or.inl (zp_pne hq24 hp (by decide))), ← zv_eq hb, h, m23, hnc, zv_eq m24, zv_eq hb24, zp_nc hfrm hq24 rfl]
        · show zv (zp_set Gp a 26 ((zp_n u.2.1 a 26) + 1)) a 25 j = if j = (zp_n u.2.1 a 23).toNat then p3 else zv (zp_n u.2.1) a 25 j
          have h : zv Gp a 25 j = if j = (Gm a 23).toNat then p3 else zv Gm a 25 j := hp3 j
          have hb : Gp a 25 = (b25 : Int) := (zp_nf hfrp hp rfl).trans m25
          rw [zv_eq (show (zp_set Gp a 26 ((zp_n u.2.1 a 26) + 1)) a 25 = (b25 : Int) from (zp_set_ne (Or.inr (by decide))).trans hb), zp_set_ne (Or.inl (zp_pne hq25 hp (by decide))), ← zv_eq hb, h, m23, hnc, zv_eq m25, zv_eq hb25, zp_nc hfrm hq25 rfl]
