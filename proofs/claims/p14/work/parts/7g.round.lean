/-! part 7g: goRound, round -/
/-- the way that is to be gone -/
noncomputable def gr_F (a n : Nat) (G : Nat → Nat → Int) : Prop := ∀ k : Nat, k < n → 0 ≤ zv G a 51 k ∧ 0 ≤ zv G a 50 (zv G a 51 k).toNat ∧ zv G a 50 (zv G a 51 k).toNat ≤ 7
theorem gr_fr {a n b50 b51 : Nat} {G G' : Nat → Nat → Int} (h : gr_F a n G) (e50 : G a 50 = (b50 : Int)) (e51 : G a 51 = (b51 : Int)) (e50' : G' a 50 = (b50 : Int)) (e51' : G' a 51 = (b51 : Int)) (z50 : ∀ k, G' b50 k = G b50 k) (z51 : ∀ k, G' b51 k = G b51 k) : gr_F a n G' := fun k hk => by
  have h1 : zv G' a 51 k = zv G a 51 k := by rw [zv_eq e51', z51, ← zv_eq e51]
  have h2 : ∀ q, zv G' a 50 q = zv G a 50 q := fun q => by rw [zv_eq e50', z50, ← zv_eq e50]
  rw [h1, h2]
  exact h k hk
noncomputable def zK_gr : zk_K := (zt_mn 273, prog_14_method_95_code, 6, (Option.some Jvm.ClassFile.FieldType.int), 1, 12, [(2, 13, 0, 0), (0, 0, 0, 7)], [(some (0, 0, 0, 100000000), [])], [], (1, 50, 0, 0))
noncomputable def zφ_gr : (Nat → Option Nat) → (Nat → Nat → Int) → List Int → Prop := fun _ G ps => gr_F (zp_0 ps) (ps.getD 1 0).toNat G
noncomputable def zψ_gr : (Nat → Option Nat) → (Nat → Nat → Int) → List Int → (Nat → Option Nat) → (Nat → Nat → Int) → Int → Prop := fun P G ps P' G' rn => True
theorem zX_gr {l : Launch} {w : zk_W} (hW : zh_W w) : zk_metX l w zt_dv zt_TB zK_gr (zp_A zφ_gr) (zp_B zψ_gr) ∧ zk_cok w zt_TB zK_gr := by
  refine zp_meth hW (pl := 1946) rfl (by decide +kernel) (fun p e R s m args below meth c Q u hx hb hE hQ hU5 heff hnL hok hφ => ?_)
  have hw := hW.1
  obtain ⟨p0, p1, hps, k0, k1⟩ := zp_ps2 hok
  obtain ⟨a, rfl, hp⟩ := zp_this k0
  have hrm : zk_Kr (zk_ev (zp_E zK_gr)) = zk_Kr zK_gr := rfl
  rw [hps] at hφ ⊢
  have hi1 := zp_int k1
  have hφ : gr_F a p1.toNat (zp_n u.2.1) := hφ
  obtain ⟨n, rfl⟩ := zp_nat hi1.1
  rw [Int.toNat_natCast] at hφ
  show zp_J p l e R s m args below meth c Q w u [] 0 [(0, 2, (a : Int)), (1, 0, (n : Int))] [] u.1 (zp_n u.2.1)
  refine zp_kn (k := 3) (a := a) hw (show zp_fd 13 3 = some (12, 2, 59, 0, 0) from rfl) rfl hp (fun hk3 => ?_)
  obtain ⟨b3, hb3, hq3⟩ := zp_this hk3
  refine zp_kn (k := 50) (a := a) hw (show zp_fd 13 50 = some (12, 2, 85, 0, 0) from rfl) rfl hp (fun hk50 => ?_)
  obtain ⟨b50, hb50, hq50⟩ := zp_this hk50
  refine zp_kn (k := 51) (a := a) hw (show zp_fd 13 51 = some (12, 2, 86, 0, 0) from rfl) rfl hp (fun hk51 => ?_)
  obtain ⟨b51, hb51, hq51⟩ := zp_this hk51
  refine zp_kn (k := 52) (a := a) hw (show zp_fd 13 52 = some (12, 2, 87, 0, 0) from rfl) rfl hp (fun hk52 => ?_)
  obtain ⟨b52, hb52, hq52⟩ := zp_this hk52
  refine zp_kn (k := 54) (a := a) hw (show zp_fd 13 54 = some (12, 2, 88, 0, 0) from rfl) rfl hp (fun hk54 => ?_)
  obtain ⟨b54, hb54, hq54⟩ := zp_this hk54
  have hsr : sr_I a b3 b50 b51 b52 u.1 (zp_n u.2.1) := ⟨hp, hq3, hq50, hq51, hq52, hb3, hb50, hb51, hb52⟩
  have loop : ∀ (m0 k pl : Nat) (v3 : Int) (P : Nat → Option Nat) (G : Nat → Nat → Int), n - k < m0 → k ≤ n → pl ≤ 7 → 0 ≤ v3 → v3 ≤ 100000000 → sr_I a b3 b50 b51 b52 P G → P b54 = some 88 → G a 54 = (b54 : Int) → gr_F a n G → zp_J p l e R s m args below meth c Q w u [] 7 [(4, 0, (k : Int)), (3, 0, v3), (2, 0, (pl : Int)), (0, 2, (a : Int)), (1, 0, (n : Int))] [] P G := by
    intro m0
    induction m0 with
    | zero => intro k pl v3 P G h; exact absurd h (Nat.not_lt_zero _)
    | succ m0 ih =>
      intro k pl v3 P G hm hk hpl h30 h31 hsr q54 e54 hF
      refine zp_load (pc := 7) hx hb (zd_X12_goRound (7, .iload 4, 2, 0, []) (List.mem_of_getElem? (i := 6) rfl)) rfl (j := 0) rfl ?_
      refine zp_load (pc := 9) hx hb (zd_X12_goRound (9, .iload_n 1, 1, 0, []) (List.mem_of_getElem? (i := 7) rfl)) rfl (j := 4) rfl ?_
      refine zp_icmp (pc := 10) (tgt := 59) hx hb (zd_X12_goRound (10, .if_icmp .ge 49, 3, 0, []) (List.mem_of_getElem? (i := 8) rfl)) rfl (fun (hc214 : (n : Int) ≤ (k : Int)) => ?_) (fun (hc214 : ¬ ((n : Int) ≤ (k : Int))) => ?_)
      · refine zp_load (pc := 59) hx hb (zd_X12_goRound (59, .iload_n 3, 1, 0, []) (List.mem_of_getElem? (i := 36) rfl)) rfl (j := 1) rfl ?_
        refine zp_load (pc := 60) hx hb (zd_X12_goRound (60, .aload_n 0, 1, 0, []) (List.mem_of_getElem? (i := 37) rfl)) rfl (j := 3) rfl ?_
        refine zp_getf (n := (b54 : Int)) (pc := 61) hx hb hE hw (zd_X12_goRound (61, .getfield 143, 3, 0, []) (List.mem_of_getElem? (i := 38) rfl)) (j := 72) rfl rfl rfl hsr.1 e54 ?_
        refine zp_const (pc := 64) hx hb (zd_X12_goRound (64, .bipush 8, 2, 0, []) (List.mem_of_getElem? (i := 39) rfl)) rfl rfl ?_
        refine zp_load (pc := 66) hx hb (zd_X12_goRound (66, .iload_n 2, 1, 0, []) (List.mem_of_getElem? (i := 40) rfl)) rfl (j := 2) rfl ?_
        refine zp_mul (n := (8 * (pl : Int))) (pc := 67) hx hb (zd_X12_goRound (67, .imul, 1, 0, []) (List.mem_of_getElem? (i := 41) rfl)) (by omega) (zp_r0 (by omega) (by omega)) ?_
        refine zp_iald (j := (8 * pl)) (v := (G b54 (2000 + (8 * pl)))) (pc := 68) hx hb hw (zd_X12_goRound (68, .iaload, 1, 0, []) (List.mem_of_getElem? (i := 42) rfl)) (show zp_ia 1 88 = some (64, 0, 0, (-2147483648), 2147483647) from rfl) q54 (by omega) (by omega) rfl (fun hk215 => ?_)
        have hk215b := zp_int hk215
        refine zp_bin (o := 0) (la := -2147483648) (ha := 2147483647) (lb := -2147483648) (hb' := 2147483647) (pc := 69) hx hb (zd_X12_goRound (69, .iadd, 1, 0, []) (List.mem_of_getElem? (i := 43) rfl)) rfl (fun h => absurd h (by decide)) (by omega) (by omega) (by omega) (by omega) (fun x216 r_x216 _ _ => ?_)
        have i_x216 := zp_rg0 r_x216
        refine zp_i2l (pc := 70) hx hb (zd_X12_goRound (70, .i2l, 1, 0, []) (List.mem_of_getElem? (i := 44) rfl)) ?_
        refine zp_const (pc := 71) hx hb (zd_X12_goRound (71, .iconst 0, 1, 0, []) (List.mem_of_getElem? (i := 45) rfl)) rfl rfl ?_
        refine zp_ldcw (pc := 72) hx hb hE (zd_X12_goRound (72, .ldc_w 456, 3, 0, []) (List.mem_of_getElem? (i := 46) rfl)) (j := 109) rfl ?_
        refine zp_call (pc := 75) (how := 1) (idx := 427) (mi := 245) (S := []) hx hb hE hw heff hrm (zp_plain (zq_1062 hW)) rfl (j := 45) rfl rfl (by decide +kernel) (zd_X12_goRound (75, .invokestatic 427, 3, 0, []) (List.mem_of_getElem? (i := 47) rfl)) [x216, 0, 100000000] rfl ⟨zp_o1 (zp_r1 (by omega) (by omega)), zp_o0 (by decide) (by decide) (by decide) (by decide), zp_o0 (by decide) (by decide) (by decide) (by decide), trivial⟩ (Nat.le_of_ble_eq_true rfl) trivial (fun al hal rny Py Gy hexty hfry hoky hcsy hpsiy => ?_)
        obtain rfl := List.mem_singleton.mp hal
        have hry := zp_int (hoky _ rfl).1
        have q54y := hexty _ _ q54
        have e54y : Gy a 54 = (b54 : Int) := (zp_nf hfry hsr.1 rfl).trans e54
        have srby := hsr
        obtain ⟨sry, z50y, z51y⟩ := sr_fr srby hexty hfry (by decide +kernel)
        have hFy : gr_F a n Gy := gr_fr hF hsr.2.2.2.2.2.2.1 hsr.2.2.2.2.2.2.2.1 sry.2.2.2.2.2.2.1 sry.2.2.2.2.2.2.2.1 z50y z51y
        refine zp_iret (pc := 78) (n := rny) hx hb hE hQ hU5 rfl (by decide) (zd_X12_goRound (78, .ireturn, 1, 0, []) (List.mem_of_getElem? (i := 48) rfl)) (j := 0) rfl (zp_o0 (by omega) (by omega) (by omega) (by omega)) ?_
        rw [hps]
        trivial
      · refine zp_load (pc := 13) hx hb (zd_X12_goRound (13, .aload_n 0, 1, 0, []) (List.mem_of_getElem? (i := 9) rfl)) rfl (j := 3) rfl ?_
        refine zp_getf (n := (b50 : Int)) (pc := 14) hx hb hE hw (zd_X12_goRound (14, .getfield 134, 3, 0, []) (List.mem_of_getElem? (i := 10) rfl)) (j := 68) rfl rfl rfl hsr.1 hsr.2.2.2.2.2.2.1 ?_
        refine zp_load (pc := 17) hx hb (zd_X12_goRound (17, .aload_n 0, 1, 0, []) (List.mem_of_getElem? (i := 11) rfl)) rfl (j := 3) rfl ?_
        refine zp_getf (n := (b51 : Int)) (pc := 18) hx hb hE hw (zd_X12_goRound (18, .getfield 137, 3, 0, []) (List.mem_of_getElem? (i := 12) rfl)) (j := 69) rfl rfl rfl hsr.1 hsr.2.2.2.2.2.2.2.1 ?_
        refine zp_load (pc := 21) hx hb (zd_X12_goRound (21, .iload 4, 2, 0, []) (List.mem_of_getElem? (i := 13) rfl)) rfl (j := 0) rfl ?_
        obtain ⟨m1, m2, m3⟩ := hF k (by omega)
        obtain ⟨ti, hti⟩ := zp_nat m1
        rw [hti, Int.toNat_natCast] at m2 m3
        obtain ⟨mi, hmi⟩ := zp_nat m2
        rw [hmi] at m3
        have ht51 : G b51 (2000 + k) = (ti : Int) := (zv_eq hsr.2.2.2.2.2.2.2.1 k).symm.trans hti
        have hm50 : G b50 (2000 + ti) = (mi : Int) := (zv_eq hsr.2.2.2.2.2.2.1 ti).symm.trans hmi
        refine zp_iald (j := k) (v := (ti : Int)) (pc := 23) hx hb hw (zd_X12_goRound (23, .iaload, 1, 0, []) (List.mem_of_getElem? (i := 14) rfl)) (show zp_ia 1 86 = some (7, 0, 0, (-1), 7) from rfl) hsr.2.2.2.1 (by omega) (by omega) ht51 (fun hk217 => ?_)
        have hk217b := zp_int hk217
        refine zp_iald (j := ti) (v := (mi : Int)) (pc := 24) hx hb hw (zd_X12_goRound (24, .iaload, 1, 0, []) (List.mem_of_getElem? (i := 15) rfl)) (show zp_ia 1 85 = some (10, 0, 0, 0, 10) from rfl) hsr.2.2.1 (by omega) (by omega) hm50 (fun hk218 => ?_)
        have hk218b := zp_int hk218
        refine zp_store (L' := [(5, 0, (mi : Int)), (4, 0, (k : Int)), (3, 0, v3), (2, 0, (pl : Int)), (0, 2, (a : Int)), (1, 0, (n : Int))]) (pc := 25) hx hb hnL (zd_X12_goRound (25, .istore 5, 2, 0, []) (List.mem_of_getElem? (i := 16) rfl)) rfl rfl rfl ?_
        refine zp_load (pc := 27) hx hb (zd_X12_goRound (27, .iload_n 3, 1, 0, []) (List.mem_of_getElem? (i := 17) rfl)) rfl (j := 2) rfl ?_
        refine zp_load (pc := 28) hx hb (zd_X12_goRound (28, .aload_n 0, 1, 0, []) (List.mem_of_getElem? (i := 18) rfl)) rfl (j := 4) rfl ?_
        refine zp_getf (n := (b54 : Int)) (pc := 29) hx hb hE hw (zd_X12_goRound (29, .getfield 143, 3, 0, []) (List.mem_of_getElem? (i := 19) rfl)) (j := 72) rfl rfl rfl hsr.1 e54 ?_
        refine zp_const (pc := 32) hx hb (zd_X12_goRound (32, .bipush 8, 2, 0, []) (List.mem_of_getElem? (i := 20) rfl)) rfl rfl ?_
        refine zp_load (pc := 34) hx hb (zd_X12_goRound (34, .iload_n 2, 1, 0, []) (List.mem_of_getElem? (i := 21) rfl)) rfl (j := 3) rfl ?_
        refine zp_mul (n := (8 * (pl : Int))) (pc := 35) hx hb (zd_X12_goRound (35, .imul, 1, 0, []) (List.mem_of_getElem? (i := 22) rfl)) (by omega) (zp_r0 (by omega) (by omega)) ?_
        refine zp_load (pc := 36) hx hb (zd_X12_goRound (36, .iload 5, 2, 0, []) (List.mem_of_getElem? (i := 23) rfl)) rfl (j := 0) rfl ?_
        refine zp_add (n := (8 * (pl : Int) + (mi : Int))) (pc := 38) hx hb (zd_X12_goRound (38, .iadd, 1, 0, []) (List.mem_of_getElem? (i := 24) rfl)) (by omega) (zp_r0 (by omega) (by omega)) ?_
        refine zp_iald (j := (8 * pl + mi)) (v := (G b54 (2000 + (8 * pl + mi)))) (pc := 39) hx hb hw (zd_X12_goRound (39, .iaload, 1, 0, []) (List.mem_of_getElem? (i := 25) rfl)) (show zp_ia 1 88 = some (64, 0, 0, (-2147483648), 2147483647) from rfl) q54 (by omega) (by omega) rfl (fun hk219 => ?_)
        have hk219b := zp_int hk219
        refine zp_bin (o := 0) (la := -2147483648) (ha := 2147483647) (lb := -2147483648) (hb' := 2147483647) (pc := 40) hx hb (zd_X12_goRound (40, .iadd, 1, 0, []) (List.mem_of_getElem? (i := 26) rfl)) rfl (fun h => absurd h (by decide)) (by omega) (by omega) (by omega) (by omega) (fun x220 r_x220 _ _ => ?_)
        have i_x220 := zp_rg0 r_x220
        refine zp_i2l (pc := 41) hx hb (zd_X12_goRound (41, .i2l, 1, 0, []) (List.mem_of_getElem? (i := 27) rfl)) ?_
        refine zp_const (pc := 42) hx hb (zd_X12_goRound (42, .iconst 0, 1, 0, []) (List.mem_of_getElem? (i := 28) rfl)) rfl rfl ?_
        refine zp_ldcw (pc := 43) hx hb hE (zd_X12_goRound (43, .ldc_w 456, 3, 0, []) (List.mem_of_getElem? (i := 29) rfl)) (j := 109) rfl ?_
        refine zp_call (pc := 46) (how := 1) (idx := 427) (mi := 245) (S := []) hx hb hE hw heff hrm (zp_plain (zq_1062 hW)) rfl (j := 45) rfl rfl (by decide +kernel) (zd_X12_goRound (46, .invokestatic 427, 3, 0, []) (List.mem_of_getElem? (i := 30) rfl)) [x220, 0, 100000000] rfl ⟨zp_o1 (zp_r1 (by omega) (by omega)), zp_o0 (by decide) (by decide) (by decide) (by decide), zp_o0 (by decide) (by decide) (by decide) (by decide), trivial⟩ (Nat.le_of_ble_eq_true rfl) trivial (fun al hal rny Py Gy hexty hfry hoky hcsy hpsiy => ?_)
        obtain rfl := List.mem_singleton.mp hal
        have hry := zp_int (hoky _ rfl).1
        have q54y := hexty _ _ q54
        have e54y : Gy a 54 = (b54 : Int) := (zp_nf hfry hsr.1 rfl).trans e54
        have srby := hsr
        obtain ⟨sry, z50y, z51y⟩ := sr_fr srby hexty hfry (by decide +kernel)
        have hFy : gr_F a n Gy := gr_fr hF hsr.2.2.2.2.2.2.1 hsr.2.2.2.2.2.2.2.1 sry.2.2.2.2.2.2.1 sry.2.2.2.2.2.2.2.1 z50y z51y
        refine zp_store (L' := [(3, 0, rny), (5, 0, (mi : Int)), (4, 0, (k : Int)), (2, 0, (pl : Int)), (0, 2, (a : Int)), (1, 0, (n : Int))]) (pc := 49) hx hb hnL (zd_X12_goRound (49, .istore_n 3, 1, 0, []) (List.mem_of_getElem? (i := 31) rfl)) rfl rfl rfl ?_
        refine zp_load (pc := 50) hx hb (zd_X12_goRound (50, .iload 5, 2, 0, []) (List.mem_of_getElem? (i := 32) rfl)) rfl (j := 1) rfl ?_
        refine zp_store (L' := [(2, 0, (mi : Int)), (3, 0, rny), (5, 0, (mi : Int)), (4, 0, (k : Int)), (0, 2, (a : Int)), (1, 0, (n : Int))]) (pc := 52) hx hb hnL (zd_X12_goRound (52, .istore_n 2, 1, 0, []) (List.mem_of_getElem? (i := 33) rfl)) rfl rfl rfl ?_
        refine zp_iinc (L' := [(4, 0, ((k : Int) + 1)), (2, 0, (mi : Int)), (3, 0, rny), (5, 0, (mi : Int)), (0, 2, (a : Int)), (1, 0, (n : Int))]) (n := ((k : Int) + 1)) (pc := 53) hx hb hnL (zd_X12_goRound (53, .iinc 4 1, 3, 0, []) (List.mem_of_getElem? (i := 34) rfl)) (j := 3) rfl (by omega) (zp_r0 (by omega) (by omega)) rfl rfl ?_
        refine zp_goto (tgt := 7) (pc := 56) hx hb (zd_X12_goRound (56, .goto (-49), 3, 0, []) (List.mem_of_getElem? (i := 35) rfl)) rfl ?_
        refine zp_drop (L' := [(4, 0, ((k : Int) + 1)), (3, 0, rny), (2, 0, (mi : Int)), (0, 2, (a : Int)), (1, 0, (n : Int))]) (by simp) ?_
        exact ih (k + 1) mi rny Py Gy (by omega) (by omega) (by omega) (by omega) (by omega) sry q54y e54y hFy
  refine zp_const (pc := 0) hx hb (zd_X12_goRound (0, .iconst 0, 1, 0, []) (List.mem_of_getElem? (i := 0) rfl)) rfl rfl ?_
  refine zp_store (L' := [(2, 0, 0), (0, 2, (a : Int)), (1, 0, (n : Int))]) (pc := 1) hx hb hnL (zd_X12_goRound (1, .istore_n 2, 1, 0, []) (List.mem_of_getElem? (i := 1) rfl)) rfl rfl rfl ?_
  refine zp_const (pc := 2) hx hb (zd_X12_goRound (2, .iconst 0, 1, 0, []) (List.mem_of_getElem? (i := 2) rfl)) rfl rfl ?_
  refine zp_store (L' := [(3, 0, 0), (2, 0, 0), (0, 2, (a : Int)), (1, 0, (n : Int))]) (pc := 3) hx hb hnL (zd_X12_goRound (3, .istore_n 3, 1, 0, []) (List.mem_of_getElem? (i := 3) rfl)) rfl rfl rfl ?_
  refine zp_const (pc := 4) hx hb (zd_X12_goRound (4, .iconst 0, 1, 0, []) (List.mem_of_getElem? (i := 4) rfl)) rfl rfl ?_
  refine zp_store (L' := [(4, 0, 0), (3, 0, 0), (2, 0, 0), (0, 2, (a : Int)), (1, 0, (n : Int))]) (pc := 5) hx hb hnL (zd_X12_goRound (5, .istore 4, 2, 0, []) (List.mem_of_getElem? (i := 5) rfl)) rfl rfl rfl ?_
  refine zp_drop (L' := [(4, 0, ((0 : Nat) : Int)), (3, 0, 0), (2, 0, ((0 : Nat) : Int)), (0, 2, (a : Int)), (1, 0, (n : Int))]) (by simp) ?_
  exact loop (n + 1) 0 0 0 _ _ (by omega) (by omega) (by omega) (by decide) (by decide) hsr hq54 hb54 hφ
noncomputable def zK_rd : zk_K := (zt_mn 271, prog_14_method_96_code, 8, (Option.some Jvm.ClassFile.FieldType.int), 1, 12, [(2, 13, 0, 0), (0, 0, (-2147483648), 2147483647), (0, 0, (-2147483648), 2147483647)], [(some (0, 0, (-2147483648), 2147483647), [])], [(13, 0, 0), (85, 1001, 0), (86, 1001, 0), (87, 1001, 0), (88, 1002, 0)], (2, 90, 0, 0))
noncomputable def zψ_rd : (Nat → Option Nat) → (Nat → Nat → Int) → List Int → (Nat → Option Nat) → (Nat → Nat → Int) → Int → Prop := fun P G ps P' G' rn => True
theorem zX_rd {l : Launch} {w : zk_W} (hW : zh_W w) : zk_metX l w zt_dv zt_TB zK_rd (zp_A zp_tA) (zp_B zψ_rd) ∧ zk_cok w zt_TB zK_rd := by
  refine zp_meth hW (pl := 1937) rfl (by decide +kernel) (fun p e R s m args below meth c Q u hx hb hE hQ hU5 heff hnL hok hφ => ?_)
  have hw := hW.1
  obtain ⟨p0, p1, p2, hps, k0, k1, k2⟩ := zp_ps3 hok
  obtain ⟨a, rfl, hp⟩ := zp_this k0
  have hrm : zk_Kr (zk_ev (zp_E zK_rd)) = zk_Kr zK_rd := rfl
  rw [hps] at hφ ⊢
  have hi1 := zp_int k1
  have hi2 := zp_int k2
  show zp_J p l e R s m args below meth c Q w u [] 0 [(0, 2, (a : Int)), (1, 0, p1), (2, 0, p2)] [] u.1 (zp_n u.2.1)
  refine zp_kn (k := 3) (a := a) hw (show zp_fd 13 3 = some (12, 2, 59, 0, 0) from rfl) rfl hp (fun hk3 => ?_)
  obtain ⟨b3, hb3, hq3⟩ := zp_this hk3
  refine zp_kn (k := 50) (a := a) hw (show zp_fd 13 50 = some (12, 2, 85, 0, 0) from rfl) rfl hp (fun hk50 => ?_)
  obtain ⟨b50, hb50, hq50⟩ := zp_this hk50
  refine zp_kn (k := 51) (a := a) hw (show zp_fd 13 51 = some (12, 2, 86, 0, 0) from rfl) rfl hp (fun hk51 => ?_)
  obtain ⟨b51, hb51, hq51⟩ := zp_this hk51
  refine zp_kn (k := 52) (a := a) hw (show zp_fd 13 52 = some (12, 2, 87, 0, 0) from rfl) rfl hp (fun hk52 => ?_)
  obtain ⟨b52, hb52, hq52⟩ := zp_this hk52
  have hsr : sr_I a b3 b50 b51 b52 u.1 (zp_n u.2.1) := ⟨hp, hq3, hq50, hq51, hq52, hb3, hb50, hb51, hb52⟩
  have h240 : ∀ (n : Nat) (j best : Int) (P : Nat → Option Nat) (G : Nat → Nat → Int), n ≤ 7 → -1 ≤ p2 → p2 ≤ (n : Int) - 1 → -2147483648 ≤ best → best ≤ 2147483647 → sr_I a b3 b50 b51 b52 P G → zp_J p l e R s m args below meth c Q w u [] 240 [(5, 0, j), (4, 0, best), (3, 0, (n : Int)), (0, 2, (a : Int)), (1, 0, p1), (2, 0, p2)] [] P G := by
    intro n j best P G hn h31 h32 hb1 hb2 hsr
    refine zp_load (pc := 240) hx hb (zd_X12_round (240, .iload 4, 2, 0, []) (List.mem_of_getElem? (i := 127) rfl)) rfl (j := 1) rfl ?_
    refine zp_ldcw (pc := 242) hx hb hE (zd_X12_round (242, .ldc_w 456, 3, 0, []) (List.mem_of_getElem? (i := 128) rfl)) (j := 109) rfl ?_
    refine zp_icmp (pc := 245) (tgt := 252) hx hb (zd_X12_round (245, .if_icmp .lt 7, 3, 0, []) (List.mem_of_getElem? (i := 129) rfl)) rfl (fun (hc221 : best < 100000000) => ?_) (fun (hc221 : ¬ (best < 100000000)) => ?_)
    · refine zp_load (pc := 252) hx hb (zd_X12_round (252, .iload_n 2, 1, 0, []) (List.mem_of_getElem? (i := 132) rfl)) rfl (j := 5) rfl ?_
      refine zp_const (pc := 253) hx hb (zd_X12_round (253, .iconst (-1), 1, 0, []) (List.mem_of_getElem? (i := 133) rfl)) rfl rfl ?_
      refine zp_icmp (pc := 254) (tgt := 262) hx hb (zd_X12_round (254, .if_icmp .ne 8, 3, 0, []) (List.mem_of_getElem? (i := 134) rfl)) rfl (fun (hc222 : ¬ p2 = (-1)) => ?_) (fun (hc222 : ¬ (¬ p2 = (-1))) => ?_)
      · refine zp_load (pc := 262) hx hb (zd_X12_round (262, .aload_n 0, 1, 0, []) (List.mem_of_getElem? (i := 137) rfl)) rfl (j := 3) rfl ?_
        refine zp_getf (n := (b52 : Int)) (pc := 263) hx hb hE hw (zd_X12_round (263, .getfield 140, 3, 0, []) (List.mem_of_getElem? (i := 138) rfl)) (j := 70) rfl rfl rfl hsr.1 hsr.2.2.2.2.2.2.2.2 ?_
        refine zp_load (pc := 266) hx hb (zd_X12_round (266, .iload_n 2, 1, 0, []) (List.mem_of_getElem? (i := 139) rfl)) rfl (j := 5) rfl ?_
        obtain ⟨i3, hi3⟩ := zp_nat (n := p2) (by omega)
        subst hi3
        refine zp_iald (j := i3) (v := (G b52 (2000 + i3))) (pc := 267) hx hb hw (zd_X12_round (267, .iaload, 1, 0, []) (List.mem_of_getElem? (i := 140) rfl)) (show zp_ia 1 87 = some (7, 0, 0, (-2147483648), 2147483647) from rfl) hsr.2.2.2.2.1 (by omega) (by omega) rfl (fun hk223 => ?_)
        have hk223b := zp_int hk223
        refine zp_iret (pc := 268) (n := (G b52 (2000 + i3))) hx hb hE hQ hU5 rfl (by decide) (zd_X12_round (268, .ireturn, 1, 0, []) (List.mem_of_getElem? (i := 141) rfl)) (j := 0) rfl (zp_o0 (by omega) (by omega) (by omega) (by omega)) ?_
        rw [hps]
        trivial
      · refine zp_load (pc := 257) hx hb (zd_X12_round (257, .iload 4, 2, 0, []) (List.mem_of_getElem? (i := 135) rfl)) rfl (j := 1) rfl ?_
        refine zp_goto (tgt := 268) (pc := 259) hx hb (zd_X12_round (259, .goto 9, 3, 0, []) (List.mem_of_getElem? (i := 136) rfl)) rfl ?_
        refine zp_iret (pc := 268) (n := best) hx hb hE hQ hU5 rfl (by decide) (zd_X12_round (268, .ireturn, 1, 0, []) (List.mem_of_getElem? (i := 141) rfl)) (j := 0) rfl (zp_o0 (by omega) (by omega) (by omega) (by omega)) ?_
        rw [hps]
        trivial
    · refine zp_const (pc := 248) hx hb (zd_X12_round (248, .iconst (-1), 1, 0, []) (List.mem_of_getElem? (i := 130) rfl)) rfl rfl ?_
      refine zp_goto (tgt := 268) (pc := 249) hx hb (zd_X12_round (249, .goto 19, 3, 0, []) (List.mem_of_getElem? (i := 131) rfl)) rfl ?_
      refine zp_iret (pc := 268) (n := (-1)) hx hb hE hQ hU5 rfl (by decide) (zd_X12_round (268, .ireturn, 1, 0, []) (List.mem_of_getElem? (i := 141) rfl)) (j := 0) rfl (zp_o0 (by omega) (by omega) (by omega) (by omega)) ?_
      rw [hps]
      trivial
  have search : ∀ (n : Nat), n ≤ 7 → ∀ (d lv : Nat) (T : Nat → Int) (v j best : Int) (P : Nat → Option Nat) (G : Nat → Nat → Int), j = (lv : Int) → -2147483648 ≤ best → best ≤ 2147483647 → lv + d + 1 = n → sr_I a b3 b50 b51 b52 P G → sr_M a n 7 G → (∀ q, q < lv → zv G a 51 q = T q) → (∀ q, q < lv → 0 ≤ T q ∧ T q < (n : Int)) → zv G a 51 lv = v → -1 ≤ v → v < (n : Int) → (∀ (j best : Int) (P : Nat → Option Nat) (G : Nat → Nat → Int), j = (lv : Int) - 1 → -2147483648 ≤ best → best ≤ 2147483647 → sr_I a b3 b50 b51 b52 P G → sr_M a n 7 G → (∀ q, q < lv → zv G a 51 q = T q) → zp_J p l e R s m args below meth c Q w u [] 109 [(5, 0, j), (4, 0, best), (3, 0, (n : Int)), (0, 2, (a : Int)), (1, 0, p1), (2, 0, p2)] [] P G) → zp_J p l e R s m args below meth c Q w u [] 109 [(5, 0, j), (4, 0, best), (3, 0, (n : Int)), (0, 2, (a : Int)), (1, 0, p1), (2, 0, p2)] [] P G := by
    clear h240
    intro n hn6 d
    induction d using Nat.strongRecOn with
    | _ d ihd =>
      intro lv T v j best P G hj hbb1 hbb2 hd hsr hM hT hTb hv hv1 hv2 hH
      have inner : ∀ (m0 : Nat) (v j best : Int) (P : Nat → Option Nat) (G : Nat → Nat → Int), ((n : Int) - v).toNat < m0 → j = (lv : Int) → -2147483648 ≤ best → best ≤ 2147483647 → sr_I a b3 b50 b51 b52 P G → sr_M a n 7 G → (∀ q, q < lv → zv G a 51 q = T q) → zv G a 51 lv = v → -1 ≤ v → v < (n : Int) → zp_J p l e R s m args below meth c Q w u [] 109 [(5, 0, j), (4, 0, best), (3, 0, (n : Int)), (0, 2, (a : Int)), (1, 0, p1), (2, 0, p2)] [] P G := by
        intro m0
        induction m0 with
        | zero => intro v j best P G h; exact absurd h (Nat.not_lt_zero _)
        | succ m0 ih =>
          intro v j best P G hm hj hb1 hb2 hsr hM hT hv hv1 hv2
          subst hj
          have leaf : ∀ (m1 k : Nat) (r6 : Int) (P : Nat → Option Nat) (G : Nat → Nat → Int), n - k < m1 → k ≤ n → 0 ≤ r6 → r6 ≤ 100000000 → v + 1 < (n : Int) → sr_I a b3 b50 b51 b52 P G → sr_M a n 7 G → gr_F a n G → (∀ q, q < lv → zv G a 51 q = T q) → zv G a 51 lv = v + 1 → zp_J p l e R s m args below meth c Q w u [] 169 [(7, 0, (k : Int)), (6, 0, r6), (5, 0, (lv : Int)), (4, 0, best), (3, 0, (n : Int)), (0, 2, (a : Int)), (1, 0, p1), (2, 0, p2)] [] P G := by
            intro m1
            induction m1 with
            | zero => intro k r6 P G h; exact absurd h (Nat.not_lt_zero _)
            | succ m1 ihm =>
              intro k r6 P G hm1 hk h60 h61 hvn hsr hM hF hT hv
              refine zp_load (pc := 169) hx hb (zd_X12_round (169, .iload 7, 2, 0, []) (List.mem_of_getElem? (i := 93) rfl)) rfl (j := 0) rfl ?_
              refine zp_load (pc := 171) hx hb (zd_X12_round (171, .iload_n 3, 1, 0, []) (List.mem_of_getElem? (i := 94) rfl)) rfl (j := 4) rfl ?_
              refine zp_icmp (pc := 172) (tgt := 207) hx hb (zd_X12_round (172, .if_icmp .ge 35, 3, 0, []) (List.mem_of_getElem? (i := 95) rfl)) rfl (fun (hc224 : (n : Int) ≤ (k : Int)) => ?_) (fun (hc224 : ¬ ((n : Int) ≤ (k : Int))) => ?_)
              · refine zp_load (pc := 207) hx hb (zd_X12_round (207, .iload 6, 2, 0, []) (List.mem_of_getElem? (i := 112) rfl)) rfl (j := 1) rfl ?_
                refine zp_load (pc := 209) hx hb (zd_X12_round (209, .iload 4, 2, 0, []) (List.mem_of_getElem? (i := 113) rfl)) rfl (j := 3) rfl ?_
                refine zp_icmp (pc := 211) (tgt := 219) hx hb (zd_X12_round (211, .if_icmp .ge 8, 3, 0, []) (List.mem_of_getElem? (i := 114) rfl)) rfl (fun (hc225 : best ≤ r6) => ?_) (fun (hc225 : ¬ (best ≤ r6)) => ?_)
                · refine zp_load (pc := 219) hx hb (zd_X12_round (219, .iload 4, 2, 0, []) (List.mem_of_getElem? (i := 117) rfl)) rfl (j := 3) rfl ?_
                  refine zp_store (L' := [(4, 0, best), (7, 0, (k : Int)), (6, 0, r6), (5, 0, (lv : Int)), (3, 0, (n : Int)), (0, 2, (a : Int)), (1, 0, p1), (2, 0, p2)]) (pc := 221) hx hb hnL (zd_X12_round (221, .istore 4, 2, 0, []) (List.mem_of_getElem? (i := 118) rfl)) rfl rfl rfl ?_
                  refine zp_goto (tgt := 109) (pc := 223) hx hb (zd_X12_round (223, .goto (-114), 3, 0, []) (List.mem_of_getElem? (i := 119) rfl)) rfl ?_
                  refine zp_drop (L' := [(5, 0, (lv : Int)), (4, 0, best), (3, 0, (n : Int)), (0, 2, (a : Int)), (1, 0, p1), (2, 0, p2)]) (by simp) ?_
                  exact ih (v + 1) _ best P G (by omega) rfl (by omega) (by omega) hsr hM hT hv (by omega) (by omega)
                · refine zp_load (pc := 214) hx hb (zd_X12_round (214, .iload 6, 2, 0, []) (List.mem_of_getElem? (i := 115) rfl)) rfl (j := 1) rfl ?_
                  refine zp_goto (tgt := 221) (pc := 216) hx hb (zd_X12_round (216, .goto 5, 3, 0, []) (List.mem_of_getElem? (i := 116) rfl)) rfl ?_
                  refine zp_store (L' := [(4, 0, r6), (7, 0, (k : Int)), (6, 0, r6), (5, 0, (lv : Int)), (3, 0, (n : Int)), (0, 2, (a : Int)), (1, 0, p1), (2, 0, p2)]) (pc := 221) hx hb hnL (zd_X12_round (221, .istore 4, 2, 0, []) (List.mem_of_getElem? (i := 118) rfl)) rfl rfl rfl ?_
                  refine zp_goto (tgt := 109) (pc := 223) hx hb (zd_X12_round (223, .goto (-114), 3, 0, []) (List.mem_of_getElem? (i := 119) rfl)) rfl ?_
                  refine zp_drop (L' := [(5, 0, (lv : Int)), (4, 0, r6), (3, 0, (n : Int)), (0, 2, (a : Int)), (1, 0, p1), (2, 0, p2)]) (by simp) ?_
                  exact ih (v + 1) _ r6 P G (by omega) rfl (by omega) (by omega) hsr hM hT hv (by omega) (by omega)
              · refine zp_load (pc := 175) hx hb (zd_X12_round (175, .iload 6, 2, 0, []) (List.mem_of_getElem? (i := 96) rfl)) rfl (j := 1) rfl ?_
                refine zp_load (pc := 177) hx hb (zd_X12_round (177, .iload 4, 2, 0, []) (List.mem_of_getElem? (i := 97) rfl)) rfl (j := 3) rfl ?_
                refine zp_icmp (pc := 179) (tgt := 207) hx hb (zd_X12_round (179, .if_icmp .ge 28, 3, 0, []) (List.mem_of_getElem? (i := 98) rfl)) rfl (fun (hc226 : best ≤ r6) => ?_) (fun (hc226 : ¬ (best ≤ r6)) => ?_)
                · refine zp_load (pc := 207) hx hb (zd_X12_round (207, .iload 6, 2, 0, []) (List.mem_of_getElem? (i := 112) rfl)) rfl (j := 1) rfl ?_
                  refine zp_load (pc := 209) hx hb (zd_X12_round (209, .iload 4, 2, 0, []) (List.mem_of_getElem? (i := 113) rfl)) rfl (j := 3) rfl ?_
                  refine zp_icmp (pc := 211) (tgt := 219) hx hb (zd_X12_round (211, .if_icmp .ge 8, 3, 0, []) (List.mem_of_getElem? (i := 114) rfl)) rfl (fun (hc227 : best ≤ r6) => ?_) (fun (hc227 : ¬ (best ≤ r6)) => ?_)
                  · refine zp_load (pc := 219) hx hb (zd_X12_round (219, .iload 4, 2, 0, []) (List.mem_of_getElem? (i := 117) rfl)) rfl (j := 3) rfl ?_
                    refine zp_store (L' := [(4, 0, best), (7, 0, (k : Int)), (6, 0, r6), (5, 0, (lv : Int)), (3, 0, (n : Int)), (0, 2, (a : Int)), (1, 0, p1), (2, 0, p2)]) (pc := 221) hx hb hnL (zd_X12_round (221, .istore 4, 2, 0, []) (List.mem_of_getElem? (i := 118) rfl)) rfl rfl rfl ?_
                    refine zp_goto (tgt := 109) (pc := 223) hx hb (zd_X12_round (223, .goto (-114), 3, 0, []) (List.mem_of_getElem? (i := 119) rfl)) rfl ?_
                    refine zp_drop (L' := [(5, 0, (lv : Int)), (4, 0, best), (3, 0, (n : Int)), (0, 2, (a : Int)), (1, 0, p1), (2, 0, p2)]) (by simp) ?_
                    exact ih (v + 1) _ best P G (by omega) rfl (by omega) (by omega) hsr hM hT hv (by omega) (by omega)
                  · refine zp_load (pc := 214) hx hb (zd_X12_round (214, .iload 6, 2, 0, []) (List.mem_of_getElem? (i := 115) rfl)) rfl (j := 1) rfl ?_
                    refine zp_goto (tgt := 221) (pc := 216) hx hb (zd_X12_round (216, .goto 5, 3, 0, []) (List.mem_of_getElem? (i := 116) rfl)) rfl ?_
                    refine zp_store (L' := [(4, 0, r6), (7, 0, (k : Int)), (6, 0, r6), (5, 0, (lv : Int)), (3, 0, (n : Int)), (0, 2, (a : Int)), (1, 0, p1), (2, 0, p2)]) (pc := 221) hx hb hnL (zd_X12_round (221, .istore 4, 2, 0, []) (List.mem_of_getElem? (i := 118) rfl)) rfl rfl rfl ?_
                    refine zp_goto (tgt := 109) (pc := 223) hx hb (zd_X12_round (223, .goto (-114), 3, 0, []) (List.mem_of_getElem? (i := 119) rfl)) rfl ?_
                    refine zp_drop (L' := [(5, 0, (lv : Int)), (4, 0, r6), (3, 0, (n : Int)), (0, 2, (a : Int)), (1, 0, p1), (2, 0, p2)]) (by simp) ?_
                    exact ih (v + 1) _ r6 P G (by omega) rfl (by omega) (by omega) hsr hM hT hv (by omega) (by omega)
                · refine zp_load (pc := 182) hx hb (zd_X12_round (182, .aload_n 0, 1, 0, []) (List.mem_of_getElem? (i := 99) rfl)) rfl (j := 5) rfl ?_
                  refine zp_getf (n := (b52 : Int)) (pc := 183) hx hb hE hw (zd_X12_round (183, .getfield 140, 3, 0, []) (List.mem_of_getElem? (i := 100) rfl)) (j := 70) rfl rfl rfl hsr.1 hsr.2.2.2.2.2.2.2.2 ?_
                  refine zp_load (pc := 186) hx hb (zd_X12_round (186, .iload 7, 2, 0, []) (List.mem_of_getElem? (i := 101) rfl)) rfl (j := 0) rfl ?_
                  refine zp_load (pc := 188) hx hb (zd_X12_round (188, .aload_n 0, 1, 0, []) (List.mem_of_getElem? (i := 102) rfl)) rfl (j := 5) rfl ?_
                  refine zp_getf (n := (b50 : Int)) (pc := 189) hx hb hE hw (zd_X12_round (189, .getfield 134, 3, 0, []) (List.mem_of_getElem? (i := 103) rfl)) (j := 68) rfl rfl rfl hsr.1 hsr.2.2.2.2.2.2.1 ?_
                  refine zp_load (pc := 192) hx hb (zd_X12_round (192, .aload_n 0, 1, 0, []) (List.mem_of_getElem? (i := 104) rfl)) rfl (j := 5) rfl ?_
                  refine zp_getf (n := (b51 : Int)) (pc := 193) hx hb hE hw (zd_X12_round (193, .getfield 137, 3, 0, []) (List.mem_of_getElem? (i := 105) rfl)) (j := 69) rfl rfl rfl hsr.1 hsr.2.2.2.2.2.2.2.1 ?_
                  refine zp_load (pc := 196) hx hb (zd_X12_round (196, .iload 7, 2, 0, []) (List.mem_of_getElem? (i := 106) rfl)) rfl (j := 0) rfl ?_
                  obtain ⟨m1_, m2, m3⟩ := hF k (by omega)
                  obtain ⟨ti, hti⟩ := zp_nat m1_
                  rw [hti, Int.toNat_natCast] at m2 m3
                  obtain ⟨mi, hmi⟩ := zp_nat m2
                  rw [hmi] at m3
                  have ht51 : G b51 (2000 + k) = (ti : Int) := (zv_eq hsr.2.2.2.2.2.2.2.1 k).symm.trans hti
                  have hm50 : G b50 (2000 + ti) = (mi : Int) := (zv_eq hsr.2.2.2.2.2.2.1 ti).symm.trans hmi
                  refine zp_iald (j := k) (v := (ti : Int)) (pc := 198) hx hb hw (zd_X12_round (198, .iaload, 1, 0, []) (List.mem_of_getElem? (i := 107) rfl)) (show zp_ia 1 86 = some (7, 0, 0, (-1), 7) from rfl) hsr.2.2.2.1 (by omega) (by omega) ht51 (fun hk228 => ?_)
                  have hk228b := zp_int hk228
                  refine zp_iald (j := ti) (v := (mi : Int)) (pc := 199) hx hb hw (zd_X12_round (199, .iaload, 1, 0, []) (List.mem_of_getElem? (i := 108) rfl)) (show zp_ia 1 85 = some (10, 0, 0, 0, 10) from rfl) hsr.2.2.1 (by omega) (by omega) hm50 (fun hk229 => ?_)
                  have hk229b := zp_int hk229
                  refine zp_iast (j := k) (pc := 200) hx hb hw heff (zd_X12_round (200, .iastore, 1, 0, []) (List.mem_of_getElem? (i := 109) rfl)) (show zp_ia 1 87 = some (7, 0, 0, (-2147483648), 2147483647) from rfl) hsr.2.2.2.2.1 (by omega) (by omega) (zp_o0 (by omega) (by omega) (by omega) (by omega)) rfl ?_
                  refine zp_iinc (L' := [(7, 0, ((k : Int) + 1)), (6, 0, r6), (5, 0, (lv : Int)), (4, 0, best), (3, 0, (n : Int)), (0, 2, (a : Int)), (1, 0, p1), (2, 0, p2)]) (n := ((k : Int) + 1)) (pc := 201) hx hb hnL (zd_X12_round (201, .iinc 7 1, 3, 0, []) (List.mem_of_getElem? (i := 110) rfl)) (j := 0) rfl (by omega) (zp_r0 (by omega) (by omega)) rfl rfl ?_
                  refine zp_goto (tgt := 169) (pc := 204) hx hb (zd_X12_round (204, .goto (-35), 3, 0, []) (List.mem_of_getElem? (i := 111) rfl)) rfl ?_
                  have srz : sr_I a b3 b50 b51 b52 P (zp_set G b52 (2000 + k) (mi : Int)) := (sr_set (k := 2000 + k) (v := (mi : Int)) hsr hsr.2.2.2.2.1 rfl)
                  have e51z : ∀ q, zv (zp_set G b52 (2000 + k) (mi : Int)) a 51 q = zv G a 51 q := fun q => by rw [zv_eq srz.2.2.2.2.2.2.2.1, zv_eq hsr.2.2.2.2.2.2.2.1]; exact zp_set_ne (Or.inl (zp_pne hsr.2.2.2.1 hsr.2.2.2.2.1 (by decide)))
                  refine zp_drop (L' := [(7, 0, ((k : Int) + 1)), (6, 0, r6), (5, 0, (lv : Int)), (4, 0, best), (3, 0, (n : Int)), (0, 2, (a : Int)), (1, 0, p1), (2, 0, p2)]) (by simp) ?_
                  exact ihm (k + 1) r6 P _ (by omega) (by omega) h60 h61 hvn srz (sr_zv hM hsr.2.2.2.2.2.2.1 srz.2.2.2.2.2.2.1 (fun q _ => zp_set_ne (Or.inl (zp_pne hsr.2.2.1 hsr.2.2.2.2.1 (by decide))))) (gr_fr hF hsr.2.2.2.2.2.2.1 hsr.2.2.2.2.2.2.2.1 srz.2.2.2.2.2.2.1 srz.2.2.2.2.2.2.2.1 (fun k => zp_set_ne (Or.inl (zp_pne hsr.2.2.1 hsr.2.2.2.2.1 (by decide)))) (fun k => zp_set_ne (Or.inl (zp_pne hsr.2.2.2.1 hsr.2.2.2.2.1 (by decide))))) (fun q hq => (e51z q).trans (hT q hq)) ((e51z lv).trans hv)
          rw [zv_eq hsr.2.2.2.2.2.2.2.1] at hv
          refine zp_load (pc := 109) hx hb (zd_X12_round (109, .iload 5, 2, 0, []) (List.mem_of_getElem? (i := 60) rfl)) rfl (j := 0) rfl ?_
          refine zp_if (pc := 111) (tgt := 240) hx hb (zd_X12_round (111, .ifCond .lt 129, 3, 0, []) (List.mem_of_getElem? (i := 61) rfl)) rfl (fun (hc230 : (lv : Int) < 0) => ?_) (fun (hc230 : ¬ ((lv : Int) < 0)) => ?_)
          · exfalso
            omega
          · refine zp_load (pc := 114) hx hb (zd_X12_round (114, .aload_n 0, 1, 0, []) (List.mem_of_getElem? (i := 62) rfl)) rfl (j := 3) rfl ?_
            refine zp_getf (n := (b51 : Int)) (pc := 115) hx hb hE hw (zd_X12_round (115, .getfield 137, 3, 0, []) (List.mem_of_getElem? (i := 63) rfl)) (j := 69) rfl rfl rfl hsr.1 hsr.2.2.2.2.2.2.2.1 ?_
            refine zp_load (pc := 118) hx hb (zd_X12_round (118, .iload 5, 2, 0, []) (List.mem_of_getElem? (i := 64) rfl)) rfl (j := 0) rfl ?_
            refine zp_dup2 (pc := 120) hx hb (zd_X12_round (120, .dup2, 1, 0, []) (List.mem_of_getElem? (i := 65) rfl)) (show (0 : Nat) ≠ 1 by decide) (show (2 : Nat) ≠ 1 by decide) ?_
            refine zp_iald (j := lv) (v := v) (pc := 121) hx hb hw (zd_X12_round (121, .iaload, 1, 0, []) (List.mem_of_getElem? (i := 66) rfl)) (show zp_ia 1 86 = some (7, 0, 0, (-1), 7) from rfl) hsr.2.2.2.1 (by omega) (by omega) hv (fun hk231 => ?_)
            have hk231b := zp_int hk231
            refine zp_const (pc := 122) hx hb (zd_X12_round (122, .iconst 1, 1, 0, []) (List.mem_of_getElem? (i := 67) rfl)) rfl rfl ?_
            refine zp_add (n := (v + 1)) (pc := 123) hx hb (zd_X12_round (123, .iadd, 1, 0, []) (List.mem_of_getElem? (i := 68) rfl)) (by omega) (zp_r0 (by omega) (by omega)) ?_
            refine zp_iast (j := lv) (pc := 124) hx hb hw heff (zd_X12_round (124, .iastore, 1, 0, []) (List.mem_of_getElem? (i := 69) rfl)) (show zp_ia 1 86 = some (7, 0, 0, (-1), 7) from rfl) hsr.2.2.2.1 (by omega) (by omega) (zp_o0 (by omega) (by omega) (by omega) (by omega)) rfl ?_
            refine zp_load (pc := 125) hx hb (zd_X12_round (125, .aload_n 0, 1, 0, []) (List.mem_of_getElem? (i := 70) rfl)) rfl (j := 3) rfl ?_
            refine zp_getf (n := (b51 : Int)) (pc := 126) hx hb hE hw (zd_X12_round (126, .getfield 137, 3, 0, []) (List.mem_of_getElem? (i := 71) rfl)) (j := 69) rfl rfl rfl hsr.1 ((zp_set_ne (Or.inl (zp_pne hsr.1 hsr.2.2.2.1 (by decide)))).trans (hsr.2.2.2.2.2.2.2.1)) ?_
            refine zp_load (pc := 129) hx hb (zd_X12_round (129, .iload 5, 2, 0, []) (List.mem_of_getElem? (i := 72) rfl)) rfl (j := 0) rfl ?_
            refine zp_iald (j := lv) (v := (v + 1)) (pc := 131) hx hb hw (zd_X12_round (131, .iaload, 1, 0, []) (List.mem_of_getElem? (i := 73) rfl)) (show zp_ia 1 86 = some (7, 0, 0, (-1), 7) from rfl) hsr.2.2.2.1 (by omega) (by omega) zp_set_self (fun hk232 => ?_)
            have hk232b := zp_int hk232
            refine zp_load (pc := 132) hx hb (zd_X12_round (132, .iload_n 3, 1, 0, []) (List.mem_of_getElem? (i := 74) rfl)) rfl (j := 2) rfl ?_
            refine zp_icmp (pc := 133) (tgt := 142) hx hb (zd_X12_round (133, .if_icmp .ne 9, 3, 0, []) (List.mem_of_getElem? (i := 75) rfl)) rfl (fun (hc233 : ¬ (v + 1) = (n : Int)) => ?_) (fun (hc233 : ¬ (¬ (v + 1) = (n : Int))) => ?_)
            · refine zp_load (pc := 142) hx hb (zd_X12_round (142, .aload_n 0, 1, 0, []) (List.mem_of_getElem? (i := 78) rfl)) rfl (j := 3) rfl ?_
              refine zp_load (pc := 143) hx hb (zd_X12_round (143, .iload 5, 2, 0, []) (List.mem_of_getElem? (i := 79) rfl)) rfl (j := 0) rfl ?_
              refine zp_call (pc := 145) (how := 0) (idx := 475) (mi := 260) (S := []) hx hb hE hw heff hrm (zX_if hW) rfl (j := 55) rfl rfl (by decide +kernel) (zd_X12_round (145, .invokevirtual 475, 3, 0, []) (List.mem_of_getElem? (i := 80) rfl)) [(a : Int), (lv : Int)] rfl ⟨zp_o2 hsr.1, zp_o0 (by omega) (by omega) (by omega) (by omega), trivial⟩ (Nat.le_of_ble_eq_true rfl) trivial (fun al hal rnf Pf Gf hextf hfrf hokf hcsf hpsif => ?_)
              obtain rfl := List.mem_singleton.mp hal
              have hrf := zp_int (hokf _ rfl).1
              obtain ⟨hPef, hGef, htf⟩ := hpsif
              rw [hPef, hGef]
              refine zp_if (pc := 148) (tgt := 109) hx hb (zd_X12_round (148, .ifCond .eq (-39), 3, 0, []) (List.mem_of_getElem? (i := 81) rfl)) rfl (fun (hc234 : rnf = 0) => ?_) (fun (hc234 : ¬ (rnf = 0)) => ?_)
              · have srk235 : sr_I a b3 b50 b51 b52 P (zp_set G b51 (2000 + lv) (v + 1)) := (sr_set (k := 2000 + lv) (v := (v + 1)) hsr hsr.2.2.2.1 rfl)
                have mk235 : sr_M a n 7 (zp_set G b51 (2000 + lv) (v + 1)) := sr_zv hM hsr.2.2.2.2.2.2.1 srk235.2.2.2.2.2.2.1 (fun q _ => zp_set_ne (Or.inl (zp_pne hsr.2.2.1 hsr.2.2.2.1 (by decide))))
                have tk235 : ∀ q, q < lv → zv (zp_set G b51 (2000 + lv) (v + 1)) a 51 q = T q := fun q hq => by rw [← hT q hq, zv_eq srk235.2.2.2.2.2.2.2.1, zv_eq hsr.2.2.2.2.2.2.2.1]; exact zp_set_ne (Or.inr (by omega))
                exact ih (v + 1) _ best _ _ (by omega) rfl hb1 hb2 srk235 mk235 tk235 (by rw [zv_eq srk235.2.2.2.2.2.2.2.1]; exact zp_set_self) (by omega) (by omega)
              · refine zp_load (pc := 151) hx hb (zd_X12_round (151, .iload 5, 2, 0, []) (List.mem_of_getElem? (i := 82) rfl)) rfl (j := 0) rfl ?_
                refine zp_load (pc := 153) hx hb (zd_X12_round (153, .iload_n 3, 1, 0, []) (List.mem_of_getElem? (i := 83) rfl)) rfl (j := 2) rfl ?_
                refine zp_const (pc := 154) hx hb (zd_X12_round (154, .iconst 1, 1, 0, []) (List.mem_of_getElem? (i := 84) rfl)) rfl rfl ?_
                refine zp_sub (n := ((n : Int) - 1)) (pc := 155) hx hb (zd_X12_round (155, .isub, 1, 0, []) (List.mem_of_getElem? (i := 85) rfl)) (by omega) (zp_r0 (by omega) (by omega)) ?_
                refine zp_icmp (pc := 156) (tgt := 226) hx hb (zd_X12_round (156, .if_icmp .ne 70, 3, 0, []) (List.mem_of_getElem? (i := 86) rfl)) rfl (fun (hc236 : ¬ (lv : Int) = ((n : Int) - 1)) => ?_) (fun (hc236 : ¬ (¬ (lv : Int) = ((n : Int) - 1))) => ?_)
                · refine zp_iinc (L' := [(5, 0, ((lv : Int) + 1)), (4, 0, best), (3, 0, (n : Int)), (0, 2, (a : Int)), (1, 0, p1), (2, 0, p2)]) (n := ((lv : Int) + 1)) (pc := 226) hx hb hnL (zd_X12_round (226, .iinc 5 1, 3, 0, []) (List.mem_of_getElem? (i := 120) rfl)) (j := 0) rfl (by omega) (zp_r0 (by omega) (by omega)) rfl rfl ?_
                  refine zp_load (pc := 229) hx hb (zd_X12_round (229, .aload_n 0, 1, 0, []) (List.mem_of_getElem? (i := 121) rfl)) rfl (j := 3) rfl ?_
                  refine zp_getf (n := (b51 : Int)) (pc := 230) hx hb hE hw (zd_X12_round (230, .getfield 137, 3, 0, []) (List.mem_of_getElem? (i := 122) rfl)) (j := 69) rfl rfl rfl hsr.1 ((zp_set_ne (Or.inl (zp_pne hsr.1 hsr.2.2.2.1 (by decide)))).trans (hsr.2.2.2.2.2.2.2.1)) ?_
                  refine zp_load (pc := 233) hx hb (zd_X12_round (233, .iload 5, 2, 0, []) (List.mem_of_getElem? (i := 123) rfl)) rfl (j := 0) rfl ?_
                  refine zp_const (pc := 235) hx hb (zd_X12_round (235, .iconst (-1), 1, 0, []) (List.mem_of_getElem? (i := 124) rfl)) rfl rfl ?_
                  refine zp_iast (j := (lv + 1)) (pc := 236) hx hb hw heff (zd_X12_round (236, .iastore, 1, 0, []) (List.mem_of_getElem? (i := 125) rfl)) (show zp_ia 1 86 = some (7, 0, 0, (-1), 7) from rfl) hsr.2.2.2.1 (by omega) (by omega) (zp_o0 (by omega) (by omega) (by omega) (by omega)) rfl ?_
                  refine zp_goto (tgt := 109) (pc := 237) hx hb (zd_X12_round (237, .goto (-128), 3, 0, []) (List.mem_of_getElem? (i := 126) rfl)) rfl ?_
                  have srk237 : sr_I a b3 b50 b51 b52 P (zp_set (zp_set G b51 (2000 + lv) (v + 1)) b51 (2000 + (lv + 1)) (-1)) := (sr_set (k := 2000 + (lv + 1)) (v := (-1)) (sr_set (k := 2000 + lv) (v := (v + 1)) hsr hsr.2.2.2.1 rfl) hsr.2.2.2.1 rfl)
                  have mk237 : sr_M a n 7 (zp_set (zp_set G b51 (2000 + lv) (v + 1)) b51 (2000 + (lv + 1)) (-1)) := sr_zv hM hsr.2.2.2.2.2.2.1 srk237.2.2.2.2.2.2.1 (fun q _ => (zp_set_ne (Or.inl (zp_pne hsr.2.2.1 hsr.2.2.2.1 (by decide)))).trans (zp_set_ne (Or.inl (zp_pne hsr.2.2.1 hsr.2.2.2.1 (by decide)))))
                  refine ihd (d - 1) (by omega) (lv + 1) (fun q => if q = lv then v + 1 else T q) (-1) _ best _ _ (by omega) hb1 hb2 (by omega) srk237 mk237 (fun q hq => ?_) (fun q hq => ?_) (by rw [zv_eq srk237.2.2.2.2.2.2.2.1]; exact zp_set_eq rfl (by omega)) (by omega) (by omega) (fun j best P G hj hb1 hb2 hsr2 hM2 hT2 => ?_)
                  · show _ = if q = lv then v + 1 else T q
                    rw [zv_eq srk237.2.2.2.2.2.2.2.1]
                    by_cases hql : q = lv
                    · subst hql; rw [if_pos rfl]; exact (zp_set_ne (Or.inr (by omega))).trans zp_set_self
                    · rw [if_neg hql, ← hT q (by omega), zv_eq hsr.2.2.2.2.2.2.2.1]; exact (zp_set_ne (Or.inr (by omega))).trans (zp_set_ne (Or.inr (by omega)))
                  · show 0 ≤ (if q = lv then v + 1 else T q) ∧ (if q = lv then v + 1 else T q) < (n : Int)
                    by_cases hql : q = lv
                    · rw [if_pos hql]; omega
                    · rw [if_neg hql]; exact hTb q (by omega)
                  · refine ih (v + 1) j best P G (by omega) (by omega) hb1 hb2 hsr2 hM2 (fun q hq => ?_) ?_ (by omega) (by omega)
                    · have h := hT2 q (by omega)
                      have h2 : (if q = lv then v + 1 else T q) = T q := if_neg (by omega)
                      exact h.trans h2
                    · have h := hT2 lv (by omega)
                      have h2 : (if lv = lv then v + 1 else T lv) = v + 1 := if_pos rfl
                      exact h.trans h2
                · refine zp_load (pc := 159) hx hb (zd_X12_round (159, .aload_n 0, 1, 0, []) (List.mem_of_getElem? (i := 87) rfl)) rfl (j := 3) rfl ?_
                  refine zp_load (pc := 160) hx hb (zd_X12_round (160, .iload_n 3, 1, 0, []) (List.mem_of_getElem? (i := 88) rfl)) rfl (j := 2) rfl ?_
                  have srk238 : sr_I a b3 b50 b51 b52 P (zp_set G b51 (2000 + lv) (v + 1)) := (sr_set (k := 2000 + lv) (v := (v + 1)) hsr hsr.2.2.2.1 rfl)
                  have mk238 : sr_M a n 7 (zp_set G b51 (2000 + lv) (v + 1)) := sr_zv hM hsr.2.2.2.2.2.2.1 srk238.2.2.2.2.2.2.1 (fun q _ => zp_set_ne (Or.inl (zp_pne hsr.2.2.1 hsr.2.2.2.1 (by decide))))
                  have tk238 : ∀ q, q < lv → zv (zp_set G b51 (2000 + lv) (v + 1)) a 51 q = T q := fun q hq => by rw [← hT q hq, zv_eq srk238.2.2.2.2.2.2.2.1, zv_eq hsr.2.2.2.2.2.2.2.1]; exact zp_set_ne (Or.inr (by omega))
                  have vv : zv (zp_set G b51 (2000 + lv) (v + 1)) a 51 lv = v + 1 := by rw [zv_eq srk238.2.2.2.2.2.2.2.1]; exact zp_set_self
                  have hF : gr_F a n (zp_set G b51 (2000 + lv) (v + 1)) := fun k hk => by
                    have h1 : 0 ≤ zv (zp_set G b51 (2000 + lv) (v + 1)) a 51 k ∧ zv (zp_set G b51 (2000 + lv) (v + 1)) a 51 k < (n : Int) := by
                      by_cases hkl : k = lv
                      · rw [hkl, vv]; omega
                      · rw [tk238 k (by omega)]
                        exact hTb k (by omega)
                    have h3 := mk238 (zv (zp_set G b51 (2000 + lv) (v + 1)) a 51 k).toNat (by omega)
                    exact ⟨h1.1, h3.1, h3.2⟩
                  refine zp_call (pc := 161) (how := 0) (idx := 493) (mi := 273) (S := []) hx hb hE hw heff hrm (zX_gr hW) rfl (j := 60) rfl rfl (by decide +kernel) (zd_X12_round (161, .invokevirtual 493, 3, 0, []) (List.mem_of_getElem? (i := 89) rfl)) [(a : Int), (n : Int)] rfl ⟨zp_o2 hsr.1, zp_o0 (by omega) (by omega) (by omega) (by omega), trivial⟩ (Nat.le_of_ble_eq_true rfl) (show gr_F a ((n : Int)).toNat (zp_set G b51 (2000 + lv) (v + 1)) by rw [Int.toNat_natCast]; exact hF) (fun al hal rng Pg Gg hextg hfrg hokg hcsg hpsig => ?_)
                  obtain rfl := List.mem_singleton.mp hal
                  have hrg := zp_int (hokg _ rfl).1
                  have srbg := srk238
                  obtain ⟨srg, z50g, z51g⟩ := sr_fr srbg hextg hfrg (by decide +kernel)
                  have mg : sr_M a n 7 Gg := sr_zv mk238 srk238.2.2.2.2.2.2.1 srg.2.2.2.2.2.2.1 (fun q _ => z50g _)
                  have z51v : ∀ q, zv Gg a 51 q = zv (zp_set G b51 (2000 + lv) (v + 1)) a 51 q := fun q => by rw [zv_eq srg.2.2.2.2.2.2.2.1, zv_eq srk238.2.2.2.2.2.2.2.1, z51g]
                  have Fg : gr_F a n Gg := gr_fr hF srk238.2.2.2.2.2.2.1 srk238.2.2.2.2.2.2.2.1 srg.2.2.2.2.2.2.1 srg.2.2.2.2.2.2.2.1 z50g z51g
                  have tg : ∀ q, q < lv → zv Gg a 51 q = T q := fun q hq => (z51v q).trans (tk238 q hq)
                  refine zp_store (L' := [(6, 0, rng), (5, 0, (lv : Int)), (4, 0, best), (3, 0, (n : Int)), (0, 2, (a : Int)), (1, 0, p1), (2, 0, p2)]) (pc := 164) hx hb hnL (zd_X12_round (164, .istore 6, 2, 0, []) (List.mem_of_getElem? (i := 90) rfl)) rfl rfl rfl ?_
                  refine zp_const (pc := 166) hx hb (zd_X12_round (166, .iconst 0, 1, 0, []) (List.mem_of_getElem? (i := 91) rfl)) rfl rfl ?_
                  refine zp_store (L' := [(7, 0, 0), (6, 0, rng), (5, 0, (lv : Int)), (4, 0, best), (3, 0, (n : Int)), (0, 2, (a : Int)), (1, 0, p1), (2, 0, p2)]) (pc := 167) hx hb hnL (zd_X12_round (167, .istore 7, 2, 0, []) (List.mem_of_getElem? (i := 92) rfl)) rfl rfl rfl ?_
                  refine zp_drop (L' := [(7, 0, ((0 : Nat) : Int)), (6, 0, rng), (5, 0, (lv : Int)), (4, 0, best), (3, 0, (n : Int)), (0, 2, (a : Int)), (1, 0, p1), (2, 0, p2)]) (by simp) ?_
                  exact leaf (n + 1) 0 rng Pg Gg (by omega) (by omega) (by omega) (by omega) (by omega) srg mg Fg tg ((z51v lv).trans vv)
            · refine zp_iinc (L' := [(5, 0, ((lv : Int) - 1)), (4, 0, best), (3, 0, (n : Int)), (0, 2, (a : Int)), (1, 0, p1), (2, 0, p2)]) (n := ((lv : Int) - 1)) (pc := 136) hx hb hnL (zd_X12_round (136, .iinc 5 (-1), 3, 0, []) (List.mem_of_getElem? (i := 76) rfl)) (j := 0) rfl (by omega) (zp_r0 (by omega) (by omega)) rfl rfl ?_
              refine zp_goto (tgt := 109) (pc := 139) hx hb (zd_X12_round (139, .goto (-30), 3, 0, []) (List.mem_of_getElem? (i := 77) rfl)) rfl ?_
              have srk239 : sr_I a b3 b50 b51 b52 P (zp_set G b51 (2000 + lv) (v + 1)) := (sr_set (k := 2000 + lv) (v := (v + 1)) hsr hsr.2.2.2.1 rfl)
              have mk239 : sr_M a n 7 (zp_set G b51 (2000 + lv) (v + 1)) := sr_zv hM hsr.2.2.2.2.2.2.1 srk239.2.2.2.2.2.2.1 (fun q _ => zp_set_ne (Or.inl (zp_pne hsr.2.2.1 hsr.2.2.2.1 (by decide))))
              have tk239 : ∀ q, q < lv → zv (zp_set G b51 (2000 + lv) (v + 1)) a 51 q = T q := fun q hq => by rw [← hT q hq, zv_eq srk239.2.2.2.2.2.2.2.1, zv_eq hsr.2.2.2.2.2.2.2.1]; exact zp_set_ne (Or.inr (by omega))
              exact hH _ best _ _ (by omega) hb1 hb2 srk239 mk239 tk239
      exact inner _ v j best P G (Nat.lt_succ_self _) hj hbb1 hbb2 hsr hM hT hv hv1 hv2
  have h57 : ∀ (n i : Nat) (P : Nat → Option Nat) (G : Nat → Nat → Int), n ≤ 7 → sr_I a b3 b50 b51 b52 P G → sr_M a n 7 G → zp_J p l e R s m args below meth c Q w u [] 57 [(4, 0, (i : Int)), (3, 0, (n : Int)), (0, 2, (a : Int)), (1, 0, p1), (2, 0, p2)] [] P G := by
    intro n i P G hn7 hsr hM
    refine zp_load (pc := 57) hx hb (zd_X12_round (57, .iload_n 2, 1, 0, []) (List.mem_of_getElem? (i := 30) rfl)) rfl (j := 4) rfl ?_
    refine zp_i2l (pc := 58) hx hb (zd_X12_round (58, .i2l, 1, 0, []) (List.mem_of_getElem? (i := 31) rfl)) ?_
    refine zp_ldc2 (pc := 59) hx hb hE (zd_X12_round (59, .ldc2_w 267, 3, 0, []) (List.mem_of_getElem? (i := 32) rfl)) (j := 92) rfl ?_
    refine zp_load (pc := 62) hx hb (zd_X12_round (62, .iload_n 3, 1, 0, []) (List.mem_of_getElem? (i := 33) rfl)) rfl (j := 1) rfl ?_
    refine zp_i2l (pc := 63) hx hb (zd_X12_round (63, .i2l, 1, 0, []) (List.mem_of_getElem? (i := 34) rfl)) ?_
    refine zp_const (pc := 64) hx hb (zd_X12_round (64, .lconst 1, 1, 0, []) (List.mem_of_getElem? (i := 35) rfl)) rfl rfl ?_
    refine zp_lsub (n := ((n : Int) - 1)) (pc := 65) hx hb (zd_X12_round (65, .lsub, 1, 0, []) (List.mem_of_getElem? (i := 36) rfl)) (by omega) (zp_r1 (by omega) (by omega)) ?_
    refine zp_call (pc := 66) (how := 1) (idx := 181) (mi := 186) (S := []) hx hb hE hw heff hrm (zX_in hW) rfl (j := 2) rfl rfl (by decide +kernel) (zd_X12_round (66, .invokestatic 181, 3, 0, []) (List.mem_of_getElem? (i := 37) rfl)) [p2, (-1), ((n : Int) - 1)] rfl ⟨zp_o1 (zp_r1 (by omega) (by omega)), zp_o1 (zp_r1 (by omega) (by omega)), zp_o1 (zp_r1 (by omega) (by omega)), trivial⟩ (Nat.le_of_ble_eq_true rfl) trivial (fun al hal rni Pi Gi hexti hfri hoki hcsi hpsii => ?_)
    obtain rfl := List.mem_singleton.mp hal
    have hri := zp_int (hoki _ rfl).1
    obtain ⟨hPei, hGei, hti⟩ := hpsii
    rw [hPei, hGei]
    have hti : rni = 1 → (-1) ≤ p2 ∧ p2 ≤ ((n : Int) - 1) := hti
    refine zp_if (pc := 69) (tgt := 74) hx hb (zd_X12_round (69, .ifCond .ne 5, 3, 0, []) (List.mem_of_getElem? (i := 38) rfl)) rfl (fun (hc240 : ¬ rni = 0) => ?_) (fun (hc240 : ¬ (¬ rni = 0)) => ?_)
    · refine zp_load (pc := 74) hx hb (zd_X12_round (74, .aload_n 0, 1, 0, []) (List.mem_of_getElem? (i := 41) rfl)) rfl (j := 2) rfl ?_
      have hti2 := hti (by omega)
      refine zp_call (pc := 75) (how := 0) (idx := 490) (mi := 272) (S := []) hx hb hE hw heff hrm (zp_plain (zq_1114 hW)) rfl (j := 59) rfl rfl (by decide +kernel) (zd_X12_round (75, .invokevirtual 490, 3, 0, []) (List.mem_of_getElem? (i := 42) rfl)) [(a : Int)] rfl ⟨zp_o2 hsr.1, trivial⟩ (Nat.le_of_ble_eq_true rfl) trivial (fun al hal rny Py Gy hexty hfry hoky hcsy hpsiy => ?_)
      obtain rfl := List.mem_singleton.mp hal
      have srby := hsr
      obtain ⟨sry, z50y, z51y⟩ := sr_fr srby hexty hfry (by decide +kernel)
      have my : sr_M a n 7 Gy := sr_zv hM hsr.2.2.2.2.2.2.1 sry.2.2.2.2.2.2.1 (fun q _ => z50y _)
      refine zp_load (pc := 78) hx hb (zd_X12_round (78, .iload_n 3, 1, 0, []) (List.mem_of_getElem? (i := 43) rfl)) rfl (j := 1) rfl ?_
      refine zp_if (pc := 79) (tgt := 86) hx hb (zd_X12_round (79, .ifCond .ne 7, 3, 0, []) (List.mem_of_getElem? (i := 44) rfl)) rfl (fun (hc241 : ¬ (n : Int) = 0) => ?_) (fun (hc241 : ¬ (¬ (n : Int) = 0)) => ?_)
      · refine zp_ldcw (pc := 86) hx hb hE (zd_X12_round (86, .ldc_w 456, 3, 0, []) (List.mem_of_getElem? (i := 47) rfl)) (j := 109) rfl ?_
        refine zp_store (L' := [(4, 0, 100000000), (3, 0, (n : Int)), (0, 2, (a : Int)), (1, 0, p1), (2, 0, p2)]) (pc := 89) hx hb hnL (zd_X12_round (89, .istore 4, 2, 0, []) (List.mem_of_getElem? (i := 48) rfl)) rfl rfl rfl ?_
        refine zp_load (pc := 91) hx hb (zd_X12_round (91, .iload_n 3, 1, 0, []) (List.mem_of_getElem? (i := 49) rfl)) rfl (j := 1) rfl ?_
        refine zp_if (pc := 92) (tgt := 99) hx hb (zd_X12_round (92, .ifCond .ne 7, 3, 0, []) (List.mem_of_getElem? (i := 50) rfl)) rfl (fun (hc242 : ¬ (n : Int) = 0) => ?_) (fun (hc242 : ¬ (¬ (n : Int) = 0)) => ?_)
        · refine zp_const (pc := 99) hx hb (zd_X12_round (99, .iconst 0, 1, 0, []) (List.mem_of_getElem? (i := 53) rfl)) rfl rfl ?_
          refine zp_store (L' := [(5, 0, 0), (4, 0, 100000000), (3, 0, (n : Int)), (0, 2, (a : Int)), (1, 0, p1), (2, 0, p2)]) (pc := 100) hx hb hnL (zd_X12_round (100, .istore 5, 2, 0, []) (List.mem_of_getElem? (i := 54) rfl)) rfl rfl rfl ?_
          refine zp_load (pc := 102) hx hb (zd_X12_round (102, .aload_n 0, 1, 0, []) (List.mem_of_getElem? (i := 55) rfl)) rfl (j := 3) rfl ?_
          refine zp_getf (n := (b51 : Int)) (pc := 103) hx hb hE hw (zd_X12_round (103, .getfield 137, 3, 0, []) (List.mem_of_getElem? (i := 56) rfl)) (j := 69) rfl rfl rfl sry.1 sry.2.2.2.2.2.2.2.1 ?_
          refine zp_const (pc := 106) hx hb (zd_X12_round (106, .iconst 0, 1, 0, []) (List.mem_of_getElem? (i := 57) rfl)) rfl rfl ?_
          refine zp_const (pc := 107) hx hb (zd_X12_round (107, .iconst (-1), 1, 0, []) (List.mem_of_getElem? (i := 58) rfl)) rfl rfl ?_
          refine zp_iast (j := 0) (pc := 108) hx hb hw heff (zd_X12_round (108, .iastore, 1, 0, []) (List.mem_of_getElem? (i := 59) rfl)) (show zp_ia 1 86 = some (7, 0, 0, (-1), 7) from rfl) sry.2.2.2.1 (by omega) (by omega) (zp_o0 (by omega) (by omega) (by omega) (by omega)) rfl ?_
          have srz : sr_I a b3 b50 b51 b52 Py (zp_set Gy b51 (2000 + 0) (-1)) := (sr_set (k := 2000 + 0) (v := (-1)) sry sry.2.2.2.1 rfl)
          have mz : sr_M a n 7 (zp_set Gy b51 (2000 + 0) (-1)) := sr_zv my sry.2.2.2.2.2.2.1 srz.2.2.2.2.2.2.1 (fun q _ => zp_set_ne (Or.inl (zp_pne sry.2.2.1 sry.2.2.2.1 (by decide))))
          by_cases hn0 : n = 0
          · exfalso
            omega
          refine zp_drop (L' := [(5, 0, 0), (4, 0, 100000000), (3, 0, (n : Int)), (0, 2, (a : Int)), (1, 0, p1), (2, 0, p2)]) (by simp) ?_
          refine search n (by omega) (n - 1) 0 (fun _ => 0) (-1) 0 100000000 _ _ rfl (by omega) (by omega) (by omega) srz mz (fun q hq => absurd hq (Nat.not_lt_zero q)) (fun q hq => absurd hq (Nat.not_lt_zero q)) (by rw [zv_eq srz.2.2.2.2.2.2.2.1]; exact zp_set_self) (by omega) (by omega) (fun j best P G hj hb1 hb2 hsr2 hM2 hT2 => ?_)
          have hjn : j < 0 := by omega
          refine zp_load (pc := 109) hx hb (zd_X12_round (109, .iload 5, 2, 0, []) (List.mem_of_getElem? (i := 60) rfl)) rfl (j := 0) rfl ?_
          refine zp_if (pc := 111) (tgt := 240) hx hb (zd_X12_round (111, .ifCond .lt 129, 3, 0, []) (List.mem_of_getElem? (i := 61) rfl)) rfl (fun (hc243 : j < 0) => ?_) (fun (hc243 : ¬ (j < 0)) => ?_)
          · exact h240 n j best P G (by omega) (by omega) (by omega) hb1 hb2 hsr2
          · exfalso
            omega
        · refine zp_const (pc := 95) hx hb (zd_X12_round (95, .iconst (-1), 1, 0, []) (List.mem_of_getElem? (i := 51) rfl)) rfl rfl ?_
          refine zp_goto (tgt := 100) (pc := 96) hx hb (zd_X12_round (96, .goto 4, 3, 0, []) (List.mem_of_getElem? (i := 52) rfl)) rfl ?_
          refine zp_store (L' := [(5, 0, (-1)), (4, 0, 100000000), (3, 0, (n : Int)), (0, 2, (a : Int)), (1, 0, p1), (2, 0, p2)]) (pc := 100) hx hb hnL (zd_X12_round (100, .istore 5, 2, 0, []) (List.mem_of_getElem? (i := 54) rfl)) rfl rfl rfl ?_
          refine zp_load (pc := 102) hx hb (zd_X12_round (102, .aload_n 0, 1, 0, []) (List.mem_of_getElem? (i := 55) rfl)) rfl (j := 3) rfl ?_
          refine zp_getf (n := (b51 : Int)) (pc := 103) hx hb hE hw (zd_X12_round (103, .getfield 137, 3, 0, []) (List.mem_of_getElem? (i := 56) rfl)) (j := 69) rfl rfl rfl sry.1 sry.2.2.2.2.2.2.2.1 ?_
          refine zp_const (pc := 106) hx hb (zd_X12_round (106, .iconst 0, 1, 0, []) (List.mem_of_getElem? (i := 57) rfl)) rfl rfl ?_
          refine zp_const (pc := 107) hx hb (zd_X12_round (107, .iconst (-1), 1, 0, []) (List.mem_of_getElem? (i := 58) rfl)) rfl rfl ?_
          refine zp_iast (j := 0) (pc := 108) hx hb hw heff (zd_X12_round (108, .iastore, 1, 0, []) (List.mem_of_getElem? (i := 59) rfl)) (show zp_ia 1 86 = some (7, 0, 0, (-1), 7) from rfl) sry.2.2.2.1 (by omega) (by omega) (zp_o0 (by omega) (by omega) (by omega) (by omega)) rfl ?_
          have srz : sr_I a b3 b50 b51 b52 Py (zp_set Gy b51 (2000 + 0) (-1)) := (sr_set (k := 2000 + 0) (v := (-1)) sry sry.2.2.2.1 rfl)
          have mz : sr_M a n 7 (zp_set Gy b51 (2000 + 0) (-1)) := sr_zv my sry.2.2.2.2.2.2.1 srz.2.2.2.2.2.2.1 (fun q _ => zp_set_ne (Or.inl (zp_pne sry.2.2.1 sry.2.2.2.1 (by decide))))
          refine zp_load (pc := 109) hx hb (zd_X12_round (109, .iload 5, 2, 0, []) (List.mem_of_getElem? (i := 60) rfl)) rfl (j := 0) rfl ?_
          refine zp_if (pc := 111) (tgt := 240) hx hb (zd_X12_round (111, .ifCond .lt 129, 3, 0, []) (List.mem_of_getElem? (i := 61) rfl)) rfl (fun (hc244 : (-1) < 0) => ?_) (fun (hc244 : ¬ ((-1) < 0)) => ?_)
          · refine zp_drop (L' := [(5, 0, (-1)), (4, 0, 100000000), (3, 0, (n : Int)), (0, 2, (a : Int)), (1, 0, p1), (2, 0, p2)]) (by simp) ?_
            exact h240 n (-1) 100000000 _ _ (by omega) (by omega) (by omega) (by omega) (by omega) srz
          · exfalso
            omega
      · refine zp_const (pc := 82) hx hb (zd_X12_round (82, .iconst 0, 1, 0, []) (List.mem_of_getElem? (i := 45) rfl)) rfl rfl ?_
        refine zp_goto (tgt := 89) (pc := 83) hx hb (zd_X12_round (83, .goto 6, 3, 0, []) (List.mem_of_getElem? (i := 46) rfl)) rfl ?_
        refine zp_store (L' := [(4, 0, 0), (3, 0, (n : Int)), (0, 2, (a : Int)), (1, 0, p1), (2, 0, p2)]) (pc := 89) hx hb hnL (zd_X12_round (89, .istore 4, 2, 0, []) (List.mem_of_getElem? (i := 48) rfl)) rfl rfl rfl ?_
        refine zp_load (pc := 91) hx hb (zd_X12_round (91, .iload_n 3, 1, 0, []) (List.mem_of_getElem? (i := 49) rfl)) rfl (j := 1) rfl ?_
        refine zp_if (pc := 92) (tgt := 99) hx hb (zd_X12_round (92, .ifCond .ne 7, 3, 0, []) (List.mem_of_getElem? (i := 50) rfl)) rfl (fun (hc245 : ¬ (n : Int) = 0) => ?_) (fun (hc245 : ¬ (¬ (n : Int) = 0)) => ?_)
        · refine zp_const (pc := 99) hx hb (zd_X12_round (99, .iconst 0, 1, 0, []) (List.mem_of_getElem? (i := 53) rfl)) rfl rfl ?_
          refine zp_store (L' := [(5, 0, 0), (4, 0, 0), (3, 0, (n : Int)), (0, 2, (a : Int)), (1, 0, p1), (2, 0, p2)]) (pc := 100) hx hb hnL (zd_X12_round (100, .istore 5, 2, 0, []) (List.mem_of_getElem? (i := 54) rfl)) rfl rfl rfl ?_
          refine zp_load (pc := 102) hx hb (zd_X12_round (102, .aload_n 0, 1, 0, []) (List.mem_of_getElem? (i := 55) rfl)) rfl (j := 3) rfl ?_
          refine zp_getf (n := (b51 : Int)) (pc := 103) hx hb hE hw (zd_X12_round (103, .getfield 137, 3, 0, []) (List.mem_of_getElem? (i := 56) rfl)) (j := 69) rfl rfl rfl sry.1 sry.2.2.2.2.2.2.2.1 ?_
          refine zp_const (pc := 106) hx hb (zd_X12_round (106, .iconst 0, 1, 0, []) (List.mem_of_getElem? (i := 57) rfl)) rfl rfl ?_
          refine zp_const (pc := 107) hx hb (zd_X12_round (107, .iconst (-1), 1, 0, []) (List.mem_of_getElem? (i := 58) rfl)) rfl rfl ?_
          refine zp_iast (j := 0) (pc := 108) hx hb hw heff (zd_X12_round (108, .iastore, 1, 0, []) (List.mem_of_getElem? (i := 59) rfl)) (show zp_ia 1 86 = some (7, 0, 0, (-1), 7) from rfl) sry.2.2.2.1 (by omega) (by omega) (zp_o0 (by omega) (by omega) (by omega) (by omega)) rfl ?_
          have srz : sr_I a b3 b50 b51 b52 Py (zp_set Gy b51 (2000 + 0) (-1)) := (sr_set (k := 2000 + 0) (v := (-1)) sry sry.2.2.2.1 rfl)
          have mz : sr_M a n 7 (zp_set Gy b51 (2000 + 0) (-1)) := sr_zv my sry.2.2.2.2.2.2.1 srz.2.2.2.2.2.2.1 (fun q _ => zp_set_ne (Or.inl (zp_pne sry.2.2.1 sry.2.2.2.1 (by decide))))
          by_cases hn0 : n = 0
          · exfalso
            omega
          refine zp_drop (L' := [(5, 0, 0), (4, 0, 0), (3, 0, (n : Int)), (0, 2, (a : Int)), (1, 0, p1), (2, 0, p2)]) (by simp) ?_
          refine search n (by omega) (n - 1) 0 (fun _ => 0) (-1) 0 0 _ _ rfl (by omega) (by omega) (by omega) srz mz (fun q hq => absurd hq (Nat.not_lt_zero q)) (fun q hq => absurd hq (Nat.not_lt_zero q)) (by rw [zv_eq srz.2.2.2.2.2.2.2.1]; exact zp_set_self) (by omega) (by omega) (fun j best P G hj hb1 hb2 hsr2 hM2 hT2 => ?_)
          have hjn : j < 0 := by omega
          refine zp_load (pc := 109) hx hb (zd_X12_round (109, .iload 5, 2, 0, []) (List.mem_of_getElem? (i := 60) rfl)) rfl (j := 0) rfl ?_
          refine zp_if (pc := 111) (tgt := 240) hx hb (zd_X12_round (111, .ifCond .lt 129, 3, 0, []) (List.mem_of_getElem? (i := 61) rfl)) rfl (fun (hc246 : j < 0) => ?_) (fun (hc246 : ¬ (j < 0)) => ?_)
          · exact h240 n j best P G (by omega) (by omega) (by omega) hb1 hb2 hsr2
          · exfalso
            omega
        · refine zp_const (pc := 95) hx hb (zd_X12_round (95, .iconst (-1), 1, 0, []) (List.mem_of_getElem? (i := 51) rfl)) rfl rfl ?_
          refine zp_goto (tgt := 100) (pc := 96) hx hb (zd_X12_round (96, .goto 4, 3, 0, []) (List.mem_of_getElem? (i := 52) rfl)) rfl ?_
          refine zp_store (L' := [(5, 0, (-1)), (4, 0, 0), (3, 0, (n : Int)), (0, 2, (a : Int)), (1, 0, p1), (2, 0, p2)]) (pc := 100) hx hb hnL (zd_X12_round (100, .istore 5, 2, 0, []) (List.mem_of_getElem? (i := 54) rfl)) rfl rfl rfl ?_
          refine zp_load (pc := 102) hx hb (zd_X12_round (102, .aload_n 0, 1, 0, []) (List.mem_of_getElem? (i := 55) rfl)) rfl (j := 3) rfl ?_
          refine zp_getf (n := (b51 : Int)) (pc := 103) hx hb hE hw (zd_X12_round (103, .getfield 137, 3, 0, []) (List.mem_of_getElem? (i := 56) rfl)) (j := 69) rfl rfl rfl sry.1 sry.2.2.2.2.2.2.2.1 ?_
          refine zp_const (pc := 106) hx hb (zd_X12_round (106, .iconst 0, 1, 0, []) (List.mem_of_getElem? (i := 57) rfl)) rfl rfl ?_
          refine zp_const (pc := 107) hx hb (zd_X12_round (107, .iconst (-1), 1, 0, []) (List.mem_of_getElem? (i := 58) rfl)) rfl rfl ?_
          refine zp_iast (j := 0) (pc := 108) hx hb hw heff (zd_X12_round (108, .iastore, 1, 0, []) (List.mem_of_getElem? (i := 59) rfl)) (show zp_ia 1 86 = some (7, 0, 0, (-1), 7) from rfl) sry.2.2.2.1 (by omega) (by omega) (zp_o0 (by omega) (by omega) (by omega) (by omega)) rfl ?_
          have srz : sr_I a b3 b50 b51 b52 Py (zp_set Gy b51 (2000 + 0) (-1)) := (sr_set (k := 2000 + 0) (v := (-1)) sry sry.2.2.2.1 rfl)
          have mz : sr_M a n 7 (zp_set Gy b51 (2000 + 0) (-1)) := sr_zv my sry.2.2.2.2.2.2.1 srz.2.2.2.2.2.2.1 (fun q _ => zp_set_ne (Or.inl (zp_pne sry.2.2.1 sry.2.2.2.1 (by decide))))
          refine zp_load (pc := 109) hx hb (zd_X12_round (109, .iload 5, 2, 0, []) (List.mem_of_getElem? (i := 60) rfl)) rfl (j := 0) rfl ?_
          refine zp_if (pc := 111) (tgt := 240) hx hb (zd_X12_round (111, .ifCond .lt 129, 3, 0, []) (List.mem_of_getElem? (i := 61) rfl)) rfl (fun (hc247 : (-1) < 0) => ?_) (fun (hc247 : ¬ ((-1) < 0)) => ?_)
          · refine zp_drop (L' := [(5, 0, (-1)), (4, 0, 0), (3, 0, (n : Int)), (0, 2, (a : Int)), (1, 0, p1), (2, 0, p2)]) (by simp) ?_
            exact h240 n (-1) 0 _ _ (by omega) (by omega) (by omega) (by omega) (by omega) srz
          · exfalso
            omega
    · refine zp_const (pc := 72) hx hb (zd_X12_round (72, .iconst (-1), 1, 0, []) (List.mem_of_getElem? (i := 39) rfl)) rfl rfl ?_
      refine zp_iret (pc := 73) (n := (-1)) hx hb hE hQ hU5 rfl (by decide) (zd_X12_round (73, .ireturn, 1, 0, []) (List.mem_of_getElem? (i := 40) rfl)) (j := 0) rfl (zp_o0 (by omega) (by omega) (by omega) (by omega)) ?_
      rw [hps]
      trivial
  have loopA : ∀ (m0 i n : Nat) (P : Nat → Option Nat) (G : Nat → Nat → Int), 8 - i < m0 → 1 ≤ i → i ≤ 8 → n + 1 ≤ i → sr_I a b3 b50 b51 b52 P G → sr_M a n 7 G → zp_J p l e R s m args below meth c Q w u [] 24 [(4, 0, (i : Int)), (3, 0, (n : Int)), (0, 2, (a : Int)), (1, 0, p1), (2, 0, p2)] [] P G := by
    clear h240 search
    intro m0
    induction m0 with
    | zero => intro i n P G h; exact absurd h (Nat.not_lt_zero _)
    | succ m0 ih =>
      intro i n P G hm hi1_ hi hni hsr hM
      refine zp_load (pc := 24) hx hb (zd_X12_round (24, .iload 4, 2, 0, []) (List.mem_of_getElem? (i := 15) rfl)) rfl (j := 0) rfl ?_
      refine zp_const (pc := 26) hx hb (zd_X12_round (26, .bipush 8, 2, 0, []) (List.mem_of_getElem? (i := 16) rfl)) rfl rfl ?_
      refine zp_icmp (pc := 28) (tgt := 57) hx hb (zd_X12_round (28, .if_icmp .ge 29, 3, 0, []) (List.mem_of_getElem? (i := 17) rfl)) rfl (fun (hc248 : 8 ≤ (i : Int)) => ?_) (fun (hc248 : ¬ (8 ≤ (i : Int))) => ?_)
      · exact h57 n i P G (by omega) hsr hM
      · refine zp_load (pc := 31) hx hb (zd_X12_round (31, .iload_n 1, 1, 0, []) (List.mem_of_getElem? (i := 18) rfl)) rfl (j := 3) rfl ?_
        refine zp_load (pc := 32) hx hb (zd_X12_round (32, .iload 4, 2, 0, []) (List.mem_of_getElem? (i := 19) rfl)) rfl (j := 0) rfl ?_
        refine zp_call (pc := 34) (how := 1) (idx := 468) (mi := 258) (S := []) hx hb hE hw heff hrm (zp_plain (zq_1092 hW)) rfl (j := 54) rfl rfl (by decide +kernel) (zd_X12_round (34, .invokestatic 468, 3, 0, []) (List.mem_of_getElem? (i := 20) rfl)) [p1, (i : Int)] rfl ⟨zp_o0 (by omega) (by omega) (by omega) (by omega), zp_o0 (by omega) (by omega) (by omega) (by omega), trivial⟩ (Nat.le_of_ble_eq_true rfl) trivial (fun al hal rno Po Go hexto hfro hoko hcso hpsio => ?_)
        have hrno : 0 ≤ rno ∧ rno ≤ 1 ∧ ∃ f, al.1 = some f ∧ f.1 = 0 := by
          rcases List.mem_cons.mp hal with rfl | hal
          · have h := zp_int (hoko _ rfl).1
            exact ⟨by omega, by omega, _, rfl, rfl⟩
          · obtain rfl := List.mem_singleton.mp hal
            have h := zp_int (hoko _ rfl).1
            exact ⟨by omega, by omega, _, rfl, rfl⟩
        obtain ⟨h0o, h1o, fo, hfo, hf0o⟩ := hrno
        rw [hfo]
        dsimp only
        rw [hf0o]
        have srbo := hsr
        obtain ⟨sro, z50o, z51o⟩ := sr_fr srbo hexto hfro (by decide +kernel)
        have mo : sr_M a n 7 Go := sr_zv hM hsr.2.2.2.2.2.2.1 sro.2.2.2.2.2.2.1 (fun q _ => z50o _)
        refine zp_if (pc := 37) (tgt := 51) hx hb (zd_X12_round (37, .ifCond .eq 14, 3, 0, []) (List.mem_of_getElem? (i := 21) rfl)) rfl (fun (hc249 : rno = 0) => ?_) (fun (hc249 : ¬ (rno = 0)) => ?_)
        · refine zp_iinc (L' := [(4, 0, ((i : Int) + 1)), (3, 0, (n : Int)), (0, 2, (a : Int)), (1, 0, p1), (2, 0, p2)]) (n := ((i : Int) + 1)) (pc := 51) hx hb hnL (zd_X12_round (51, .iinc 4 1, 3, 0, []) (List.mem_of_getElem? (i := 28) rfl)) (j := 0) rfl (by omega) (zp_r0 (by omega) (by omega)) rfl rfl ?_
          refine zp_goto (tgt := 24) (pc := 54) hx hb (zd_X12_round (54, .goto (-30), 3, 0, []) (List.mem_of_getElem? (i := 29) rfl)) rfl ?_
          refine zp_drop (L' := [(4, 0, ((i : Int) + 1)), (3, 0, (n : Int)), (0, 2, (a : Int)), (1, 0, p1), (2, 0, p2)]) (by simp) ?_
          exact ih (i + 1) n _ _ (by omega) (by omega) (by omega) (by omega) sro mo
        · refine zp_load (pc := 40) hx hb (zd_X12_round (40, .aload_n 0, 1, 0, []) (List.mem_of_getElem? (i := 22) rfl)) rfl (j := 2) rfl ?_
          refine zp_getf (n := (b50 : Int)) (pc := 41) hx hb hE hw (zd_X12_round (41, .getfield 134, 3, 0, []) (List.mem_of_getElem? (i := 23) rfl)) (j := 68) rfl rfl rfl sro.1 sro.2.2.2.2.2.2.1 ?_
          refine zp_load (pc := 44) hx hb (zd_X12_round (44, .iload_n 3, 1, 0, []) (List.mem_of_getElem? (i := 24) rfl)) rfl (j := 1) rfl ?_
          refine zp_load (pc := 45) hx hb (zd_X12_round (45, .iload 4, 2, 0, []) (List.mem_of_getElem? (i := 25) rfl)) rfl (j := 0) rfl ?_
          refine zp_iast (j := n) (pc := 47) hx hb hw heff (zd_X12_round (47, .iastore, 1, 0, []) (List.mem_of_getElem? (i := 26) rfl)) (show zp_ia 1 85 = some (10, 0, 0, 0, 10) from rfl) sro.2.2.1 (by omega) (by omega) (zp_o0 (by omega) (by omega) (by omega) (by omega)) rfl ?_
          refine zp_iinc (L' := [(3, 0, ((n : Int) + 1)), (4, 0, (i : Int)), (0, 2, (a : Int)), (1, 0, p1), (2, 0, p2)]) (n := ((n : Int) + 1)) (pc := 48) hx hb hnL (zd_X12_round (48, .iinc 3 1, 3, 0, []) (List.mem_of_getElem? (i := 27) rfl)) (j := 1) rfl (by omega) (zp_r0 (by omega) (by omega)) rfl rfl ?_
          refine zp_iinc (L' := [(4, 0, ((i : Int) + 1)), (3, 0, ((n : Int) + 1)), (0, 2, (a : Int)), (1, 0, p1), (2, 0, p2)]) (n := ((i : Int) + 1)) (pc := 51) hx hb hnL (zd_X12_round (51, .iinc 4 1, 3, 0, []) (List.mem_of_getElem? (i := 28) rfl)) (j := 1) rfl (by omega) (zp_r0 (by omega) (by omega)) rfl rfl ?_
          refine zp_goto (tgt := 24) (pc := 54) hx hb (zd_X12_round (54, .goto (-30), 3, 0, []) (List.mem_of_getElem? (i := 29) rfl)) rfl ?_
          have srz : sr_I a b3 b50 b51 b52 Po (zp_set Go b50 (2000 + n) (i : Int)) := (sr_set (k := 2000 + n) (v := (i : Int)) sro sro.2.2.1 rfl)
          have mz : sr_M a (n + 1) 7 (zp_set Go b50 (2000 + n) (i : Int)) := fun q hq => by
            rw [zv_eq srz.2.2.2.2.2.2.1]
            by_cases hqn : q = n
            · subst hqn; rw [zp_set_self]; omega
            · rw [zp_set_ne (Or.inr (by omega)), ← zv_eq sro.2.2.2.2.2.2.1]; exact mo q (by omega)
          refine zp_drop (L' := [(4, 0, ((i : Int) + 1)), (3, 0, ((n : Int) + 1)), (0, 2, (a : Int)), (1, 0, p1), (2, 0, p2)]) (by simp) ?_
          exact ih (i + 1) (n + 1) _ _ (by omega) (by omega) (by omega) (by omega) srz mz
  refine zp_load (pc := 0) hx hb (zd_X12_round (0, .aload_n 0, 1, 0, []) (List.mem_of_getElem? (i := 0) rfl)) rfl (j := 0) rfl ?_
  refine zp_const (pc := 1) hx hb (zd_X12_round (1, .iconst 0, 1, 0, []) (List.mem_of_getElem? (i := 1) rfl)) rfl rfl ?_
  refine zp_putf (pc := 2) hx hb hE hw heff (zd_X12_round (2, .putfield 161, 3, 0, []) (List.mem_of_getElem? (i := 2) rfl)) (j := 18) rfl rfl rfl hsr.1 (zp_o0 (by decide) (by decide) (by decide) (by decide)) ?_
  refine zp_load (pc := 5) hx hb (zd_X12_round (5, .iload_n 1, 1, 0, []) (List.mem_of_getElem? (i := 3) rfl)) rfl (j := 1) rfl ?_
  refine zp_i2l (pc := 6) hx hb (zd_X12_round (6, .i2l, 1, 0, []) (List.mem_of_getElem? (i := 4) rfl)) ?_
  refine zp_const (pc := 7) hx hb (zd_X12_round (7, .lconst 0, 1, 0, []) (List.mem_of_getElem? (i := 5) rfl)) rfl rfl ?_
  refine zp_ldc2 (pc := 8) hx hb hE (zd_X12_round (8, .ldc2_w 488, 3, 0, []) (List.mem_of_getElem? (i := 6) rfl)) (j := 113) rfl ?_
  refine zp_call (pc := 11) (how := 1) (idx := 181) (mi := 186) (S := []) hx hb hE hw heff hrm (zX_in hW) rfl (j := 2) rfl rfl (by decide +kernel) (zd_X12_round (11, .invokestatic 181, 3, 0, []) (List.mem_of_getElem? (i := 7) rfl)) [p1, 0, 255] rfl ⟨zp_o1 (zp_r1 (by omega) (by omega)), zp_o1 (zp_r1 (by omega) (by omega)), zp_o1 (zp_r1 (by omega) (by omega)), trivial⟩ (Nat.le_of_ble_eq_true rfl) trivial (fun al hal rni Pi Gi hexti hfri hoki hcsi hpsii => ?_)
  obtain rfl := List.mem_singleton.mp hal
  have hri := zp_int (hoki _ rfl).1
  obtain ⟨hPei, hGei, hti⟩ := hpsii
  rw [hPei, hGei]
  have hti : rni = 1 → 0 ≤ p1 ∧ p1 ≤ 255 := hti
  refine zp_if (pc := 14) (tgt := 19) hx hb (zd_X12_round (14, .ifCond .ne 5, 3, 0, []) (List.mem_of_getElem? (i := 8) rfl)) rfl (fun (hc250 : ¬ rni = 0) => ?_) (fun (hc250 : ¬ (¬ rni = 0)) => ?_)
  · refine zp_const (pc := 19) hx hb (zd_X12_round (19, .iconst 0, 1, 0, []) (List.mem_of_getElem? (i := 11) rfl)) rfl rfl ?_
    refine zp_store (L' := [(3, 0, 0), (0, 2, (a : Int)), (1, 0, p1), (2, 0, p2)]) (pc := 20) hx hb hnL (zd_X12_round (20, .istore_n 3, 1, 0, []) (List.mem_of_getElem? (i := 12) rfl)) rfl rfl rfl ?_
    refine zp_const (pc := 21) hx hb (zd_X12_round (21, .iconst 1, 1, 0, []) (List.mem_of_getElem? (i := 13) rfl)) rfl rfl ?_
    refine zp_store (L' := [(4, 0, 1), (3, 0, 0), (0, 2, (a : Int)), (1, 0, p1), (2, 0, p2)]) (pc := 22) hx hb hnL (zd_X12_round (22, .istore 4, 2, 0, []) (List.mem_of_getElem? (i := 14) rfl)) rfl rfl rfl ?_
    refine zp_drop (L' := [(4, 0, ((1 : Nat) : Int)), (3, 0, ((0 : Nat) : Int)), (0, 2, (a : Int)), (1, 0, p1), (2, 0, p2)]) (by simp) ?_
    exact loopA 8 1 0 _ _ (by omega) (by omega) (by omega) (by omega) (sr_set (k := 0) (v := 0) hsr hsr.1 rfl) (fun q hq => absurd hq (Nat.not_lt_zero q))
  · refine zp_const (pc := 17) hx hb (zd_X12_round (17, .iconst (-1), 1, 0, []) (List.mem_of_getElem? (i := 9) rfl)) rfl rfl ?_
    refine zp_iret (pc := 18) (n := (-1)) hx hb hE hQ hU5 rfl (by decide) (zd_X12_round (18, .ireturn, 1, 0, []) (List.mem_of_getElem? (i := 10) rfl)) (j := 0) rfl (zp_o0 (by omega) (by omega) (by omega) (by omega)) ?_
    rw [hps]
    trivial
