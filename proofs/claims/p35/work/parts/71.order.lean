/-! part 71: the parser: readSum, readOrder -/
/-- the text is read on from G to G' -/
def zo_ext (a : Nat) (G G' : Nat → Nat → Int) : Prop := zs_tk a G' ∧ G a 14 ≤ G' a 14 ∧ (G' a 19 = 0 → G a 19 = 0) ∧ G a 23 ≤ G' a 23 ∧ G' a 23 ≤ G' a 14 ∧ ∀ q : Nat, (q : Int) < G a 23 → zv G' a 24 q = zv G a 24 q ∧ zv G' a 25 q = zv G a 25 q
theorem zo_ext_tr {a : Nat} {G G' G'' : Nat → Nat → Int} (h : zo_ext a G G') (h' : zo_ext a G' G'') : zo_ext a G G'' := by
  obtain ⟨-, a2, a3, a4, -, a6⟩ := h
  obtain ⟨b1, b2, b3, b4, b5, b6⟩ := h'
  exact ⟨b1, by omega, fun z => a3 (b3 z), by omega, b5, fun q hq => ⟨((b6 q (by omega)).1).trans (a6 q hq).1, ((b6 q (by omega)).2).trans (a6 q hq).2⟩⟩
/-- a sum or a test of an order, as it was read -/
def zo_pr (a : Nat) (G : Nat → Nat → Int) (i : Nat) : Prop := 0 ≤ zv G a 56 i ∧ zv G a 56 i ≤ G a 23 ∧ 0 ≤ zv G a 56 (i + 1) ∧ zv G a 56 (i + 1) ≤ G a 23 ∧ (G a 19 = 0 → zv G a 56 i < zv G a 56 (i + 1) → zk_cr (zv G a 24) (zv G a 25) (zv G a 56 i).toNat (zv G a 56 (i + 1)).toNat)
theorem zo_pr_keep {a i : Nat} {G G' : Nat → Nat → Int} (h : zo_pr a G i) (he : zo_ext a G G') (h1 : zv G' a 56 i = zv G a 56 i) (h2 : zv G' a 56 (i + 1) = zv G a 56 (i + 1)) : zo_pr a G' i := by
  obtain ⟨a1, a2, a3, a4, a5⟩ := h
  obtain ⟨b1, b2, b3, b4, b5, b6⟩ := he
  unfold zo_pr
  rw [h1, h2]
  exact ⟨a1, by omega, a3, by omega, fun z z2 => zk_cr_keep (a5 (b3 z) z2) a4 b6⟩
def zo_in (a : Nat) (G : Nat → Nat → Int) : Prop := zs_tk a G ∧ 0 ≤ G a 21 ∧ G a 21 ≤ 12 ∧ 0 ≤ G a 23 ∧ G a 23 ≤ G a 14 ∧ ∀ c : Nat, (c : Int) < G a 21 → zo_pr a G (8 * c + 1) ∧ zo_pr a G (8 * c + 3) ∧ zo_pr a G (8 * c + 5)
theorem zo_ext_mu {a : Nat} {is : Int} {G G' : Nat → Nat → Int} (htk : zs_tk a G) (htk' : zs_tk a G') (hm : zs_mu a is G G') (h0 : G a 23 ≤ G a 14) (h23 : G' a 23 = G a 23) (h24 : ∀ j, zv G' a 24 j = zv G a 24 j) (h25 : ∀ j, zv G' a 25 j = zv G a 25 j) : zo_ext a G G' := by
  have h2 := htk.2.1
  have hle : G a 14 ≤ G' a 14 := by rcases hm with hm | hm <;> omega
  exact ⟨htk', hle, fun z => by rcases hm with hm | hm <;> omega, by omega, by omega, fun q _ => ⟨h24 q, h25 q⟩⟩
theorem zo_ext_same {a : Nat} {G G' : Nat → Nat → Int} (htk : zs_tk a G) (h0 : G a 23 ≤ G a 14) (h13 : G' a 13 = G a 13) (h14 : G' a 14 = G a 14) (h15 : G' a 15 = G a 15) (h16 : G' a 16 = G a 16) (h19 : G' a 19 = G a 19) (h23 : G' a 23 = G a 23) (h24 : ∀ j, zv G' a 24 j = zv G a 24 j) (h25 : ∀ j, zv G' a 25 j = zv G a 25 j) : zo_ext a G G' :=
  ⟨zs_tk_congr htk h13 h14 h15 h16, by omega, fun z => by omega, by omega, by omega, fun q _ => ⟨h24 q, h25 q⟩⟩
def zK_rs : zk_K := (zt_mn 289, prog_14_method_108_code, 2, (Option.none : Option Jvm.ClassFile.FieldType), 1, 12, [(2, 92, 0, 0), (0, 0, 0, 94)], [(none, [])], [(92, 14, 0), (92, 15, 0), (92, 16, 0), (92, 17, 0), (92, 18, 0), (92, 19, 0), (92, 30, 0), (92, 29, 0), (92, 23, 0), (68, 1001, 0), (69, 1001, 0), (70, 1001, 0), (71, 1001, 0), (92, 26, 0), (90, 1001, 0)], (7, 330, 0, 0))
def zφ_rs : (Nat → Option Nat) → (Nat → Nat → Int) → List Int → Prop := fun _ G ps => zs_tk (zp_0 ps) G ∧ G (zp_0 ps) 23 ≤ G (zp_0 ps) 14
def zψ_rs : (Nat → Option Nat) → (Nat → Nat → Int) → List Int → (Nat → Option Nat) → (Nat → Nat → Int) → Int → Prop := fun P G ps P' G' rn => P' = P ∧ zo_ext (zp_0 ps) G G' ∧ zo_pr (zp_0 ps) G' (ps.getD 1 0).toNat ∧ ∀ j : Nat, j ≠ (ps.getD 1 0).toNat → j ≠ (ps.getD 1 0).toNat + 1 → zv G' (zp_0 ps) 56 j = zv G (zp_0 ps) 56 j
theorem zX_rs {l : Launch} {w : zk_W} (hW : zh_W w) : zk_metX l w zt_dv zt_TB zK_rs (zp_A zφ_rs) (zp_B zψ_rs) ∧ zk_cok w zt_TB zK_rs := by
  refine zp_meth hW (pl := 2015) rfl (by decide +kernel) (fun p e R s m args below meth c Q u hx hb hE hQ hU5 heff hnL hok hφ => ?_)
  have hw := hW.1
  obtain ⟨p0, p1, hps, k0, k1⟩ := zp_ps2 hok
  obtain ⟨a, rfl, hp⟩ := zp_this k0
  have hrm : zk_Kr (zk_ev (zp_E zK_rs)) = zk_Kr zK_rs := rfl
  rw [hps] at hφ ⊢
  have hi1 := zp_int k1
  have hφ : zs_tk a (zp_n u.2.1) ∧ zp_n u.2.1 a 23 ≤ zp_n u.2.1 a 14 := hφ
  obtain ⟨htk, hle⟩ := hφ
  obtain ⟨at0, rfl⟩ := zp_nat hi1.1
  show zp_J p l e R s m args below meth c Q w u [] 0 [(0, 2, (a : Int)), (1, 0, (at0 : Int))] [] u.1 (zp_n u.2.1)
  refine zp_kn (k := 24) (a := a) hw (show zp_fd 92 24 = some (12, 2, 68, 0, 0) from rfl) rfl hp (fun hk24 => ?_)
  obtain ⟨b24, hb24, hq24⟩ := zp_this hk24
  refine zp_kn (k := 25) (a := a) hw (show zp_fd 92 25 = some (12, 2, 69, 0, 0) from rfl) rfl hp (fun hk25 => ?_)
  obtain ⟨b25, hb25, hq25⟩ := zp_this hk25
  refine zp_kn (k := 56) (a := a) hw (show zp_fd 92 56 = some (12, 2, 90, 0, 0) from rfl) rfl hp (fun hk56 => ?_)
  obtain ⟨b56, hb56, hq56⟩ := zp_this hk56
  refine zp_kn (k := 23) (a := a) hw (show zp_fd 92 23 = some (12, 0, 0, 0, 400) from rfl) rfl hp (fun hk23 => ?_)
  obtain ⟨nc, hnc⟩ := zp_nat (zp_int hk23).1
  have hncb := zp_int hk23
  rw [hnc] at hncb
  refine zp_kn (k := 19) (a := a) hw (show zp_fd 92 19 = some (12, 0, 0, 0, 1) from rfl) rfl hp (fun hk19 => ?_)
  have hxb := zp_int hk19
  refine zp_load (pc := 0) hx hb (zd_X12_readSum (0, .aload_n 0, 1, 0, []) (List.mem_of_getElem? (i := 0) rfl)) rfl (j := 0) rfl ?_
  refine zp_getf (n := (b56 : Int)) (pc := 1) hx hb hE hw (zd_X12_readSum (1, .getfield 149, 3, 0, []) (List.mem_of_getElem? (i := 1) rfl)) (j := 74) rfl rfl rfl hp hb56 ?_
  refine zp_load (pc := 4) hx hb (zd_X12_readSum (4, .iload_n 1, 1, 0, []) (List.mem_of_getElem? (i := 2) rfl)) rfl (j := 1) rfl ?_
  refine zp_load (pc := 5) hx hb (zd_X12_readSum (5, .aload_n 0, 1, 0, []) (List.mem_of_getElem? (i := 3) rfl)) rfl (j := 0) rfl ?_
  refine zp_getf (n := (nc : Int)) (pc := 6) hx hb hE hw (zd_X12_readSum (6, .getfield 279, 3, 0, []) (List.mem_of_getElem? (i := 4) rfl)) (j := 41) rfl rfl rfl hp hnc ?_
  refine zp_iast (j := at0) (pc := 9) hx hb hw heff (zd_X12_readSum (9, .iastore, 1, 0, []) (List.mem_of_getElem? (i := 5) rfl)) (show zp_ia 1 90 = some (96, 0, 0, (-2147483648), 2147483647) from rfl) hq56 (by omega) (by omega) (zp_o0 (by omega) (by omega) (by omega) (by omega)) rfl ?_
  refine zp_load (pc := 10) hx hb (zd_X12_readSum (10, .aload_n 0, 1, 0, []) (List.mem_of_getElem? (i := 6) rfl)) rfl (j := 0) rfl ?_
  refine zp_getf (n := ((zp_n u.2.1) a 19)) (pc := 11) hx hb hE hw (zd_X12_readSum (11, .getfield 240, 3, 0, []) (List.mem_of_getElem? (i := 7) rfl)) (j := 37) rfl rfl rfl hp ((zp_set_ne (Or.inl (zp_pne hp hq56 (by decide))))) ?_
  refine zp_if (pc := 14) (tgt := 22) hx hb (zd_X12_readSum (14, .ifCond .ne 8, 3, 0, []) (List.mem_of_getElem? (i := 8) rfl)) rfl (fun (hc185 : ¬ ((zp_n u.2.1) a 19) = 0) => ?_) (fun (hc185 : ¬ (¬ ((zp_n u.2.1) a 19) = 0)) => ?_)
  · refine zp_load (pc := 22) hx hb (zd_X12_readSum (22, .aload_n 0, 1, 0, []) (List.mem_of_getElem? (i := 12) rfl)) rfl (j := 0) rfl ?_
    refine zp_getf (n := (b56 : Int)) (pc := 23) hx hb hE hw (zd_X12_readSum (23, .getfield 149, 3, 0, []) (List.mem_of_getElem? (i := 13) rfl)) (j := 74) rfl rfl rfl hp ((zp_set_ne (Or.inl (zp_pne hp hq56 (by decide)))).trans (hb56)) ?_
    refine zp_load (pc := 26) hx hb (zd_X12_readSum (26, .iload_n 1, 1, 0, []) (List.mem_of_getElem? (i := 14) rfl)) rfl (j := 1) rfl ?_
    refine zp_const (pc := 27) hx hb (zd_X12_readSum (27, .iconst 1, 1, 0, []) (List.mem_of_getElem? (i := 15) rfl)) rfl rfl ?_
    refine zp_add (n := ((at0 : Int) + 1)) (pc := 28) hx hb (zd_X12_readSum (28, .iadd, 1, 0, []) (List.mem_of_getElem? (i := 16) rfl)) (by omega) (zp_r0 (by omega) (by omega)) ?_
    refine zp_load (pc := 29) hx hb (zd_X12_readSum (29, .aload_n 0, 1, 0, []) (List.mem_of_getElem? (i := 17) rfl)) rfl (j := 0) rfl ?_
    refine zp_getf (n := (nc : Int)) (pc := 30) hx hb hE hw (zd_X12_readSum (30, .getfield 279, 3, 0, []) (List.mem_of_getElem? (i := 18) rfl)) (j := 41) rfl rfl rfl hp ((zp_set_ne (Or.inl (zp_pne hp hq56 (by decide)))).trans (hnc)) ?_
    refine zp_iast (j := (at0 + 1)) (pc := 33) hx hb hw heff (zd_X12_readSum (33, .iastore, 1, 0, []) (List.mem_of_getElem? (i := 19) rfl)) (show zp_ia 1 90 = some (96, 0, 0, (-2147483648), 2147483647) from rfl) hq56 (by omega) (by omega) (zp_o0 (by omega) (by omega) (by omega) (by omega)) rfl ?_
    have g13 : (zp_set (zp_set (zp_n u.2.1) b56 (2000 + at0) (nc : Int)) b56 (2000 + (at0 + 1)) (nc : Int)) a 13 = ((zp_n u.2.1) a 13) := ((zp_set_ne (Or.inl (zp_pne hp hq56 (by decide)))).trans ((zp_set_ne (Or.inl (zp_pne hp hq56 (by decide))))))
    have g14 : (zp_set (zp_set (zp_n u.2.1) b56 (2000 + at0) (nc : Int)) b56 (2000 + (at0 + 1)) (nc : Int)) a 14 = ((zp_n u.2.1) a 14) := ((zp_set_ne (Or.inl (zp_pne hp hq56 (by decide)))).trans ((zp_set_ne (Or.inl (zp_pne hp hq56 (by decide))))))
    have g15 : (zp_set (zp_set (zp_n u.2.1) b56 (2000 + at0) (nc : Int)) b56 (2000 + (at0 + 1)) (nc : Int)) a 15 = ((zp_n u.2.1) a 15) := ((zp_set_ne (Or.inl (zp_pne hp hq56 (by decide)))).trans ((zp_set_ne (Or.inl (zp_pne hp hq56 (by decide))))))
    have g16 : (zp_set (zp_set (zp_n u.2.1) b56 (2000 + at0) (nc : Int)) b56 (2000 + (at0 + 1)) (nc : Int)) a 16 = ((zp_n u.2.1) a 16) := ((zp_set_ne (Or.inl (zp_pne hp hq56 (by decide)))).trans ((zp_set_ne (Or.inl (zp_pne hp hq56 (by decide))))))
    have g19 : (zp_set (zp_set (zp_n u.2.1) b56 (2000 + at0) (nc : Int)) b56 (2000 + (at0 + 1)) (nc : Int)) a 19 = ((zp_n u.2.1) a 19) := ((zp_set_ne (Or.inl (zp_pne hp hq56 (by decide)))).trans ((zp_set_ne (Or.inl (zp_pne hp hq56 (by decide))))))
    have g23 : (zp_set (zp_set (zp_n u.2.1) b56 (2000 + at0) (nc : Int)) b56 (2000 + (at0 + 1)) (nc : Int)) a 23 = (nc : Int) := ((zp_set_ne (Or.inl (zp_pne hp hq56 (by decide)))).trans ((zp_set_ne (Or.inl (zp_pne hp hq56 (by decide)))).trans (hnc)))
    have g24 : (zp_set (zp_set (zp_n u.2.1) b56 (2000 + at0) (nc : Int)) b56 (2000 + (at0 + 1)) (nc : Int)) a 24 = (b24 : Int) := ((zp_set_ne (Or.inl (zp_pne hp hq56 (by decide)))).trans ((zp_set_ne (Or.inl (zp_pne hp hq56 (by decide)))).trans (hb24)))
    have g25 : (zp_set (zp_set (zp_n u.2.1) b56 (2000 + at0) (nc : Int)) b56 (2000 + (at0 + 1)) (nc : Int)) a 25 = (b25 : Int) := ((zp_set_ne (Or.inl (zp_pne hp hq56 (by decide)))).trans ((zp_set_ne (Or.inl (zp_pne hp hq56 (by decide)))).trans (hb25)))
    have g56 : (zp_set (zp_set (zp_n u.2.1) b56 (2000 + at0) (nc : Int)) b56 (2000 + (at0 + 1)) (nc : Int)) a 56 = (b56 : Int) := ((zp_set_ne (Or.inl (zp_pne hp hq56 (by decide)))).trans ((zp_set_ne (Or.inl (zp_pne hp hq56 (by decide)))).trans (hb56)))
    have o0 : zv (zp_set (zp_set (zp_n u.2.1) b56 (2000 + at0) (nc : Int)) b56 (2000 + (at0 + 1)) (nc : Int)) a 56 at0 = (nc : Int) := by rw [zv_eq g56]; exact ((zp_set_ne (Or.inr (by omega))).trans (zp_set_self))
    have o1 : zv (zp_set (zp_set (zp_n u.2.1) b56 (2000 + at0) (nc : Int)) b56 (2000 + (at0 + 1)) (nc : Int)) a 56 (at0 + 1) = (nc : Int) := by rw [zv_eq g56]; exact zp_set_self
    have c24 : ∀ q, zv (zp_set (zp_set (zp_n u.2.1) b56 (2000 + at0) (nc : Int)) b56 (2000 + (at0 + 1)) (nc : Int)) a 24 q = zv (zp_n u.2.1) a 24 q := fun q => by rw [zv_eq g24, zv_eq hb24, zp_set_ne (Or.inl (zp_pne hq24 hq56 (by decide))), zp_set_ne (Or.inl (zp_pne hq24 hq56 (by decide)))]
    have c25 : ∀ q, zv (zp_set (zp_set (zp_n u.2.1) b56 (2000 + at0) (nc : Int)) b56 (2000 + (at0 + 1)) (nc : Int)) a 25 q = zv (zp_n u.2.1) a 25 q := fun q => by rw [zv_eq g25, zv_eq hb25, zp_set_ne (Or.inl (zp_pne hq25 hq56 (by decide))), zp_set_ne (Or.inl (zp_pne hq25 hq56 (by decide)))]
    refine zp_vret (pc := 34) hx hb hE hQ hU5 rfl (by decide) (zd_X12_readSum (34, .return_, 1, 0, []) (List.mem_of_getElem? (i := 20) rfl)) (j := 0) rfl ?_
    rw [hps]
    refine ⟨rfl, ?_⟩
    show zo_ext a (zp_n u.2.1) (zp_set (zp_set (zp_n u.2.1) b56 (2000 + at0) (nc : Int)) b56 (2000 + (at0 + 1)) (nc : Int)) ∧ zo_pr a (zp_set (zp_set (zp_n u.2.1) b56 (2000 + at0) (nc : Int)) b56 (2000 + (at0 + 1)) (nc : Int)) at0 ∧ ∀ j : Nat, j ≠ at0 → j ≠ at0 + 1 → zv (zp_set (zp_set (zp_n u.2.1) b56 (2000 + at0) (nc : Int)) b56 (2000 + (at0 + 1)) (nc : Int)) a 56 j = zv (zp_n u.2.1) a 56 j
    refine ⟨⟨zs_tk_congr htk g13 g14 g15 g16, by omega, fun z => by omega, by omega, by omega, fun q hq => ⟨c24 q, c25 q⟩⟩, ⟨by omega, by omega, by omega, by omega, fun z z2 => by omega⟩, fun j j1 j2 => ?_⟩
    rw [zv_eq g56, zv_eq hb56]
    exact ((zp_set_ne (Or.inr (by omega))).trans ((zp_set_ne (Or.inr (by omega)))))
  · refine zp_load (pc := 17) hx hb (zd_X12_readSum (17, .aload_n 0, 1, 0, []) (List.mem_of_getElem? (i := 9) rfl)) rfl (j := 0) rfl ?_
    refine zp_const (pc := 18) hx hb (zd_X12_readSum (18, .iconst 0, 1, 0, []) (List.mem_of_getElem? (i := 10) rfl)) rfl rfl ?_
    have f13 : (zp_set (zp_n u.2.1) b56 (2000 + at0) (nc : Int)) a 13 = ((zp_n u.2.1) a 13) := ((zp_set_ne (Or.inl (zp_pne hp hq56 (by decide)))))
    have f14 : (zp_set (zp_n u.2.1) b56 (2000 + at0) (nc : Int)) a 14 = ((zp_n u.2.1) a 14) := ((zp_set_ne (Or.inl (zp_pne hp hq56 (by decide)))))
    have f15 : (zp_set (zp_n u.2.1) b56 (2000 + at0) (nc : Int)) a 15 = ((zp_n u.2.1) a 15) := ((zp_set_ne (Or.inl (zp_pne hp hq56 (by decide)))))
    have f16 : (zp_set (zp_n u.2.1) b56 (2000 + at0) (nc : Int)) a 16 = ((zp_n u.2.1) a 16) := ((zp_set_ne (Or.inl (zp_pne hp hq56 (by decide)))))
    have f19 : (zp_set (zp_n u.2.1) b56 (2000 + at0) (nc : Int)) a 19 = ((zp_n u.2.1) a 19) := ((zp_set_ne (Or.inl (zp_pne hp hq56 (by decide)))))
    have f23 : (zp_set (zp_n u.2.1) b56 (2000 + at0) (nc : Int)) a 23 = (nc : Int) := ((zp_set_ne (Or.inl (zp_pne hp hq56 (by decide)))).trans (hnc))
    have ctk : zs_tk a (zp_set (zp_n u.2.1) b56 (2000 + at0) (nc : Int)) := zs_tk_congr htk f13 f14 f15 f16
    refine zp_call (pc := 19) (how := 0) (idx := 374) (mi := 218) (S := []) hx hb hE hw heff hrm (zX_ex hW) rfl (j := 20) rfl rfl (by decide +kernel) (zd_X12_readSum (19, .invokevirtual 374, 3, 0, []) (List.mem_of_getElem? (i := 11) rfl)) [(a : Int), 0] rfl ⟨zp_o2 hp, zp_o0 (by decide) (by decide) (by decide) (by decide), trivial⟩ (Nat.le_of_ble_eq_true rfl) (show zs_tk a (zp_set (zp_n u.2.1) b56 (2000 + at0) (nc : Int)) ∧ (zp_set (zp_n u.2.1) b56 (2000 + at0) (nc : Int)) a 23 ≤ (zp_set (zp_n u.2.1) b56 (2000 + at0) (nc : Int)) a 14 from ⟨ctk, by omega⟩) (fun al hal rne Pe Ge hexte hfre hoke hcse hpsie => ?_)
    obtain rfl := List.mem_singleton.mp hal
    obtain ⟨rfl, hxe⟩ := hpsie
    have hxe : zx_tells a (zp_set (zp_n u.2.1) b56 (2000 + at0) (nc : Int)) Ge := hxe
    obtain ⟨x1, x2, x3, x4, x5, x6, x7⟩ := hxe
    obtain ⟨n1, hn1⟩ := zp_nat (n := Ge a 23) (by omega)
    have e24 : Ge a 24 = (b24 : Int) := ((zp_nf hfre hp rfl).trans ((zp_set_ne (Or.inl (zp_pne hp hq56 (by decide)))).trans (hb24)))
    have e25 : Ge a 25 = (b25 : Int) := ((zp_nf hfre hp rfl).trans ((zp_set_ne (Or.inl (zp_pne hp hq56 (by decide)))).trans (hb25)))
    refine zp_kn (k := 23) (a := a) (G := Ge) hw (show zp_fd 92 23 = some (12, 0, 0, 0, 400) from rfl) rfl hp (fun hk23 => ?_)
    have hx23 := zp_int hk23
    refine zp_load (pc := 22) hx hb (zd_X12_readSum (22, .aload_n 0, 1, 0, []) (List.mem_of_getElem? (i := 12) rfl)) rfl (j := 0) rfl ?_
    refine zp_getf (n := (b56 : Int)) (pc := 23) hx hb hE hw (zd_X12_readSum (23, .getfield 149, 3, 0, []) (List.mem_of_getElem? (i := 13) rfl)) (j := 74) rfl rfl rfl hp ((zp_nf hfre hp rfl).trans ((zp_set_ne (Or.inl (zp_pne hp hq56 (by decide)))).trans (hb56))) ?_
    refine zp_load (pc := 26) hx hb (zd_X12_readSum (26, .iload_n 1, 1, 0, []) (List.mem_of_getElem? (i := 14) rfl)) rfl (j := 1) rfl ?_
    refine zp_const (pc := 27) hx hb (zd_X12_readSum (27, .iconst 1, 1, 0, []) (List.mem_of_getElem? (i := 15) rfl)) rfl rfl ?_
    refine zp_add (n := ((at0 : Int) + 1)) (pc := 28) hx hb (zd_X12_readSum (28, .iadd, 1, 0, []) (List.mem_of_getElem? (i := 16) rfl)) (by omega) (zp_r0 (by omega) (by omega)) ?_
    refine zp_load (pc := 29) hx hb (zd_X12_readSum (29, .aload_n 0, 1, 0, []) (List.mem_of_getElem? (i := 17) rfl)) rfl (j := 0) rfl ?_
    refine zp_getf (n := (n1 : Int)) (pc := 30) hx hb hE hw (zd_X12_readSum (30, .getfield 279, 3, 0, []) (List.mem_of_getElem? (i := 18) rfl)) (j := 41) rfl rfl rfl hp hn1 ?_
    refine zp_iast (j := (at0 + 1)) (pc := 33) hx hb hw heff (zd_X12_readSum (33, .iastore, 1, 0, []) (List.mem_of_getElem? (i := 19) rfl)) (show zp_ia 1 90 = some (96, 0, 0, (-2147483648), 2147483647) from rfl) hq56 (by omega) (by omega) (zp_o0 (by omega) (by omega) (by omega) (by omega)) rfl ?_
    have g13 : (zp_set Ge b56 (2000 + (at0 + 1)) (n1 : Int)) a 13 = ((zp_n u.2.1) a 13) := ((zp_set_ne (Or.inl (zp_pne hp hq56 (by decide)))).trans (((zp_nf hfre hp rfl).trans ((zp_set_ne (Or.inl (zp_pne hp hq56 (by decide))))))))
    have g14 : (zp_set Ge b56 (2000 + (at0 + 1)) (n1 : Int)) a 14 = (Ge a 14) := ((zp_set_ne (Or.inl (zp_pne hp hq56 (by decide)))))
    have g15 : (zp_set Ge b56 (2000 + (at0 + 1)) (n1 : Int)) a 15 = (Ge a 15) := ((zp_set_ne (Or.inl (zp_pne hp hq56 (by decide)))))
    have g16 : (zp_set Ge b56 (2000 + (at0 + 1)) (n1 : Int)) a 16 = (Ge a 16) := ((zp_set_ne (Or.inl (zp_pne hp hq56 (by decide)))))
    have g19 : (zp_set Ge b56 (2000 + (at0 + 1)) (n1 : Int)) a 19 = (Ge a 19) := ((zp_set_ne (Or.inl (zp_pne hp hq56 (by decide)))))
    have g23 : (zp_set Ge b56 (2000 + (at0 + 1)) (n1 : Int)) a 23 = (n1 : Int) := ((zp_set_ne (Or.inl (zp_pne hp hq56 (by decide)))).trans (hn1))
    have g24 : (zp_set Ge b56 (2000 + (at0 + 1)) (n1 : Int)) a 24 = (b24 : Int) := ((zp_set_ne (Or.inl (zp_pne hp hq56 (by decide)))).trans (e24))
    have g25 : (zp_set Ge b56 (2000 + (at0 + 1)) (n1 : Int)) a 25 = (b25 : Int) := ((zp_set_ne (Or.inl (zp_pne hp hq56 (by decide)))).trans (e25))
    have g56 : (zp_set Ge b56 (2000 + (at0 + 1)) (n1 : Int)) a 56 = (b56 : Int) := ((zp_set_ne (Or.inl (zp_pne hp hq56 (by decide)))).trans (((zp_nf hfre hp rfl).trans ((zp_set_ne (Or.inl (zp_pne hp hq56 (by decide)))).trans (hb56)))))
    have o0 : zv (zp_set Ge b56 (2000 + (at0 + 1)) (n1 : Int)) a 56 at0 = (nc : Int) := by rw [zv_eq g56]; exact ((zp_set_ne (Or.inr (by omega))).trans (((zp_nc hfre hq56 rfl (2000 + at0)).trans zp_set_self)))
    have o1 : zv (zp_set Ge b56 (2000 + (at0 + 1)) (n1 : Int)) a 56 (at0 + 1) = (n1 : Int) := by rw [zv_eq g56]; exact zp_set_self
    have c24 : ∀ q, zv (zp_set Ge b56 (2000 + (at0 + 1)) (n1 : Int)) a 24 q = zv Ge a 24 q := fun q => by rw [zv_eq g24, zv_eq e24, zp_set_ne (Or.inl (zp_pne hq24 hq56 (by decide)))]
    have c25 : ∀ q, zv (zp_set Ge b56 (2000 + (at0 + 1)) (n1 : Int)) a 25 q = zv Ge a 25 q := fun q => by rw [zv_eq g25, zv_eq e25, zp_set_ne (Or.inl (zp_pne hq25 hq56 (by decide)))]
    have d24 : ∀ q, zv (zp_set (zp_n u.2.1) b56 (2000 + at0) (nc : Int)) a 24 q = zv (zp_n u.2.1) a 24 q := fun q => by rw [zv_eq (show (zp_set (zp_n u.2.1) b56 (2000 + at0) (nc : Int)) a 24 = (b24 : Int) from ((zp_set_ne (Or.inl (zp_pne hp hq56 (by decide)))).trans (hb24))), zv_eq hb24, zp_set_ne (Or.inl (zp_pne hq24 hq56 (by decide)))]
    have d25 : ∀ q, zv (zp_set (zp_n u.2.1) b56 (2000 + at0) (nc : Int)) a 25 q = zv (zp_n u.2.1) a 25 q := fun q => by rw [zv_eq (show (zp_set (zp_n u.2.1) b56 (2000 + at0) (nc : Int)) a 25 = (b25 : Int) from ((zp_set_ne (Or.inl (zp_pne hp hq56 (by decide)))).trans (hb25))), zv_eq hb25, zp_set_ne (Or.inl (zp_pne hq25 hq56 (by decide)))]
    refine zp_vret (pc := 34) hx hb hE hQ hU5 rfl (by decide) (zd_X12_readSum (34, .return_, 1, 0, []) (List.mem_of_getElem? (i := 20) rfl)) (j := 0) rfl ?_
    rw [hps]
    refine ⟨rfl, ?_⟩
    show zo_ext a (zp_n u.2.1) (zp_set Ge b56 (2000 + (at0 + 1)) (n1 : Int)) ∧ zo_pr a (zp_set Ge b56 (2000 + (at0 + 1)) (n1 : Int)) at0 ∧ ∀ j : Nat, j ≠ at0 → j ≠ at0 + 1 → zv (zp_set Ge b56 (2000 + (at0 + 1)) (n1 : Int)) a 56 j = zv (zp_n u.2.1) a 56 j
    have s14 : (zp_set Ge b56 (2000 + (at0 + 1)) (n1 : Int)) a 14 = Ge a 14 := ((zp_set_ne (Or.inl (zp_pne hp hq56 (by decide)))))
    have s19 : (zp_set Ge b56 (2000 + (at0 + 1)) (n1 : Int)) a 19 = Ge a 19 := ((zp_set_ne (Or.inl (zp_pne hp hq56 (by decide)))))
    refine ⟨⟨zs_tk_congr x1 ((zp_set_ne (Or.inl (zp_pne hp hq56 (by decide))))) ((zp_set_ne (Or.inl (zp_pne hp hq56 (by decide))))) ((zp_set_ne (Or.inl (zp_pne hp hq56 (by decide))))) ((zp_set_ne (Or.inl (zp_pne hp hq56 (by decide))))), by omega, fun z => ?_, by omega, by omega, fun q hq => ⟨?_, ?_⟩⟩, ⟨by omega, by omega, by omega, by omega, fun z _ => ?_⟩, fun j j1 j2 => ?_⟩
    · have h9 := x3 (by omega)
      omega
    · rw [c24, (x6 q (by omega)).1, d24]
    · rw [c25, (x6 q (by omega)).2, d25]
    · have h9 := x7 (by omega)
      rw [f23, hn1] at h9
      rw [o0, o1]
      exact zh_crc h9 (fun q _ _ => ⟨(c24 q).symm, (c25 q).symm⟩)
    rw [zv_eq g56, zv_eq hb56]
    exact ((zp_set_ne (Or.inr (by omega))).trans (((zp_nc hfre hq56 rfl (2000 + j)).trans ((zp_set_ne (Or.inr (by omega)))))))