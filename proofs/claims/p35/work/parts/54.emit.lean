/-! part 54: the parser: emit, push -/
def zp_0 (ps : List Int) : Nat := (ps.getD 0 0).toNat
theorem zp_set_el {G : Nat → Nat → Int} {b n j : Nat} {v : Int} : zp_set G b (2000 + n) v b (2000 + j) = if j = n then v else G b (2000 + j) := by
  unfold zp_set
  by_cases h : j = n
  · rw [if_pos h, if_pos ⟨rfl, by omega⟩]
  · rw [if_neg h, if_neg (fun z => h (by omega))]
def zK_em : zk_K := (zt_mn 227, prog_14_method_44_code, 3, (Option.none : Option Jvm.ClassFile.FieldType), 1, 12, [(2, 92, 0, 0), (0, 0, (-2147483648), 2147483647), (0, 0, (-2147483648), 2147483647)], [(none, [])], [(92, 23, 0), (68, 1001, 0), (69, 1001, 0)], (0, 0, 0, 0))
def zφ_em : (Nat → Option Nat) → (Nat → Nat → Int) → List Int → Prop := fun _ G ps => G (zp_0 ps) 23 < 400
def zψ_em : (Nat → Option Nat) → (Nat → Nat → Int) → List Int → (Nat → Option Nat) → (Nat → Nat → Int) → Int → Prop := fun P G ps P' G' _ => P' = P ∧ G' (zp_0 ps) 23 = G (zp_0 ps) 23 + 1 ∧ (∀ j : Nat, zv G' (zp_0 ps) 24 j = if j = (G (zp_0 ps) 23).toNat then ps.getD 1 0 else zv G (zp_0 ps) 24 j) ∧ ∀ j : Nat, zv G' (zp_0 ps) 25 j = if j = (G (zp_0 ps) 23).toNat then ps.getD 2 0 else zv G (zp_0 ps) 25 j
theorem zX_em {l : Launch} {w : zk_W} (hW : zh_W w) : zk_metX l w zt_dv zt_TB zK_em (zp_A zφ_em) (zp_B zψ_em) ∧ zk_cok w zt_TB zK_em := by
  refine zp_meth hW (pl := 1750) rfl (by decide +kernel) (fun p e R s m args below meth c Q u hx hb hE hQ h5 heff hnL hok hφ => ?_)
  have hw := hW.1
  obtain ⟨p0, p1, p2, hps, k0, k1, k2⟩ := zp_ps3 hok
  obtain ⟨a, rfl, hp⟩ := zp_this k0
  have hrm : zk_Kr (zk_ev (zp_E zK_em)) = zk_Kr zK_em := rfl
  rw [hps] at hφ ⊢
  have hφ : zp_n u.2.1 a 23 < 400 := hφ
  have hi1 := zp_int k1
  have hi2 := zp_int k2
  show zp_J p l e R s m args below meth c Q w u [] 0 [(0, 2, (a : Int)), (1, 0, p1), (2, 0, p2)] [] u.1 (zp_n u.2.1)
  refine zp_kn (k := 24) (a := a) hw (show zp_fd 92 24 = some (12, 2, 68, 0, 0) from rfl) rfl hp (fun hk24 => ?_)
  obtain ⟨b24, hb24, hq24⟩ := zp_this hk24
  refine zp_kn (k := 25) (a := a) hw (show zp_fd 92 25 = some (12, 2, 69, 0, 0) from rfl) rfl hp (fun hk25 => ?_)
  obtain ⟨b25, hb25, hq25⟩ := zp_this hk25
  refine zp_kn (k := 23) (a := a) hw (show zp_fd 92 23 = some (12, 0, 0, 0, 400) from rfl) rfl hp (fun hk23 => ?_)
  obtain ⟨nc, hnc⟩ := zp_nat (zp_int hk23).1
  have hncb := zp_int hk23
  rw [hnc] at hncb
  rw [hnc] at hφ
  refine zp_load (pc := 0) hx hb (zd_X12_emit (0, .aload_n 0, 1, 0, []) (List.mem_of_getElem? (i := 0) rfl)) rfl (j := 0) rfl ?_
  refine zp_getf (n := (b24 : Int)) (pc := 1) hx hb hE hw (zd_X12_emit (1, .getfield 45, 3, 0, []) (List.mem_of_getElem? (i := 1) rfl)) (j := 42) rfl rfl rfl hp hb24 ?_
  refine zp_load (pc := 4) hx hb (zd_X12_emit (4, .aload_n 0, 1, 0, []) (List.mem_of_getElem? (i := 2) rfl)) rfl (j := 0) rfl ?_
  refine zp_getf (n := (nc : Int)) (pc := 5) hx hb hE hw (zd_X12_emit (5, .getfield 279, 3, 0, []) (List.mem_of_getElem? (i := 3) rfl)) (j := 41) rfl rfl rfl hp hnc ?_
  refine zp_load (pc := 8) hx hb (zd_X12_emit (8, .iload_n 1, 1, 0, []) (List.mem_of_getElem? (i := 4) rfl)) rfl (j := 1) rfl ?_
  refine zp_iast (j := nc) (pc := 9) hx hb hw heff (zd_X12_emit (9, .iastore, 1, 0, []) (List.mem_of_getElem? (i := 5) rfl)) (show zp_ia 1 68 = some (400, 0, 0, (-2147483648), 2147483647) from rfl) hq24 (by omega) (by omega) (zp_o0 (by omega) (by omega) (by omega) (by omega)) rfl ?_
  refine zp_load (pc := 10) hx hb (zd_X12_emit (10, .aload_n 0, 1, 0, []) (List.mem_of_getElem? (i := 6) rfl)) rfl (j := 0) rfl ?_
  refine zp_getf (n := (b25 : Int)) (pc := 11) hx hb hE hw (zd_X12_emit (11, .getfield 48, 3, 0, []) (List.mem_of_getElem? (i := 7) rfl)) (j := 43) rfl rfl rfl hp ((zp_set_ne (Or.inl (zp_pne hp hq24 (by decide)))).trans (hb25)) ?_
  refine zp_load (pc := 14) hx hb (zd_X12_emit (14, .aload_n 0, 1, 0, []) (List.mem_of_getElem? (i := 8) rfl)) rfl (j := 0) rfl ?_
  refine zp_getf (n := (nc : Int)) (pc := 15) hx hb hE hw (zd_X12_emit (15, .getfield 279, 3, 0, []) (List.mem_of_getElem? (i := 9) rfl)) (j := 41) rfl rfl rfl hp ((zp_set_ne (Or.inl (zp_pne hp hq24 (by decide)))).trans (hnc)) ?_
  refine zp_load (pc := 18) hx hb (zd_X12_emit (18, .iload_n 2, 1, 0, []) (List.mem_of_getElem? (i := 10) rfl)) rfl (j := 2) rfl ?_
  refine zp_iast (j := nc) (pc := 19) hx hb hw heff (zd_X12_emit (19, .iastore, 1, 0, []) (List.mem_of_getElem? (i := 11) rfl)) (show zp_ia 1 69 = some (400, 0, 0, (-2147483648), 2147483647) from rfl) hq25 (by omega) (by omega) (zp_o0 (by omega) (by omega) (by omega) (by omega)) rfl ?_
  refine zp_load (pc := 20) hx hb (zd_X12_emit (20, .aload_n 0, 1, 0, []) (List.mem_of_getElem? (i := 12) rfl)) rfl (j := 0) rfl ?_
  refine zp_dup (pc := 21) hx hb (zd_X12_emit (21, .dup, 1, 0, []) (List.mem_of_getElem? (i := 13) rfl)) (show (2 : Nat) ≠ 1 by decide) ?_
  refine zp_getf (n := (nc : Int)) (pc := 22) hx hb hE hw (zd_X12_emit (22, .getfield 279, 3, 0, []) (List.mem_of_getElem? (i := 14) rfl)) (j := 41) rfl rfl rfl hp ((zp_set_ne (Or.inl (zp_pne hp hq25 (by decide)))).trans ((zp_set_ne (Or.inl (zp_pne hp hq24 (by decide)))).trans (hnc))) ?_
  refine zp_const (pc := 25) hx hb (zd_X12_emit (25, .iconst 1, 1, 0, []) (List.mem_of_getElem? (i := 15) rfl)) rfl rfl ?_
  refine zp_add (n := ((nc : Int) + 1)) (pc := 26) hx hb (zd_X12_emit (26, .iadd, 1, 0, []) (List.mem_of_getElem? (i := 16) rfl)) (by omega) (zp_r0 (by omega) (by omega)) ?_
  refine zp_putf (pc := 27) hx hb hE hw heff (zd_X12_emit (27, .putfield 279, 3, 0, []) (List.mem_of_getElem? (i := 17) rfl)) (j := 41) rfl rfl rfl hp (zp_o0 (by omega) (by omega) (by omega) (by omega)) ?_
  refine zp_vret (pc := 30) hx hb hE hQ h5 rfl (by decide) (zd_X12_emit (30, .return_, 1, 0, []) (List.mem_of_getElem? (i := 18) rfl)) (j := 0) rfl ?_
  rw [hps]
  refine ⟨rfl, ?_, fun j => ?_, fun j => ?_⟩
  · show (zp_set (zp_set (zp_set (zp_n u.2.1) b24 (2000 + nc) p1) b25 (2000 + nc) p2) a 23 ((nc : Int) + 1)) a 23 = zp_n u.2.1 a 23 + 1
    rw [hnc]
    exact zp_set_self
  · show zv (zp_set (zp_set (zp_set (zp_n u.2.1) b24 (2000 + nc) p1) b25 (2000 + nc) p2) a 23 ((nc : Int) + 1)) a 24 j = if j = (zp_n u.2.1 a 23).toNat then p1 else zv (zp_n u.2.1) a 24 j
    rw [zv_eq ((zp_set_ne (Or.inr (by decide))).trans ((zp_set_ne (Or.inl (zp_pne hp hq25 (by decide)))).trans ((zp_set_ne (Or.inl (zp_pne hp hq24 (by decide)))).trans (hb24)))), zv_eq hb24, hnc, Int.toNat_natCast]
    rw [zp_set_ne (Or.inl (zp_pne hq24 hp (by decide)))]
    rw [zp_set_ne (Or.inl (zp_pne hq24 hq25 (by decide)))]
    rw [zp_set_el]
  · show zv (zp_set (zp_set (zp_set (zp_n u.2.1) b24 (2000 + nc) p1) b25 (2000 + nc) p2) a 23 ((nc : Int) + 1)) a 25 j = if j = (zp_n u.2.1 a 23).toNat then p2 else zv (zp_n u.2.1) a 25 j
    rw [zv_eq ((zp_set_ne (Or.inr (by decide))).trans ((zp_set_ne (Or.inl (zp_pne hp hq25 (by decide)))).trans ((zp_set_ne (Or.inl (zp_pne hp hq24 (by decide)))).trans (hb25)))), zv_eq hb25, hnc, Int.toNat_natCast]
    rw [zp_set_ne (Or.inl (zp_pne hq25 hp (by decide)))]
    rw [zp_set_el]
    rw [zp_set_ne (Or.inl (zp_pne hq25 hq24 (by decide)))]
def zK_pu : zk_K := (zt_mn 220, prog_14_method_45_code, 3, (Option.none : Option Jvm.ClassFile.FieldType), 1, 12, [(2, 92, 0, 0), (0, 0, (-2147483648), 2147483647), (0, 0, (-2147483648), 2147483647)], [(none, [])], [(92, 29, 0), (70, 1001, 0), (71, 1001, 0)], (0, 0, 0, 0))
def zφ_pu : (Nat → Option Nat) → (Nat → Nat → Int) → List Int → Prop := fun _ G ps => G (zp_0 ps) 29 < 400
def zψ_pu : (Nat → Option Nat) → (Nat → Nat → Int) → List Int → (Nat → Option Nat) → (Nat → Nat → Int) → Int → Prop := fun P G ps P' G' _ => P' = P ∧ G' (zp_0 ps) 29 = G (zp_0 ps) 29 + 1 ∧ (∀ j : Nat, zv G' (zp_0 ps) 27 j = if j = (G (zp_0 ps) 29).toNat then ps.getD 1 0 else zv G (zp_0 ps) 27 j) ∧ ∀ j : Nat, zv G' (zp_0 ps) 28 j = if j = (G (zp_0 ps) 29).toNat then ps.getD 2 0 else zv G (zp_0 ps) 28 j
theorem zX_pu {l : Launch} {w : zk_W} (hW : zh_W w) : zk_metX l w zt_dv zt_TB zK_pu (zp_A zφ_pu) (zp_B zψ_pu) ∧ zk_cok w zt_TB zK_pu := by
  refine zp_meth hW (pl := 1721) rfl (by decide +kernel) (fun p e R s m args below meth c Q u hx hb hE hQ h5 heff hnL hok hφ => ?_)
  have hw := hW.1
  obtain ⟨p0, p1, p2, hps, k0, k1, k2⟩ := zp_ps3 hok
  obtain ⟨a, rfl, hp⟩ := zp_this k0
  have hrm : zk_Kr (zk_ev (zp_E zK_pu)) = zk_Kr zK_pu := rfl
  rw [hps] at hφ ⊢
  have hφ : zp_n u.2.1 a 29 < 400 := hφ
  have hi1 := zp_int k1
  have hi2 := zp_int k2
  show zp_J p l e R s m args below meth c Q w u [] 0 [(0, 2, (a : Int)), (1, 0, p1), (2, 0, p2)] [] u.1 (zp_n u.2.1)
  refine zp_kn (k := 27) (a := a) hw (show zp_fd 92 27 = some (12, 2, 70, 0, 0) from rfl) rfl hp (fun hk27 => ?_)
  obtain ⟨b27, hb27, hq27⟩ := zp_this hk27
  refine zp_kn (k := 28) (a := a) hw (show zp_fd 92 28 = some (12, 2, 71, 0, 0) from rfl) rfl hp (fun hk28 => ?_)
  obtain ⟨b28, hb28, hq28⟩ := zp_this hk28
  refine zp_kn (k := 29) (a := a) hw (show zp_fd 92 29 = some (12, 0, 0, 0, 400) from rfl) rfl hp (fun hk29 => ?_)
  obtain ⟨nc, hnc⟩ := zp_nat (zp_int hk29).1
  have hncb := zp_int hk29
  rw [hnc] at hncb
  rw [hnc] at hφ
  refine zp_load (pc := 0) hx hb (zd_X12_push (0, .aload_n 0, 1, 0, []) (List.mem_of_getElem? (i := 0) rfl)) rfl (j := 0) rfl ?_
  refine zp_getf (n := (b27 : Int)) (pc := 1) hx hb hE hw (zd_X12_push (1, .getfield 51, 3, 0, []) (List.mem_of_getElem? (i := 1) rfl)) (j := 45) rfl rfl rfl hp hb27 ?_
  refine zp_load (pc := 4) hx hb (zd_X12_push (4, .aload_n 0, 1, 0, []) (List.mem_of_getElem? (i := 2) rfl)) rfl (j := 0) rfl ?_
  refine zp_getf (n := (nc : Int)) (pc := 5) hx hb hE hw (zd_X12_push (5, .getfield 282, 3, 0, []) (List.mem_of_getElem? (i := 3) rfl)) (j := 47) rfl rfl rfl hp hnc ?_
  refine zp_load (pc := 8) hx hb (zd_X12_push (8, .iload_n 1, 1, 0, []) (List.mem_of_getElem? (i := 4) rfl)) rfl (j := 1) rfl ?_
  refine zp_iast (j := nc) (pc := 9) hx hb hw heff (zd_X12_push (9, .iastore, 1, 0, []) (List.mem_of_getElem? (i := 5) rfl)) (show zp_ia 1 70 = some (400, 0, 0, (-2147483648), 2147483647) from rfl) hq27 (by omega) (by omega) (zp_o0 (by omega) (by omega) (by omega) (by omega)) rfl ?_
  refine zp_load (pc := 10) hx hb (zd_X12_push (10, .aload_n 0, 1, 0, []) (List.mem_of_getElem? (i := 6) rfl)) rfl (j := 0) rfl ?_
  refine zp_getf (n := (b28 : Int)) (pc := 11) hx hb hE hw (zd_X12_push (11, .getfield 54, 3, 0, []) (List.mem_of_getElem? (i := 7) rfl)) (j := 46) rfl rfl rfl hp ((zp_set_ne (Or.inl (zp_pne hp hq27 (by decide)))).trans (hb28)) ?_
  refine zp_load (pc := 14) hx hb (zd_X12_push (14, .aload_n 0, 1, 0, []) (List.mem_of_getElem? (i := 8) rfl)) rfl (j := 0) rfl ?_
  refine zp_getf (n := (nc : Int)) (pc := 15) hx hb hE hw (zd_X12_push (15, .getfield 282, 3, 0, []) (List.mem_of_getElem? (i := 9) rfl)) (j := 47) rfl rfl rfl hp ((zp_set_ne (Or.inl (zp_pne hp hq27 (by decide)))).trans (hnc)) ?_
  refine zp_load (pc := 18) hx hb (zd_X12_push (18, .iload_n 2, 1, 0, []) (List.mem_of_getElem? (i := 10) rfl)) rfl (j := 2) rfl ?_
  refine zp_iast (j := nc) (pc := 19) hx hb hw heff (zd_X12_push (19, .iastore, 1, 0, []) (List.mem_of_getElem? (i := 11) rfl)) (show zp_ia 1 71 = some (400, 0, 0, (-2147483648), 2147483647) from rfl) hq28 (by omega) (by omega) (zp_o0 (by omega) (by omega) (by omega) (by omega)) rfl ?_
  refine zp_load (pc := 20) hx hb (zd_X12_push (20, .aload_n 0, 1, 0, []) (List.mem_of_getElem? (i := 12) rfl)) rfl (j := 0) rfl ?_
  refine zp_dup (pc := 21) hx hb (zd_X12_push (21, .dup, 1, 0, []) (List.mem_of_getElem? (i := 13) rfl)) (show (2 : Nat) ≠ 1 by decide) ?_
  refine zp_getf (n := (nc : Int)) (pc := 22) hx hb hE hw (zd_X12_push (22, .getfield 282, 3, 0, []) (List.mem_of_getElem? (i := 14) rfl)) (j := 47) rfl rfl rfl hp ((zp_set_ne (Or.inl (zp_pne hp hq28 (by decide)))).trans ((zp_set_ne (Or.inl (zp_pne hp hq27 (by decide)))).trans (hnc))) ?_
  refine zp_const (pc := 25) hx hb (zd_X12_push (25, .iconst 1, 1, 0, []) (List.mem_of_getElem? (i := 15) rfl)) rfl rfl ?_
  refine zp_add (n := ((nc : Int) + 1)) (pc := 26) hx hb (zd_X12_push (26, .iadd, 1, 0, []) (List.mem_of_getElem? (i := 16) rfl)) (by omega) (zp_r0 (by omega) (by omega)) ?_
  refine zp_putf (pc := 27) hx hb hE hw heff (zd_X12_push (27, .putfield 282, 3, 0, []) (List.mem_of_getElem? (i := 17) rfl)) (j := 47) rfl rfl rfl hp (zp_o0 (by omega) (by omega) (by omega) (by omega)) ?_
  refine zp_vret (pc := 30) hx hb hE hQ h5 rfl (by decide) (zd_X12_push (30, .return_, 1, 0, []) (List.mem_of_getElem? (i := 18) rfl)) (j := 0) rfl ?_
  rw [hps]
  refine ⟨rfl, ?_, fun j => ?_, fun j => ?_⟩
  · show (zp_set (zp_set (zp_set (zp_n u.2.1) b27 (2000 + nc) p1) b28 (2000 + nc) p2) a 29 ((nc : Int) + 1)) a 29 = zp_n u.2.1 a 29 + 1
    rw [hnc]
    exact zp_set_self
  · show zv (zp_set (zp_set (zp_set (zp_n u.2.1) b27 (2000 + nc) p1) b28 (2000 + nc) p2) a 29 ((nc : Int) + 1)) a 27 j = if j = (zp_n u.2.1 a 29).toNat then p1 else zv (zp_n u.2.1) a 27 j
    rw [zv_eq ((zp_set_ne (Or.inr (by decide))).trans ((zp_set_ne (Or.inl (zp_pne hp hq28 (by decide)))).trans ((zp_set_ne (Or.inl (zp_pne hp hq27 (by decide)))).trans (hb27)))), zv_eq hb27, hnc, Int.toNat_natCast]
    rw [zp_set_ne (Or.inl (zp_pne hq27 hp (by decide)))]
    rw [zp_set_ne (Or.inl (zp_pne hq27 hq28 (by decide)))]
    rw [zp_set_el]
  · show zv (zp_set (zp_set (zp_set (zp_n u.2.1) b27 (2000 + nc) p1) b28 (2000 + nc) p2) a 29 ((nc : Int) + 1)) a 28 j = if j = (zp_n u.2.1 a 29).toNat then p2 else zv (zp_n u.2.1) a 28 j
    rw [zv_eq ((zp_set_ne (Or.inr (by decide))).trans ((zp_set_ne (Or.inl (zp_pne hp hq28 (by decide)))).trans ((zp_set_ne (Or.inl (zp_pne hp hq27 (by decide)))).trans (hb28)))), zv_eq hb28, hnc, Int.toNat_natCast]
    rw [zp_set_ne (Or.inl (zp_pne hq28 hp (by decide)))]
    rw [zp_set_el]
    rw [zp_set_ne (Or.inl (zp_pne hq28 hq27 (by decide)))]
