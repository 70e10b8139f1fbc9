/-! part c2: the reference: emit, push, settle, next, exactly -/
noncomputable def zφD_em (bad : Int) (B : Nat → Int) (ln tk nl od : Nat) (pi : List (Int × Int)) (cd : yC) : (Nat → Option Nat) → (Nat → Nat → Int) → List Int → Prop := fun _ G ps => zD (zp_0 ps) G bad B ln tk nl od pi cd ∧ cd.2.2 < 400
noncomputable def zψD_em (bad : Int) (B : Nat → Int) (ln tk nl od : Nat) (pi : List (Int × Int)) (cd : yC) : (Nat → Option Nat) → (Nat → Nat → Int) → List Int → (Nat → Option Nat) → (Nat → Nat → Int) → Int → Prop := fun P G ps P' G' rn => P' = P ∧ zD (zp_0 ps) G' bad B ln tk nl od pi (yu cd.1 cd.2.2 (ps.getD 1 0), yu cd.2.1 cd.2.2 (ps.getD 2 0), cd.2.2 + 1)
theorem zY_em {l : Launch} {w : zk_W} (hW : zh_W w) (bad : Int) (B : Nat → Int) (ln tk nl od : Nat) (pi : List (Int × Int)) (cd : yC) : zk_metX l w zt_dv zt_TB zK_em (zp_A (zφD_em bad B ln tk nl od pi cd)) (zp_B (zψD_em bad B ln tk nl od pi cd)) ∧ zk_cok w zt_TB zK_em := by
  refine zp_meth hW (pl := 1750) rfl (by decide +kernel) (fun p e R s m args below meth c Q u hx hb hE hQ hU5 heff hnL hok hφ => ?_)
  have hw := hW.1
  obtain ⟨p0, p1, p2, hps, k0, k1, k2⟩ := zp_ps3 hok
  obtain ⟨a, rfl, hp⟩ := zp_this k0
  have hrm : zk_Kr (zk_ev (zp_E zK_em)) = zk_Kr zK_em := rfl
  rw [hps] at hφ ⊢
  have hi1 := zp_int k1
  have hi2 := zp_int k2
  have hφ : zD a (zp_n u.2.1) bad B ln tk nl od pi cd ∧ cd.2.2 < 400 := hφ
  obtain ⟨hD, hc4⟩ := hφ
  have hD2 := hD
  obtain ⟨⟨d13, dl, dt, d12, dB⟩, ⟨d14, d15, d16, d17⟩, ⟨d19, d18⟩, ⟨d23, d24, d25⟩, d26, ⟨d29, dp⟩, d30⟩ := hD2
  show zp_J p l e R s m args below meth c Q w u [] 0 [(0, 2, (a : Int)), (1, 0, p1), (2, 0, p2)] [] u.1 (zp_n u.2.1)
  refine zp_kn (k := 12) (a := a) hw (show zp_fd 92 12 = some (12, 2, 66, 0, 0) from rfl) rfl hp (fun hk12 => ?_)
  obtain ⟨b12, hb12, hq12⟩ := zp_this hk12
  refine zp_kn (k := 24) (a := a) hw (show zp_fd 92 24 = some (12, 2, 68, 0, 0) from rfl) rfl hp (fun hk24 => ?_)
  obtain ⟨b24, hb24, hq24⟩ := zp_this hk24
  refine zp_kn (k := 25) (a := a) hw (show zp_fd 92 25 = some (12, 2, 69, 0, 0) from rfl) rfl hp (fun hk25 => ?_)
  obtain ⟨b25, hb25, hq25⟩ := zp_this hk25
  refine zp_kn (k := 27) (a := a) hw (show zp_fd 92 27 = some (12, 2, 70, 0, 0) from rfl) rfl hp (fun hk27 => ?_)
  obtain ⟨b27, hb27, hq27⟩ := zp_this hk27
  refine zp_kn (k := 28) (a := a) hw (show zp_fd 92 28 = some (12, 2, 71, 0, 0) from rfl) rfl hp (fun hk28 => ?_)
  obtain ⟨b28, hb28, hq28⟩ := zp_this hk28
  have hDb : zDb a (zp_n u.2.1) b12 b24 b25 b27 b28 := ⟨⟨hb12, hb24, hb25, hb27, hb28⟩, ⟨zp_pne hq24 hp (by decide), zp_pne hq25 hp (by decide), zp_pne hq27 hp (by decide), zp_pne hq28 hp (by decide)⟩, ⟨zp_pne hq12 hq24 (by decide), zp_pne hq12 hq25 (by decide), zp_pne hq12 hq27 (by decide), zp_pne hq12 hq28 (by decide)⟩, zp_pne hq24 hq25 (by decide), zp_pne hq24 hq27 (by decide), zp_pne hq24 hq28 (by decide), zp_pne hq25 hq27 (by decide), zp_pne hq25 hq28 (by decide), zp_pne hq27 hq28 (by decide)⟩
  obtain ⟨nc, hnc⟩ : ∃ x : Nat, x = cd.2.2 := ⟨_, rfl⟩
  rw [← hnc] at d23 hc4
  refine zp_load (pc := 0) hx hb (zd_X12_emit (0, .aload_n 0, 1, 0, []) (List.mem_of_getElem? (i := 0) rfl)) rfl (j := 0) rfl ?_
  refine zp_getf (n := (b24 : Int)) (pc := 1) hx hb hE hw (zd_X12_emit (1, .getfield 45, 3, 0, []) (List.mem_of_getElem? (i := 1) rfl)) (j := 42) rfl rfl rfl hp hb24 ?_
  refine zp_load (pc := 4) hx hb (zd_X12_emit (4, .aload_n 0, 1, 0, []) (List.mem_of_getElem? (i := 2) rfl)) rfl (j := 0) rfl ?_
  refine zp_getf (n := (nc : Int)) (pc := 5) hx hb hE hw (zd_X12_emit (5, .getfield 279, 3, 0, []) (List.mem_of_getElem? (i := 3) rfl)) (j := 41) rfl rfl rfl hp d23 ?_
  refine zp_load (pc := 8) hx hb (zd_X12_emit (8, .iload_n 1, 1, 0, []) (List.mem_of_getElem? (i := 4) rfl)) rfl (j := 1) rfl ?_
  refine zp_iast (j := nc) (pc := 9) hx hb hw heff (zd_X12_emit (9, .iastore, 1, 0, []) (List.mem_of_getElem? (i := 5) rfl)) (show zp_ia 1 68 = some (400, 0, 0, (-2147483648), 2147483647) from rfl) hq24 (by omega) (by omega) (zp_o0 (by omega) (by omega) (by omega) (by omega)) rfl ?_
  refine zp_load (pc := 10) hx hb (zd_X12_emit (10, .aload_n 0, 1, 0, []) (List.mem_of_getElem? (i := 6) rfl)) rfl (j := 0) rfl ?_
  refine zp_getf (n := (b25 : Int)) (pc := 11) hx hb hE hw (zd_X12_emit (11, .getfield 48, 3, 0, []) (List.mem_of_getElem? (i := 7) rfl)) (j := 43) rfl rfl rfl hp ((zp_set_ne (Or.inl (zp_pne hp hq24 (by decide)))).trans (hb25)) ?_
  refine zp_load (pc := 14) hx hb (zd_X12_emit (14, .aload_n 0, 1, 0, []) (List.mem_of_getElem? (i := 8) rfl)) rfl (j := 0) rfl ?_
  refine zp_getf (n := (nc : Int)) (pc := 15) hx hb hE hw (zd_X12_emit (15, .getfield 279, 3, 0, []) (List.mem_of_getElem? (i := 9) rfl)) (j := 41) rfl rfl rfl hp ((zp_set_ne (Or.inl (zp_pne hp hq24 (by decide)))).trans (d23)) ?_
  refine zp_load (pc := 18) hx hb (zd_X12_emit (18, .iload_n 2, 1, 0, []) (List.mem_of_getElem? (i := 10) rfl)) rfl (j := 2) rfl ?_
  refine zp_iast (j := nc) (pc := 19) hx hb hw heff (zd_X12_emit (19, .iastore, 1, 0, []) (List.mem_of_getElem? (i := 11) rfl)) (show zp_ia 1 69 = some (400, 0, 0, (-2147483648), 2147483647) from rfl) hq25 (by omega) (by omega) (zp_o0 (by omega) (by omega) (by omega) (by omega)) rfl ?_
  refine zp_load (pc := 20) hx hb (zd_X12_emit (20, .aload_n 0, 1, 0, []) (List.mem_of_getElem? (i := 12) rfl)) rfl (j := 0) rfl ?_
  refine zp_dup (pc := 21) hx hb (zd_X12_emit (21, .dup, 1, 0, []) (List.mem_of_getElem? (i := 13) rfl)) (show (2 : Nat) ≠ 1 by decide) ?_
  refine zp_getf (n := (nc : Int)) (pc := 22) hx hb hE hw (zd_X12_emit (22, .getfield 279, 3, 0, []) (List.mem_of_getElem? (i := 14) rfl)) (j := 41) rfl rfl rfl hp ((zp_set_ne (Or.inl (zp_pne hp hq25 (by decide)))).trans ((zp_set_ne (Or.inl (zp_pne hp hq24 (by decide)))).trans (d23))) ?_
  refine zp_const (pc := 25) hx hb (zd_X12_emit (25, .iconst 1, 1, 0, []) (List.mem_of_getElem? (i := 15) rfl)) rfl rfl ?_
  refine zp_add (n := ((nc : Int) + 1)) (pc := 26) hx hb (zd_X12_emit (26, .iadd, 1, 0, []) (List.mem_of_getElem? (i := 16) rfl)) (by omega) (zp_r0 (by omega) (by omega)) ?_
  refine zp_putf (pc := 27) hx hb hE hw heff (zd_X12_emit (27, .putfield 279, 3, 0, []) (List.mem_of_getElem? (i := 17) rfl)) (j := 41) rfl rfl rfl hp (zp_o0 (by omega) (by omega) (by omega) (by omega)) ?_
  refine zp_vret (pc := 30) hx hb hE hQ hU5 rfl (by decide) (zd_X12_emit (30, .return_, 1, 0, []) (List.mem_of_getElem? (i := 18) rfl)) (j := 0) rfl ?_
  rw [hps]
  refine ⟨rfl, ?_⟩
  show zD a (zp_set (zp_set (zp_set (zp_n u.2.1) b24 (2000 + nc) p1) b25 (2000 + nc) p2) a 23 ((nc : Int) + 1)) bad B ln tk nl od pi (yu cd.1 cd.2.2 p1, yu cd.2.1 cd.2.2 p2, cd.2.2 + 1)
  rw [← hnc]
  exact zD_23 (zD_w25 (zD_w24 hD hDb) (zDb_s hDb (Or.inl (zp_pne hq24 hp (by decide))))) (by omega)
noncomputable def zφD_pu (bad : Int) (B : Nat → Int) (ln tk nl od : Nat) (pi : List (Int × Int)) (cd : yC) : (Nat → Option Nat) → (Nat → Nat → Int) → List Int → Prop := fun _ G ps => zD (zp_0 ps) G bad B ln tk nl od pi cd ∧ pi.length < 400
noncomputable def zψD_pu (bad : Int) (B : Nat → Int) (ln tk nl od : Nat) (pi : List (Int × Int)) (cd : yC) : (Nat → Option Nat) → (Nat → Nat → Int) → List Int → (Nat → Option Nat) → (Nat → Nat → Int) → Int → Prop := fun P G ps P' G' rn => P' = P ∧ zD (zp_0 ps) G' bad B ln tk nl od ((ps.getD 1 0, ps.getD 2 0) :: pi) cd
theorem zY_pu {l : Launch} {w : zk_W} (hW : zh_W w) (bad : Int) (B : Nat → Int) (ln tk nl od : Nat) (pi : List (Int × Int)) (cd : yC) : zk_metX l w zt_dv zt_TB zK_pu (zp_A (zφD_pu bad B ln tk nl od pi cd)) (zp_B (zψD_pu bad B ln tk nl od pi cd)) ∧ zk_cok w zt_TB zK_pu := by
  refine zp_meth hW (pl := 1721) rfl (by decide +kernel) (fun p e R s m args below meth c Q u hx hb hE hQ hU5 heff hnL hok hφ => ?_)
  have hw := hW.1
  obtain ⟨p0, p1, p2, hps, k0, k1, k2⟩ := zp_ps3 hok
  obtain ⟨a, rfl, hp⟩ := zp_this k0
  have hrm : zk_Kr (zk_ev (zp_E zK_pu)) = zk_Kr zK_pu := rfl
  rw [hps] at hφ ⊢
  have hi1 := zp_int k1
  have hi2 := zp_int k2
  have hφ : zD a (zp_n u.2.1) bad B ln tk nl od pi cd ∧ pi.length < 400 := hφ
  obtain ⟨hD, hc4⟩ := hφ
  have hD2 := hD
  obtain ⟨⟨d13, dl, dt, d12, dB⟩, ⟨d14, d15, d16, d17⟩, ⟨d19, d18⟩, ⟨d23, d24, d25⟩, d26, ⟨d29, dp⟩, d30⟩ := hD2
  show zp_J p l e R s m args below meth c Q w u [] 0 [(0, 2, (a : Int)), (1, 0, p1), (2, 0, p2)] [] u.1 (zp_n u.2.1)
  refine zp_kn (k := 12) (a := a) hw (show zp_fd 92 12 = some (12, 2, 66, 0, 0) from rfl) rfl hp (fun hk12 => ?_)
  obtain ⟨b12, hb12, hq12⟩ := zp_this hk12
  refine zp_kn (k := 24) (a := a) hw (show zp_fd 92 24 = some (12, 2, 68, 0, 0) from rfl) rfl hp (fun hk24 => ?_)
  obtain ⟨b24, hb24, hq24⟩ := zp_this hk24
  refine zp_kn (k := 25) (a := a) hw (show zp_fd 92 25 = some (12, 2, 69, 0, 0) from rfl) rfl hp (fun hk25 => ?_)
  obtain ⟨b25, hb25, hq25⟩ := zp_this hk25
  refine zp_kn (k := 27) (a := a) hw (show zp_fd 92 27 = some (12, 2, 70, 0, 0) from rfl) rfl hp (fun hk27 => ?_)
  obtain ⟨b27, hb27, hq27⟩ := zp_this hk27
  refine zp_kn (k := 28) (a := a) hw (show zp_fd 92 28 = some (12, 2, 71, 0, 0) from rfl) rfl hp (fun hk28 => ?_)
  obtain ⟨b28, hb28, hq28⟩ := zp_this hk28
  have hDb : zDb a (zp_n u.2.1) b12 b24 b25 b27 b28 := ⟨⟨hb12, hb24, hb25, hb27, hb28⟩, ⟨zp_pne hq24 hp (by decide), zp_pne hq25 hp (by decide), zp_pne hq27 hp (by decide), zp_pne hq28 hp (by decide)⟩, ⟨zp_pne hq12 hq24 (by decide), zp_pne hq12 hq25 (by decide), zp_pne hq12 hq27 (by decide), zp_pne hq12 hq28 (by decide)⟩, zp_pne hq24 hq25 (by decide), zp_pne hq24 hq27 (by decide), zp_pne hq24 hq28 (by decide), zp_pne hq25 hq27 (by decide), zp_pne hq25 hq28 (by decide), zp_pne hq27 hq28 (by decide)⟩
  obtain ⟨pd, hpd⟩ : ∃ x : Nat, x = pi.length := ⟨_, rfl⟩
  rw [← hpd] at d29 hc4
  refine zp_load (pc := 0) hx hb (zd_X12_push (0, .aload_n 0, 1, 0, []) (List.mem_of_getElem? (i := 0) rfl)) rfl (j := 0) rfl ?_
  refine zp_getf (n := (b27 : Int)) (pc := 1) hx hb hE hw (zd_X12_push (1, .getfield 51, 3, 0, []) (List.mem_of_getElem? (i := 1) rfl)) (j := 45) rfl rfl rfl hp hb27 ?_
  refine zp_load (pc := 4) hx hb (zd_X12_push (4, .aload_n 0, 1, 0, []) (List.mem_of_getElem? (i := 2) rfl)) rfl (j := 0) rfl ?_
  refine zp_getf (n := (pd : Int)) (pc := 5) hx hb hE hw (zd_X12_push (5, .getfield 282, 3, 0, []) (List.mem_of_getElem? (i := 3) rfl)) (j := 47) rfl rfl rfl hp d29 ?_
  refine zp_load (pc := 8) hx hb (zd_X12_push (8, .iload_n 1, 1, 0, []) (List.mem_of_getElem? (i := 4) rfl)) rfl (j := 1) rfl ?_
  refine zp_iast (j := pd) (pc := 9) hx hb hw heff (zd_X12_push (9, .iastore, 1, 0, []) (List.mem_of_getElem? (i := 5) rfl)) (show zp_ia 1 70 = some (400, 0, 0, (-2147483648), 2147483647) from rfl) hq27 (by omega) (by omega) (zp_o0 (by omega) (by omega) (by omega) (by omega)) rfl ?_
  refine zp_load (pc := 10) hx hb (zd_X12_push (10, .aload_n 0, 1, 0, []) (List.mem_of_getElem? (i := 6) rfl)) rfl (j := 0) rfl ?_
  refine zp_getf (n := (b28 : Int)) (pc := 11) hx hb hE hw (zd_X12_push (11, .getfield 54, 3, 0, []) (List.mem_of_getElem? (i := 7) rfl)) (j := 46) rfl rfl rfl hp ((zp_set_ne (Or.inl (zp_pne hp hq27 (by decide)))).trans (hb28)) ?_
  refine zp_load (pc := 14) hx hb (zd_X12_push (14, .aload_n 0, 1, 0, []) (List.mem_of_getElem? (i := 8) rfl)) rfl (j := 0) rfl ?_
  refine zp_getf (n := (pd : Int)) (pc := 15) hx hb hE hw (zd_X12_push (15, .getfield 282, 3, 0, []) (List.mem_of_getElem? (i := 9) rfl)) (j := 47) rfl rfl rfl hp ((zp_set_ne (Or.inl (zp_pne hp hq27 (by decide)))).trans (d29)) ?_
  refine zp_load (pc := 18) hx hb (zd_X12_push (18, .iload_n 2, 1, 0, []) (List.mem_of_getElem? (i := 10) rfl)) rfl (j := 2) rfl ?_
  refine zp_iast (j := pd) (pc := 19) hx hb hw heff (zd_X12_push (19, .iastore, 1, 0, []) (List.mem_of_getElem? (i := 11) rfl)) (show zp_ia 1 71 = some (400, 0, 0, (-2147483648), 2147483647) from rfl) hq28 (by omega) (by omega) (zp_o0 (by omega) (by omega) (by omega) (by omega)) rfl ?_
  refine zp_load (pc := 20) hx hb (zd_X12_push (20, .aload_n 0, 1, 0, []) (List.mem_of_getElem? (i := 12) rfl)) rfl (j := 0) rfl ?_
  refine zp_dup (pc := 21) hx hb (zd_X12_push (21, .dup, 1, 0, []) (List.mem_of_getElem? (i := 13) rfl)) (show (2 : Nat) ≠ 1 by decide) ?_
  refine zp_getf (n := (pd : Int)) (pc := 22) hx hb hE hw (zd_X12_push (22, .getfield 282, 3, 0, []) (List.mem_of_getElem? (i := 14) rfl)) (j := 47) rfl rfl rfl hp ((zp_set_ne (Or.inl (zp_pne hp hq28 (by decide)))).trans ((zp_set_ne (Or.inl (zp_pne hp hq27 (by decide)))).trans (d29))) ?_
  refine zp_const (pc := 25) hx hb (zd_X12_push (25, .iconst 1, 1, 0, []) (List.mem_of_getElem? (i := 15) rfl)) rfl rfl ?_
  refine zp_add (n := ((pd : Int) + 1)) (pc := 26) hx hb (zd_X12_push (26, .iadd, 1, 0, []) (List.mem_of_getElem? (i := 16) rfl)) (by omega) (zp_r0 (by omega) (by omega)) ?_
  refine zp_putf (pc := 27) hx hb hE hw heff (zd_X12_push (27, .putfield 282, 3, 0, []) (List.mem_of_getElem? (i := 17) rfl)) (j := 47) rfl rfl rfl hp (zp_o0 (by omega) (by omega) (by omega) (by omega)) ?_
  refine zp_vret (pc := 30) hx hb hE hQ hU5 rfl (by decide) (zd_X12_push (30, .return_, 1, 0, []) (List.mem_of_getElem? (i := 18) rfl)) (j := 0) rfl ?_
  rw [hps]
  refine ⟨rfl, ?_⟩
  show zD a (zp_set (zp_set (zp_set (zp_n u.2.1) b27 (2000 + pd) p1) b28 (2000 + pd) p2) a 29 ((pd : Int) + 1)) bad B ln tk nl od ((p1, p2) :: pi) cd
  have h1 : zDb a (zp_set (zp_n u.2.1) b27 (2000 + pd) p1) b12 b24 b25 b27 b28 := zDb_s hDb (Or.inl (zp_pne hq27 hp (by decide)))
  have h2 := zD_w28 (v := p2) (zD_w27 (v := p1) hD hDb (n := pd) (by omega)) h1 (n := pd) (by omega)
  refine zD_29 h2 (by have : ((p1, p2) :: pi).length = pi.length + 1 := rfl; omega) ⟨?_, ?_, ?_⟩
  · show zv (zp_set (zp_set (zp_n u.2.1) b27 (2000 + pd) p1) b28 (2000 + pd) p2) a 27 pi.length = p1
    rw [← hpd, zv_sg (d := b27) (zp_pne hq28 hp (by decide)) h1.1.2.2.2.1, if_neg (fun z => zp_pne hq27 hq28 (by decide) z.1), zv_sg (d := b27) (zp_pne hq27 hp (by decide)) hb27, if_pos ⟨rfl, rfl⟩]
  · show zv (zp_set (zp_set (zp_n u.2.1) b27 (2000 + pd) p1) b28 (2000 + pd) p2) a 28 pi.length = p2
    rw [← hpd, zv_sg (d := b28) (zp_pne hq28 hp (by decide)) h1.1.2.2.2.2, if_pos ⟨rfl, rfl⟩]
  · obtain ⟨⟨y13, yl, yt, y12, yB⟩, ⟨y14, y15, y16, y17⟩, ⟨y19, y18⟩, ⟨y23, y24, y25⟩, y26, ⟨y29, yp⟩, y30⟩ := h2
    exact yp
noncomputable def zφD_se (bad : Int) (B : Nat → Int) (ln tk nl od : Nat) (pi : List (Int × Int)) (cd : yC) : (Nat → Option Nat) → (Nat → Nat → Int) → List Int → Prop := fun _ G ps => zD (zp_0 ps) G bad B ln tk nl od pi cd ∧ zDj 400 pi cd
noncomputable def zψD_se (bad : Int) (B : Nat → Int) (ln tk nl od : Nat) (pi : List (Int × Int)) (cd : yC) : (Nat → Option Nat) → (Nat → Nat → Int) → List Int → (Nat → Option Nat) → (Nat → Nat → Int) → Int → Prop := fun P G ps P' G' rn => P' = P ∧ zD (zp_0 ps) G' bad B ln tk nl od (ym_se (ps.getD 1 0) pi cd).1 (ym_se (ps.getD 1 0) pi cd).2
theorem zY_se {l : Launch} {w : zk_W} (hW : zh_W w) (bad : Int) (B : Nat → Int) (ln tk nl od : Nat) (pi : List (Int × Int)) (cd : yC) : zk_metX l w zt_dv zt_TB zK_se (zp_A (zφD_se bad B ln tk nl od pi cd)) (zp_B (zψD_se bad B ln tk nl od pi cd)) ∧ zk_cok w zt_TB zK_se := by
  refine zp_meth hW (pl := 1765) rfl (by decide +kernel) (fun p e R s m args below meth c Q u hx hb hE hQ hU5 heff hnL hok hφ => ?_)
  have hw := hW.1
  obtain ⟨p0, p1, hps, k0, k1⟩ := zp_ps2 hok
  obtain ⟨a, rfl, hp⟩ := zp_this k0
  have hrm : zk_Kr (zk_ev (zp_E zK_se)) = zk_Kr zK_se := rfl
  rw [hps] at hφ ⊢
  have hi1 := zp_int k1
  have hφ : zD a (zp_n u.2.1) bad B ln tk nl od pi cd ∧ zDj 400 pi cd := hφ
  obtain ⟨hD0, hj0⟩ := hφ
  show zp_J p l e R s m args below meth c Q w u [] 0 [(0, 2, (a : Int)), (1, 0, p1)] [] u.1 (zp_n u.2.1)
  refine zp_kn (k := 12) (a := a) hw (show zp_fd 92 12 = some (12, 2, 66, 0, 0) from rfl) rfl hp (fun hk12 => ?_)
  obtain ⟨b12, hb12, hq12⟩ := zp_this hk12
  refine zp_kn (k := 24) (a := a) hw (show zp_fd 92 24 = some (12, 2, 68, 0, 0) from rfl) rfl hp (fun hk24 => ?_)
  obtain ⟨b24, hb24, hq24⟩ := zp_this hk24
  refine zp_kn (k := 25) (a := a) hw (show zp_fd 92 25 = some (12, 2, 69, 0, 0) from rfl) rfl hp (fun hk25 => ?_)
  obtain ⟨b25, hb25, hq25⟩ := zp_this hk25
  refine zp_kn (k := 27) (a := a) hw (show zp_fd 92 27 = some (12, 2, 70, 0, 0) from rfl) rfl hp (fun hk27 => ?_)
  obtain ⟨b27, hb27, hq27⟩ := zp_this hk27
  refine zp_kn (k := 28) (a := a) hw (show zp_fd 92 28 = some (12, 2, 71, 0, 0) from rfl) rfl hp (fun hk28 => ?_)
  obtain ⟨b28, hb28, hq28⟩ := zp_this hk28
  have hDb0 : zDb a (zp_n u.2.1) b12 b24 b25 b27 b28 := ⟨⟨hb12, hb24, hb25, hb27, hb28⟩, ⟨zp_pne hq24 hp (by decide), zp_pne hq25 hp (by decide), zp_pne hq27 hp (by decide), zp_pne hq28 hp (by decide)⟩, ⟨zp_pne hq12 hq24 (by decide), zp_pne hq12 hq25 (by decide), zp_pne hq12 hq27 (by decide), zp_pne hq12 hq28 (by decide)⟩, zp_pne hq24 hq25 (by decide), zp_pne hq24 hq27 (by decide), zp_pne hq24 hq28 (by decide), zp_pne hq25 hq27 (by decide), zp_pne hq25 hq28 (by decide), zp_pne hq27 hq28 (by decide)⟩
  have loop : ∀ (pj : List (Int × Int)) (ce : yC) (G : Nat → Nat → Int), zD a G bad B ln tk nl od pj ce → zDj 400 pj ce → zDb a G b12 b24 b25 b27 b28 → ym_se p1 pi cd = ym_se p1 pj ce → zp_J p l e R s m args below meth c Q w u [] 0 [(0, 2, (a : Int)), (1, 0, p1)] [] u.1 G := by
    intro pj
    induction pj with
    | nil =>
      intro ce G hD hj hDb hse
      have hD2 := hD
      obtain ⟨⟨d13, dl, dt, d12, dB⟩, ⟨d14, d15, d16, d17⟩, ⟨d19, d18⟩, ⟨d23, d24, d25⟩, d26, ⟨d29, dp⟩, d30⟩ := hD2
      have d29 : G a 29 = 0 := d29
      refine zp_load (pc := 0) hx hb (zd_X12_settle (0, .aload_n 0, 1, 0, []) (List.mem_of_getElem? (i := 0) rfl)) rfl (j := 0) rfl ?_
      refine zp_getf (n := 0) (pc := 1) hx hb hE hw (zd_X12_settle (1, .getfield 282, 3, 0, []) (List.mem_of_getElem? (i := 1) rfl)) (j := 47) rfl rfl rfl hp d29 ?_
      refine zp_if (pc := 4) (tgt := 101) hx hb (zd_X12_settle (4, .ifCond .le 97, 3, 0, []) (List.mem_of_getElem? (i := 2) rfl)) rfl (fun (hcq21 : 0 ≤ 0) => ?_) (fun (hcq21 : ¬ (0 ≤ 0)) => ?_)
      · refine zp_vret (pc := 101) hx hb hE hQ hU5 rfl (by decide) (zd_X12_settle (101, .return_, 1, 0, []) (List.mem_of_getElem? (i := 53) rfl)) (j := 0) rfl ?_
        rw [hps]
        refine ⟨rfl, ?_⟩
        show zD a G bad B ln tk nl od (ym_se p1 pi cd).1 (ym_se p1 pi cd).2
        rw [hse]
        exact hD
      · exfalso
        omega
    | cons hd r ih =>
      obtain ⟨po, pt⟩ := hd
      intro ce G hD hj hDb hse
      have hD2 := hD
      obtain ⟨⟨d13, dl, dt, d12, dB⟩, ⟨d14, d15, d16, d17⟩, ⟨d19, d18⟩, ⟨d23, d24, d25⟩, d26, ⟨d29, dp⟩, d30⟩ := hD2
      obtain ⟨rl, hrl⟩ : ∃ x : Nat, x = r.length := ⟨_, rfl⟩
      have d29 : G a 29 = (rl : Int) + 1 := d29.trans (by have : ((po, pt) :: r).length = r.length + 1 := rfl; omega)
      obtain ⟨dp1, dp2, dp3⟩ := dp
      rw [← hrl] at dp1 dp2
      have dp1 : zv G a 27 rl = po := dp1
      have dp2 : zv G a 28 rl = pt := dp2
      have hDb2 := hDb
      obtain ⟨⟨g12, g24, g25, g27, g28⟩, -⟩ := hDb2
      rw [zv_eq g27] at dp1
      rw [zv_eq g28] at dp2
      obtain ⟨⟨hq1, hq2, hq3, hq5, hq6⟩, hq4, hq7⟩ := zDj_hd hj
      rw [← hrl] at hq7
      have hq1 : 20 ≤ po := hq1
      have hq2 : po ≤ 32 := hq2
      have hq3 : po = 29 ∨ po = 30 → 0 ≤ pt ∧ pt < (ce.2.2 : Int) := hq3
      have hq5 : -2147483648 ≤ pt := hq5
      have hq6 : pt ≤ 2147483647 := hq6
      have hq4 : ce.2.2 + zDe r + (if po = 29 ∨ po = 30 then 0 else 1) ≤ 400 := hq4
      obtain ⟨nc, hnc⟩ : ∃ x : Nat, x = ce.2.2 := ⟨_, rfl⟩
      rw [← hnc] at d23 hq3 hq4
      have hj1 := zDj_e1 hj
      refine zp_load (pc := 0) hx hb (zd_X12_settle (0, .aload_n 0, 1, 0, []) (List.mem_of_getElem? (i := 0) rfl)) rfl (j := 0) rfl ?_
      refine zp_getf (n := ((rl : Int) + 1)) (pc := 1) hx hb hE hw (zd_X12_settle (1, .getfield 282, 3, 0, []) (List.mem_of_getElem? (i := 1) rfl)) (j := 47) rfl rfl rfl hp d29 ?_
      refine zp_if (pc := 4) (tgt := 101) hx hb (zd_X12_settle (4, .ifCond .le 97, 3, 0, []) (List.mem_of_getElem? (i := 2) rfl)) rfl (fun (hc0 : ((rl : Int) + 1) ≤ 0) => ?_) (fun (hc0 : ¬ (((rl : Int) + 1) ≤ 0)) => ?_)
      · exfalso
        omega
      · refine zp_load (pc := 7) hx hb (zd_X12_settle (7, .aload_n 0, 1, 0, []) (List.mem_of_getElem? (i := 3) rfl)) rfl (j := 0) rfl ?_
        refine zp_getf (n := (b27 : Int)) (pc := 8) hx hb hE hw (zd_X12_settle (8, .getfield 51, 3, 0, []) (List.mem_of_getElem? (i := 4) rfl)) (j := 45) rfl rfl rfl hp g27 ?_
        refine zp_load (pc := 11) hx hb (zd_X12_settle (11, .aload_n 0, 1, 0, []) (List.mem_of_getElem? (i := 5) rfl)) rfl (j := 0) rfl ?_
        refine zp_getf (n := ((rl : Int) + 1)) (pc := 12) hx hb hE hw (zd_X12_settle (12, .getfield 282, 3, 0, []) (List.mem_of_getElem? (i := 6) rfl)) (j := 47) rfl rfl rfl hp d29 ?_
        refine zp_const (pc := 15) hx hb (zd_X12_settle (15, .iconst 1, 1, 0, []) (List.mem_of_getElem? (i := 7) rfl)) rfl rfl ?_
        refine zp_sub (n := (rl : Int)) (pc := 16) hx hb (zd_X12_settle (16, .isub, 1, 0, []) (List.mem_of_getElem? (i := 8) rfl)) (by omega) (zp_r0 (by omega) (by omega)) ?_
        refine zp_iald (j := rl) (v := po) (pc := 17) hx hb hw (zd_X12_settle (17, .iaload, 1, 0, []) (List.mem_of_getElem? (i := 9) rfl)) (show zp_ia 1 70 = some (400, 0, 0, (-2147483648), 2147483647) from rfl) hq27 (by omega) (by omega) dp1 (fun hk22 => ?_)
        have hk22b := zp_int hk22
        refine zp_call (pc := 18) (how := 1) (idx := 285) (mi := 230) (S := []) hx hb hE hw heff hrm (zX_bi hW) rfl (j := 32) rfl rfl (by decide +kernel) (zd_X12_settle (18, .invokestatic 285, 3, 0, []) (List.mem_of_getElem? (i := 10) rfl)) [po] rfl ⟨zp_o0 (by omega) (by omega) (by omega) (by omega), trivial⟩ (Nat.le_of_ble_eq_true rfl) trivial (fun al hal rnb Pb Gb hextb hfrb hokb hcsb hpsib => ?_)
        obtain rfl := List.mem_singleton.mp hal
        have hrb := zp_int (hokb _ rfl).1
        obtain ⟨hPeb, hGeb, htb⟩ := hpsib
        rw [hPeb, hGeb]
        have htb : rnb = zbinds po := htb
        refine zp_load (pc := 21) hx hb (zd_X12_settle (21, .iload_n 1, 1, 0, []) (List.mem_of_getElem? (i := 11) rfl)) rfl (j := 1) rfl ?_
        refine zp_icmp (pc := 22) (tgt := 101) hx hb (zd_X12_settle (22, .if_icmp .lt 79, 3, 0, []) (List.mem_of_getElem? (i := 12) rfl)) rfl (fun (hcq23 : rnb < p1) => ?_) (fun (hcq23 : ¬ (rnb < p1)) => ?_)
        · have hst : ym_se p1 ((po, pt) :: r) ce = ((po, pt) :: r, ce) := if_neg (by omega)
          refine zp_vret (pc := 101) hx hb hE hQ hU5 rfl (by decide) (zd_X12_settle (101, .return_, 1, 0, []) (List.mem_of_getElem? (i := 53) rfl)) (j := 0) rfl ?_
          rw [hps]
          refine ⟨rfl, ?_⟩
          show zD a G bad B ln tk nl od (ym_se p1 pi cd).1 (ym_se p1 pi cd).2
          rw [hse, hst]
          exact hD
        · refine zp_load (pc := 25) hx hb (zd_X12_settle (25, .aload_n 0, 1, 0, []) (List.mem_of_getElem? (i := 13) rfl)) rfl (j := 0) rfl ?_
          refine zp_dup (pc := 26) hx hb (zd_X12_settle (26, .dup, 1, 0, []) (List.mem_of_getElem? (i := 14) rfl)) (show (2 : Nat) ≠ 1 by decide) ?_
          refine zp_getf (n := ((rl : Int) + 1)) (pc := 27) hx hb hE hw (zd_X12_settle (27, .getfield 282, 3, 0, []) (List.mem_of_getElem? (i := 15) rfl)) (j := 47) rfl rfl rfl hp d29 ?_
          refine zp_const (pc := 30) hx hb (zd_X12_settle (30, .iconst 1, 1, 0, []) (List.mem_of_getElem? (i := 16) rfl)) rfl rfl ?_
          refine zp_sub (n := (rl : Int)) (pc := 31) hx hb (zd_X12_settle (31, .isub, 1, 0, []) (List.mem_of_getElem? (i := 17) rfl)) (by omega) (zp_r0 (by omega) (by omega)) ?_
          refine zp_putf (pc := 32) hx hb hE hw heff (zd_X12_settle (32, .putfield 282, 3, 0, []) (List.mem_of_getElem? (i := 18) rfl)) (j := 47) rfl rfl rfl hp (zp_o0 (by omega) (by omega) (by omega) (by omega)) ?_
          refine zp_load (pc := 35) hx hb (zd_X12_settle (35, .aload_n 0, 1, 0, []) (List.mem_of_getElem? (i := 19) rfl)) rfl (j := 0) rfl ?_
          refine zp_getf (n := (b27 : Int)) (pc := 36) hx hb hE hw (zd_X12_settle (36, .getfield 51, 3, 0, []) (List.mem_of_getElem? (i := 20) rfl)) (j := 45) rfl rfl rfl hp ((zp_set_ne (Or.inr (by decide))).trans (g27)) ?_
          refine zp_load (pc := 39) hx hb (zd_X12_settle (39, .aload_n 0, 1, 0, []) (List.mem_of_getElem? (i := 21) rfl)) rfl (j := 0) rfl ?_
          refine zp_getf (n := (rl : Int)) (pc := 40) hx hb hE hw (zd_X12_settle (40, .getfield 282, 3, 0, []) (List.mem_of_getElem? (i := 22) rfl)) (j := 47) rfl rfl rfl hp zp_set_self ?_
          refine zp_iald (j := rl) (v := po) (pc := 43) hx hb hw (zd_X12_settle (43, .iaload, 1, 0, []) (List.mem_of_getElem? (i := 23) rfl)) (show zp_ia 1 70 = some (400, 0, 0, (-2147483648), 2147483647) from rfl) hq27 (by omega) (by omega) ((zp_set_ne (Or.inl (zp_pne hq27 hp (by decide)))).trans (dp1)) (fun hk24 => ?_)
          have hk24b := zp_int hk24
          refine zp_const (pc := 44) hx hb (zd_X12_settle (44, .bipush 29, 2, 0, []) (List.mem_of_getElem? (i := 24) rfl)) rfl rfl ?_
          refine zp_icmp (pc := 46) (tgt := 63) hx hb (zd_X12_settle (46, .if_icmp .eq 17, 3, 0, []) (List.mem_of_getElem? (i := 25) rfl)) rfl (fun (hcq25 : po = 29) => ?_) (fun (hcq25 : ¬ (po = 29)) => ?_)
          · have hand : po = 29 ∨ po = 30 := by omega
            obtain ⟨ha1, ha2⟩ := hq3 hand
            obtain ⟨t0, ht0⟩ := zp_nat ha1
            rw [ht0] at dp2 ha2
            refine zp_load (pc := 63) hx hb (zd_X12_settle (63, .aload_n 0, 1, 0, []) (List.mem_of_getElem? (i := 33) rfl)) rfl (j := 0) rfl ?_
            refine zp_getf (n := (b25 : Int)) (pc := 64) hx hb hE hw (zd_X12_settle (64, .getfield 48, 3, 0, []) (List.mem_of_getElem? (i := 34) rfl)) (j := 43) rfl rfl rfl hp ((zp_set_ne (Or.inr (by decide))).trans (g25)) ?_
            refine zp_load (pc := 67) hx hb (zd_X12_settle (67, .aload_n 0, 1, 0, []) (List.mem_of_getElem? (i := 35) rfl)) rfl (j := 0) rfl ?_
            refine zp_getf (n := (b28 : Int)) (pc := 68) hx hb hE hw (zd_X12_settle (68, .getfield 54, 3, 0, []) (List.mem_of_getElem? (i := 36) rfl)) (j := 46) rfl rfl rfl hp ((zp_set_ne (Or.inr (by decide))).trans (g28)) ?_
            refine zp_load (pc := 71) hx hb (zd_X12_settle (71, .aload_n 0, 1, 0, []) (List.mem_of_getElem? (i := 37) rfl)) rfl (j := 0) rfl ?_
            refine zp_getf (n := (rl : Int)) (pc := 72) hx hb hE hw (zd_X12_settle (72, .getfield 282, 3, 0, []) (List.mem_of_getElem? (i := 38) rfl)) (j := 47) rfl rfl rfl hp zp_set_self ?_
            refine zp_iald (j := rl) (v := (t0 : Int)) (pc := 75) hx hb hw (zd_X12_settle (75, .iaload, 1, 0, []) (List.mem_of_getElem? (i := 39) rfl)) (show zp_ia 1 71 = some (400, 0, 0, (-2147483648), 2147483647) from rfl) hq28 (by omega) (by omega) ((zp_set_ne (Or.inl (zp_pne hq28 hp (by decide)))).trans (dp2)) (fun hk26 => ?_)
            have hk26b := zp_int hk26
            refine zp_load (pc := 76) hx hb (zd_X12_settle (76, .aload_n 0, 1, 0, []) (List.mem_of_getElem? (i := 40) rfl)) rfl (j := 0) rfl ?_
            refine zp_getf (n := (nc : Int)) (pc := 77) hx hb hE hw (zd_X12_settle (77, .getfield 279, 3, 0, []) (List.mem_of_getElem? (i := 41) rfl)) (j := 41) rfl rfl rfl hp ((zp_set_ne (Or.inr (by decide))).trans (d23)) ?_
            refine zp_iast (j := t0) (pc := 80) hx hb hw heff (zd_X12_settle (80, .iastore, 1, 0, []) (List.mem_of_getElem? (i := 42) rfl)) (show zp_ia 1 69 = some (400, 0, 0, (-2147483648), 2147483647) from rfl) hq25 (by omega) (by omega) (zp_o0 (by omega) (by omega) (by omega) (by omega)) rfl ?_
            refine zp_goto (tgt := 0) (pc := 81) hx hb (zd_X12_settle (81, .goto (-81), 3, 0, []) (List.mem_of_getElem? (i := 43) rfl)) rfl ?_
            have hst : ym_se p1 ((po, pt) :: r) ce = ym_se p1 r (ym_e1 po pt ce) := if_pos (by omega)
            have he1 : ym_e1 po pt ce = (ce.1, yu ce.2.1 t0 (nc : Int), ce.2.2) := by
              unfold ym_e1
              rw [if_pos hand, ht0, ← hnc, Int.toNat_natCast]
            have hD3 := zD_29 (v := (rl : Int)) (pi' := r) hD (by omega) dp3
            have hb3 : zDb a (zp_set G a 29 (rl : Int)) b12 b24 b25 b27 b28 := zDb_s hDb (Or.inr rfl)
            refine ih (ym_e1 po pt ce) (zp_set (zp_set G a 29 (rl : Int)) b25 (2000 + t0) (nc : Int)) ?_ hj1 (zDb_s hb3 (Or.inl (zp_pne hq25 hp (by decide)))) (hse.trans hst)
            rw [he1]
            exact zD_w25 hD3 hb3
          · refine zp_load (pc := 49) hx hb (zd_X12_settle (49, .aload_n 0, 1, 0, []) (List.mem_of_getElem? (i := 26) rfl)) rfl (j := 0) rfl ?_
            refine zp_getf (n := (b27 : Int)) (pc := 50) hx hb hE hw (zd_X12_settle (50, .getfield 51, 3, 0, []) (List.mem_of_getElem? (i := 27) rfl)) (j := 45) rfl rfl rfl hp ((zp_set_ne (Or.inr (by decide))).trans (g27)) ?_
            refine zp_load (pc := 53) hx hb (zd_X12_settle (53, .aload_n 0, 1, 0, []) (List.mem_of_getElem? (i := 28) rfl)) rfl (j := 0) rfl ?_
            refine zp_getf (n := (rl : Int)) (pc := 54) hx hb hE hw (zd_X12_settle (54, .getfield 282, 3, 0, []) (List.mem_of_getElem? (i := 29) rfl)) (j := 47) rfl rfl rfl hp zp_set_self ?_
            refine zp_iald (j := rl) (v := po) (pc := 57) hx hb hw (zd_X12_settle (57, .iaload, 1, 0, []) (List.mem_of_getElem? (i := 30) rfl)) (show zp_ia 1 70 = some (400, 0, 0, (-2147483648), 2147483647) from rfl) hq27 (by omega) (by omega) ((zp_set_ne (Or.inl (zp_pne hq27 hp (by decide)))).trans (dp1)) (fun hk27 => ?_)
            have hk27b := zp_int hk27
            refine zp_const (pc := 58) hx hb (zd_X12_settle (58, .bipush 30, 2, 0, []) (List.mem_of_getElem? (i := 31) rfl)) rfl rfl ?_
            refine zp_icmp (pc := 60) (tgt := 84) hx hb (zd_X12_settle (60, .if_icmp .ne 24, 3, 0, []) (List.mem_of_getElem? (i := 32) rfl)) rfl (fun (hcq28 : ¬ po = 30) => ?_) (fun (hcq28 : ¬ (¬ po = 30)) => ?_)
            · refine zp_load (pc := 84) hx hb (zd_X12_settle (84, .aload_n 0, 1, 0, []) (List.mem_of_getElem? (i := 44) rfl)) rfl (j := 0) rfl ?_
              refine zp_load (pc := 85) hx hb (zd_X12_settle (85, .aload_n 0, 1, 0, []) (List.mem_of_getElem? (i := 45) rfl)) rfl (j := 0) rfl ?_
              refine zp_getf (n := (b27 : Int)) (pc := 86) hx hb hE hw (zd_X12_settle (86, .getfield 51, 3, 0, []) (List.mem_of_getElem? (i := 46) rfl)) (j := 45) rfl rfl rfl hp ((zp_set_ne (Or.inr (by decide))).trans (g27)) ?_
              refine zp_load (pc := 89) hx hb (zd_X12_settle (89, .aload_n 0, 1, 0, []) (List.mem_of_getElem? (i := 47) rfl)) rfl (j := 0) rfl ?_
              refine zp_getf (n := (rl : Int)) (pc := 90) hx hb hE hw (zd_X12_settle (90, .getfield 282, 3, 0, []) (List.mem_of_getElem? (i := 48) rfl)) (j := 47) rfl rfl rfl hp zp_set_self ?_
              refine zp_iald (j := rl) (v := po) (pc := 93) hx hb hw (zd_X12_settle (93, .iaload, 1, 0, []) (List.mem_of_getElem? (i := 49) rfl)) (show zp_ia 1 70 = some (400, 0, 0, (-2147483648), 2147483647) from rfl) hq27 (by omega) (by omega) ((zp_set_ne (Or.inl (zp_pne hq27 hp (by decide)))).trans (dp1)) (fun hk29 => ?_)
              have hk29b := zp_int hk29
              refine zp_const (pc := 94) hx hb (zd_X12_settle (94, .iconst 0, 1, 0, []) (List.mem_of_getElem? (i := 50) rfl)) rfl rfl ?_
              have hz31 : ¬ (po = 29 ∨ po = 30) := by omega
              rw [if_neg hz31] at hq4
              have hD3 := zD_29 (v := (rl : Int)) (pi' := r) hD (by omega) dp3
              have hb3 : zDb a (zp_set G a 29 (rl : Int)) b12 b24 b25 b27 b28 := zDb_s hDb (Or.inr rfl)
              refine zp_call (pc := 95) (how := 0) (idx := 288) (mi := 227) (S := []) hx hb hE hw heff hrm (zY_em hW bad B ln tk nl od r ce) rfl (j := 29) rfl rfl (by decide +kernel) (zd_X12_settle (95, .invokevirtual 288, 3, 0, []) (List.mem_of_getElem? (i := 51) rfl)) [(a : Int), po, 0] rfl ⟨zp_o2 hp, zp_o0 (by omega) (by omega) (by omega) (by omega), zp_o0 (by decide) (by decide) (by decide) (by decide), trivial⟩ (Nat.le_of_ble_eq_true rfl) ⟨hD3, by omega⟩ (fun al hal rnm Pm Gm hextm hfrm hokm hcsm hpsim => ?_)
              obtain rfl := List.mem_singleton.mp hal
              obtain ⟨rfl, htm⟩ := hpsim
              have htm : zD a Gm bad B ln tk nl od r (yu ce.1 ce.2.2 po, yu ce.2.1 ce.2.2 0, ce.2.2 + 1) := htm
              refine zp_goto (tgt := 0) (pc := 98) hx hb (zd_X12_settle (98, .goto (-98), 3, 0, []) (List.mem_of_getElem? (i := 52) rfl)) rfl ?_
              have hst : ym_se p1 ((po, pt) :: r) ce = ym_se p1 r (ym_e1 po pt ce) := if_pos (by omega)
              have he1 : ym_e1 po pt ce = (yu ce.1 ce.2.2 po, yu ce.2.1 ce.2.2 0, ce.2.2 + 1) := if_neg hz31
              refine ih (ym_e1 po pt ce) Gm (by rw [he1]; exact htm) hj1 ⟨⟨?_, ?_, ?_, ?_, ?_⟩, hDb0.2⟩ (hse.trans hst)
              · exact (zp_nf hfrm hp rfl).trans ((zp_set_ne (Or.inr (by decide))).trans g12)
              · exact (zp_nf hfrm hp rfl).trans ((zp_set_ne (Or.inr (by decide))).trans g24)
              · exact (zp_nf hfrm hp rfl).trans ((zp_set_ne (Or.inr (by decide))).trans g25)
              · exact (zp_nf hfrm hp rfl).trans ((zp_set_ne (Or.inr (by decide))).trans g27)
              · exact (zp_nf hfrm hp rfl).trans ((zp_set_ne (Or.inr (by decide))).trans g28)
            · have hand : po = 29 ∨ po = 30 := by omega
              obtain ⟨ha1, ha2⟩ := hq3 hand
              obtain ⟨t0, ht0⟩ := zp_nat ha1
              rw [ht0] at dp2 ha2
              refine zp_load (pc := 63) hx hb (zd_X12_settle (63, .aload_n 0, 1, 0, []) (List.mem_of_getElem? (i := 33) rfl)) rfl (j := 0) rfl ?_
              refine zp_getf (n := (b25 : Int)) (pc := 64) hx hb hE hw (zd_X12_settle (64, .getfield 48, 3, 0, []) (List.mem_of_getElem? (i := 34) rfl)) (j := 43) rfl rfl rfl hp ((zp_set_ne (Or.inr (by decide))).trans (g25)) ?_
              refine zp_load (pc := 67) hx hb (zd_X12_settle (67, .aload_n 0, 1, 0, []) (List.mem_of_getElem? (i := 35) rfl)) rfl (j := 0) rfl ?_
              refine zp_getf (n := (b28 : Int)) (pc := 68) hx hb hE hw (zd_X12_settle (68, .getfield 54, 3, 0, []) (List.mem_of_getElem? (i := 36) rfl)) (j := 46) rfl rfl rfl hp ((zp_set_ne (Or.inr (by decide))).trans (g28)) ?_
              refine zp_load (pc := 71) hx hb (zd_X12_settle (71, .aload_n 0, 1, 0, []) (List.mem_of_getElem? (i := 37) rfl)) rfl (j := 0) rfl ?_
              refine zp_getf (n := (rl : Int)) (pc := 72) hx hb hE hw (zd_X12_settle (72, .getfield 282, 3, 0, []) (List.mem_of_getElem? (i := 38) rfl)) (j := 47) rfl rfl rfl hp zp_set_self ?_
              refine zp_iald (j := rl) (v := (t0 : Int)) (pc := 75) hx hb hw (zd_X12_settle (75, .iaload, 1, 0, []) (List.mem_of_getElem? (i := 39) rfl)) (show zp_ia 1 71 = some (400, 0, 0, (-2147483648), 2147483647) from rfl) hq28 (by omega) (by omega) ((zp_set_ne (Or.inl (zp_pne hq28 hp (by decide)))).trans (dp2)) (fun hk30 => ?_)
              have hk30b := zp_int hk30
              refine zp_load (pc := 76) hx hb (zd_X12_settle (76, .aload_n 0, 1, 0, []) (List.mem_of_getElem? (i := 40) rfl)) rfl (j := 0) rfl ?_
              refine zp_getf (n := (nc : Int)) (pc := 77) hx hb hE hw (zd_X12_settle (77, .getfield 279, 3, 0, []) (List.mem_of_getElem? (i := 41) rfl)) (j := 41) rfl rfl rfl hp ((zp_set_ne (Or.inr (by decide))).trans (d23)) ?_
              refine zp_iast (j := t0) (pc := 80) hx hb hw heff (zd_X12_settle (80, .iastore, 1, 0, []) (List.mem_of_getElem? (i := 42) rfl)) (show zp_ia 1 69 = some (400, 0, 0, (-2147483648), 2147483647) from rfl) hq25 (by omega) (by omega) (zp_o0 (by omega) (by omega) (by omega) (by omega)) rfl ?_
              refine zp_goto (tgt := 0) (pc := 81) hx hb (zd_X12_settle (81, .goto (-81), 3, 0, []) (List.mem_of_getElem? (i := 43) rfl)) rfl ?_
              have hst : ym_se p1 ((po, pt) :: r) ce = ym_se p1 r (ym_e1 po pt ce) := if_pos (by omega)
              have he1 : ym_e1 po pt ce = (ce.1, yu ce.2.1 t0 (nc : Int), ce.2.2) := by
                unfold ym_e1
                rw [if_pos hand, ht0, ← hnc, Int.toNat_natCast]
              have hD3 := zD_29 (v := (rl : Int)) (pi' := r) hD (by omega) dp3
              have hb3 : zDb a (zp_set G a 29 (rl : Int)) b12 b24 b25 b27 b28 := zDb_s hDb (Or.inr rfl)
              refine ih (ym_e1 po pt ce) (zp_set (zp_set G a 29 (rl : Int)) b25 (2000 + t0) (nc : Int)) ?_ hj1 (zDb_s hb3 (Or.inl (zp_pne hq25 hp (by decide)))) (hse.trans hst)
              rw [he1]
              exact zD_w25 hD3 hb3
  exact loop pi cd _ hD0 hj0 hDb0 rfl
noncomputable def zφD_nx (B : Nat → Int) (ln q : Nat) : (Nat → Option Nat) → (Nat → Nat → Int) → List Int → Prop := fun _ G ps => zDy (zp_0 ps) G B ln q
noncomputable def zψD_nx (B : Nat → Int) (ln q : Nat) : (Nat → Option Nat) → (Nat → Nat → Int) → List Int → (Nat → Option Nat) → (Nat → Nat → Int) → Int → Prop := fun P G ps P' G' rn => P' = P ∧ zDx (zp_0 ps) G G' B ln q
theorem zY_nx {l : Launch} {w : zk_W} (hW : zh_W w) (B : Nat → Int) (ln q : Nat) : zk_metX l w zt_dv zt_TB zK_nx (zp_A (zφD_nx B ln q)) (zp_B (zψD_nx B ln q)) ∧ zk_cok w zt_TB zK_nx := by
  refine zp_meth hW (pl := 1684) rfl (by decide +kernel) (fun p e R s m args below meth c Q u hx hb hE hQ hU5 heff hnL hok hφ => ?_)
  have hw := hW.1
  obtain ⟨p0, hps, k0⟩ := zp_ps1 hok
  obtain ⟨a, rfl, hp⟩ := zp_this k0
  have hrm : zk_Kr (zk_ev (zp_E zK_nx)) = zk_Kr zK_nx := rfl
  rw [hps] at hφ ⊢
  have hφ : zDy a (zp_n u.2.1) B ln q := hφ
  obtain ⟨⟨d13, dl, hql, d12⟩, dB, d15⟩ := hφ
  show zp_J p l e R s m args below meth c Q w u [] 0 [(0, 2, (a : Int))] [] u.1 (zp_n u.2.1)
  refine zp_kn (k := 12) (a := a) hw (show zp_fd 92 12 = some (12, 2, 66, 0, 0) from rfl) rfl hp (fun hk12 => ?_)
  obtain ⟨b12, hb12, hq12⟩ := zp_this hk12
  have hB : ∀ j, zp_n u.2.1 b12 (2000 + j) = B j := fun j => by rw [← zv_eq hb12]; exact d12 j
  have hψ : ∀ G : Nat → Nat → Int, (∀ k, k ≠ 14 → k ≠ 15 → k ≠ 16 → k ≠ 17 → G a k = zp_n u.2.1 a k) → (∀ b j, b ≠ a → G b j = zp_n u.2.1 b j) → G a 14 = (zy_fr B ln q : Int) → G a 15 = (zy_to B ln q : Int) → G a 16 = (zy_so B ln q : Int) → G a 17 = zy_wo B ln q → zψD_nx B ln q u.1 (zp_n u.2.1) [(a : Int)] u.1 G 0 := by
    intro G gk gb g14 g15 g16 g17
    exact ⟨rfl, gk, gb, g14, g15, g16, g17⟩
  have loop3 : ∀ (n f t : Nat) (wv : Int), ln - t < n → f ≤ t → t ≤ ln → zy_fr B ln q = f → zy_so B ln q = 2 → zy_to B ln q = zy_r zy_dg B ln t → zy_wo B ln q = zy_dw B f (zy_to B ln q - f) → wv = zy_dw B f (t - f) → 0 ≤ wv → wv ≤ 10000009 → ∀ (G : Nat → Nat → Int), (∀ k, k ≠ 14 → k ≠ 15 → k ≠ 16 → k ≠ 17 → G a k = zp_n u.2.1 a k) → (∀ b j, b ≠ a → G b j = zp_n u.2.1 b j) → G a 14 = (f : Int) → G a 15 = (t : Int) → G a 16 = 2 → G a 17 = wv → zp_J p l e R s m args below meth c Q w u [] 243 [(0, 2, (a : Int))] [] u.1 G := by
    intro n
    induction n with
    | zero => intro f t wv h; exact absurd h (Nat.not_lt_zero _)
    | succ n ih =>
      intro f t wv hn h1 h2 hfr hso hto hwo hwv hw0 hw1 G gk gb g14 g15 g16 g17
      have hBt := dB t
      refine zp_load (pc := 243) hx hb (zd_X12_next (243, .aload_n 0, 1, 0, []) (List.mem_of_getElem? (i := 123) rfl)) rfl (j := 0) rfl ?_
      refine zp_getf (n := 2) (pc := 244) hx hb hE hw (zd_X12_next (244, .getfield 260, 3, 0, []) (List.mem_of_getElem? (i := 124) rfl)) (j := 34) rfl rfl rfl hp g16 ?_
      refine zp_const (pc := 247) hx hb (zd_X12_next (247, .iconst 2, 1, 0, []) (List.mem_of_getElem? (i := 125) rfl)) rfl rfl ?_
      refine zp_icmp (pc := 248) (tgt := 335) hx hb (zd_X12_next (248, .if_icmp .ne 87, 3, 0, []) (List.mem_of_getElem? (i := 126) rfl)) rfl (fun (hcq31 : ¬ 2 = 2) => ?_) (fun (hcq31 : ¬ (¬ 2 = 2)) => ?_)
      · exfalso
        omega
      · refine zp_load (pc := 251) hx hb (zd_X12_next (251, .aload_n 0, 1, 0, []) (List.mem_of_getElem? (i := 127) rfl)) rfl (j := 0) rfl ?_
        refine zp_getf (n := (t : Int)) (pc := 252) hx hb hE hw (zd_X12_next (252, .getfield 237, 3, 0, []) (List.mem_of_getElem? (i := 128) rfl)) (j := 33) rfl rfl rfl hp g15 ?_
        refine zp_load (pc := 255) hx hb (zd_X12_next (255, .aload_n 0, 1, 0, []) (List.mem_of_getElem? (i := 129) rfl)) rfl (j := 0) rfl ?_
        refine zp_getf (n := (ln : Int)) (pc := 256) hx hb hE hw (zd_X12_next (256, .getfield 228, 3, 0, []) (List.mem_of_getElem? (i := 130) rfl)) (j := 31) rfl rfl rfl hp ((gk 13 (by decide) (by decide) (by decide) (by decide)).trans d13) ?_
        refine zp_icmp (pc := 259) (tgt := 335) hx hb (zd_X12_next (259, .if_icmp .ge 76, 3, 0, []) (List.mem_of_getElem? (i := 131) rfl)) rfl (fun (hcq32 : (ln : Int) ≤ (t : Int)) => ?_) (fun (hcq32 : ¬ ((ln : Int) ≤ (t : Int))) => ?_)
        · have hte : zy_to B ln q = t := hto.trans (zy_r_no (fun z => by
            obtain ⟨z1, z2⟩ := z
            have z3 := zDt_dg.mp z2
            omega))
          refine zp_vret (pc := 335) hx hb hE hQ hU5 rfl (by decide) (zd_X12_next (335, .return_, 1, 0, []) (List.mem_of_getElem? (i := 169) rfl)) (j := 0) rfl ?_
          rw [hps]
          refine hψ G gk gb (by rw [g14, hfr]) (by rw [g15, hte]) (by rw [g16, hso]; rfl) ?_
          rw [g17, hwo, hte]
          exact hwv
        · refine zp_load (pc := 262) hx hb (zd_X12_next (262, .aload_n 0, 1, 0, []) (List.mem_of_getElem? (i := 132) rfl)) rfl (j := 0) rfl ?_
          refine zp_getf (n := (b12 : Int)) (pc := 263) hx hb hE hw (zd_X12_next (263, .getfield 35, 3, 0, []) (List.mem_of_getElem? (i := 133) rfl)) (j := 30) rfl rfl rfl hp ((gk 12 (by decide) (by decide) (by decide) (by decide)).trans hb12) ?_
          refine zp_load (pc := 266) hx hb (zd_X12_next (266, .aload_n 0, 1, 0, []) (List.mem_of_getElem? (i := 134) rfl)) rfl (j := 0) rfl ?_
          refine zp_getf (n := (t : Int)) (pc := 267) hx hb hE hw (zd_X12_next (267, .getfield 237, 3, 0, []) (List.mem_of_getElem? (i := 135) rfl)) (j := 33) rfl rfl rfl hp g15 ?_
          refine zp_iald (j := t) (v := (B t)) (pc := 270) hx hb hw (zd_X12_next (270, .iaload, 1, 0, []) (List.mem_of_getElem? (i := 136) rfl)) (show zp_ia 1 66 = some (400, 0, 0, 0, 255) from rfl) hq12 (by omega) (by omega) ((gb b12 (2000 + t) (zp_pne hq12 hp (by decide))).trans (hB t)) (fun hk33 => ?_)
          have hk33b := zp_int hk33
          refine zp_call (pc := 271) (how := 1) (idx := 257) (mi := 214) (S := []) hx hb hE hw heff hrm (zX_dg hW) rfl (j := 16) rfl rfl (by decide +kernel) (zd_X12_next (271, .invokestatic 257, 3, 0, []) (List.mem_of_getElem? (i := 137) rfl)) [(B t)] rfl ⟨zp_o0 (by omega) (by omega) (by omega) (by omega), trivial⟩ (Nat.le_of_ble_eq_true rfl) trivial (fun al hal rnd Pd Gd hextd hfrd hokd hcsd hpsid => ?_)
          obtain rfl := List.mem_singleton.mp hal
          have hrd := zp_int (hokd _ rfl).1
          obtain ⟨hPed, hGed, htd⟩ := hpsid
          rw [hPed, hGed]
          have htd : (48 ≤ (B t) ∧ (B t) ≤ 57) ↔ rnd = 1 := htd
          refine zp_if (pc := 274) (tgt := 335) hx hb (zd_X12_next (274, .ifCond .eq 61, 3, 0, []) (List.mem_of_getElem? (i := 138) rfl)) rfl (fun (hcq34 : rnd = 0) => ?_) (fun (hcq34 : ¬ (rnd = 0)) => ?_)
          · have hte : zy_to B ln q = t := hto.trans (zy_r_no (fun z => by
              obtain ⟨z1, z2⟩ := z
              have z3 := zDt_dg.mp z2
              omega))
            refine zp_vret (pc := 335) hx hb hE hQ hU5 rfl (by decide) (zd_X12_next (335, .return_, 1, 0, []) (List.mem_of_getElem? (i := 169) rfl)) (j := 0) rfl ?_
            rw [hps]
            refine hψ G gk gb (by rw [g14, hfr]) (by rw [g15, hte]) (by rw [g16, hso]; rfl) ?_
            rw [g17, hwo, hte]
            exact hwv
          · refine zp_load (pc := 277) hx hb (zd_X12_next (277, .aload_n 0, 1, 0, []) (List.mem_of_getElem? (i := 139) rfl)) rfl (j := 0) rfl ?_
            refine zp_load (pc := 278) hx hb (zd_X12_next (278, .aload_n 0, 1, 0, []) (List.mem_of_getElem? (i := 140) rfl)) rfl (j := 0) rfl ?_
            refine zp_getf (n := wv) (pc := 279) hx hb hE hw (zd_X12_next (279, .getfield 250, 3, 0, []) (List.mem_of_getElem? (i := 141) rfl)) (j := 35) rfl rfl rfl hp g17 ?_
            refine zp_ldc2 (pc := 282) hx hb hE (zd_X12_next (282, .ldc2_w 269, 3, 0, []) (List.mem_of_getElem? (i := 142) rfl)) (j := 93) rfl ?_
            refine zp_lcmp (pc := 285) (tgt := 296) hx hb (zd_X12_next (285, .lcmp, 1, 0, []) (List.mem_of_getElem? (i := 143) rfl)) (zd_X12_next (286, .ifCond .le 10, 3, 0, []) (List.mem_of_getElem? (i := 144) rfl)) rfl (fun (hcq35 : wv ≤ 1000000) => ?_) (fun (hcq35 : ¬ (wv ≤ 1000000)) => ?_)
            · refine zp_load (pc := 296) hx hb (zd_X12_next (296, .aload_n 0, 1, 0, []) (List.mem_of_getElem? (i := 148) rfl)) rfl (j := 0) rfl ?_
              refine zp_getf (n := wv) (pc := 297) hx hb hE hw (zd_X12_next (297, .getfield 250, 3, 0, []) (List.mem_of_getElem? (i := 149) rfl)) (j := 35) rfl rfl rfl hp g17 ?_
              refine zp_ldc2 (pc := 300) hx hb hE (zd_X12_next (300, .ldc2_w 271, 3, 0, []) (List.mem_of_getElem? (i := 150) rfl)) (j := 94) rfl ?_
              refine zDo_lmul (n := (wv * 10)) (pc := 303) hx hb (zd_X12_next (303, .lmul, 1, 0, []) (List.mem_of_getElem? (i := 151) rfl)) rfl (zp_r1 (by omega) (by omega)) ?_
              refine zp_load (pc := 304) hx hb (zd_X12_next (304, .aload_n 0, 1, 0, []) (List.mem_of_getElem? (i := 152) rfl)) rfl (j := 0) rfl ?_
              refine zp_getf (n := (b12 : Int)) (pc := 305) hx hb hE hw (zd_X12_next (305, .getfield 35, 3, 0, []) (List.mem_of_getElem? (i := 153) rfl)) (j := 30) rfl rfl rfl hp ((gk 12 (by decide) (by decide) (by decide) (by decide)).trans hb12) ?_
              refine zp_load (pc := 308) hx hb (zd_X12_next (308, .aload_n 0, 1, 0, []) (List.mem_of_getElem? (i := 154) rfl)) rfl (j := 0) rfl ?_
              refine zp_getf (n := (t : Int)) (pc := 309) hx hb hE hw (zd_X12_next (309, .getfield 237, 3, 0, []) (List.mem_of_getElem? (i := 155) rfl)) (j := 33) rfl rfl rfl hp g15 ?_
              refine zp_iald (j := t) (v := (B t)) (pc := 312) hx hb hw (zd_X12_next (312, .iaload, 1, 0, []) (List.mem_of_getElem? (i := 156) rfl)) (show zp_ia 1 66 = some (400, 0, 0, 0, 255) from rfl) hq12 (by omega) (by omega) ((gb b12 (2000 + t) (zp_pne hq12 hp (by decide))).trans (hB t)) (fun hk36 => ?_)
              have hk36b := zp_int hk36
              refine zp_i2l (pc := 313) hx hb (zd_X12_next (313, .i2l, 1, 0, []) (List.mem_of_getElem? (i := 157) rfl)) ?_
              refine zDo_ladd (n := ((wv * 10) + (B t))) (pc := 314) hx hb (zd_X12_next (314, .ladd, 1, 0, []) (List.mem_of_getElem? (i := 158) rfl)) rfl (zp_r1 (by omega) (by omega)) ?_
              refine zp_ldc2 (pc := 315) hx hb hE (zd_X12_next (315, .ldc2_w 273, 3, 0, []) (List.mem_of_getElem? (i := 159) rfl)) (j := 95) rfl ?_
              refine zDo_lsub (n := (((wv * 10) + (B t)) - 48)) (pc := 318) hx hb (zd_X12_next (318, .lsub, 1, 0, []) (List.mem_of_getElem? (i := 160) rfl)) rfl (zp_r1 (by omega) (by omega)) ?_
              refine zp_putf (pc := 319) hx hb hE hw heff (zd_X12_next (319, .putfield 250, 3, 0, []) (List.mem_of_getElem? (i := 161) rfl)) (j := 35) rfl rfl rfl hp (zp_o1 (by first | assumption | exact zp_r1 (by omega) (by omega))) ?_
              refine zp_load (pc := 322) hx hb (zd_X12_next (322, .aload_n 0, 1, 0, []) (List.mem_of_getElem? (i := 162) rfl)) rfl (j := 0) rfl ?_
              refine zp_dup (pc := 323) hx hb (zd_X12_next (323, .dup, 1, 0, []) (List.mem_of_getElem? (i := 163) rfl)) (show (2 : Nat) ≠ 1 by decide) ?_
              refine zp_getf (n := (t : Int)) (pc := 324) hx hb hE hw (zd_X12_next (324, .getfield 237, 3, 0, []) (List.mem_of_getElem? (i := 164) rfl)) (j := 33) rfl rfl rfl hp ((zp_set_ne (Or.inr (by decide))).trans (g15)) ?_
              refine zp_const (pc := 327) hx hb (zd_X12_next (327, .iconst 1, 1, 0, []) (List.mem_of_getElem? (i := 165) rfl)) rfl rfl ?_
              refine zp_add (n := ((t : Int) + 1)) (pc := 328) hx hb (zd_X12_next (328, .iadd, 1, 0, []) (List.mem_of_getElem? (i := 166) rfl)) (by omega) (zp_r0 (by omega) (by omega)) ?_
              refine zp_putf (pc := 329) hx hb hE hw heff (zd_X12_next (329, .putfield 237, 3, 0, []) (List.mem_of_getElem? (i := 167) rfl)) (j := 33) rfl rfl rfl hp (zp_o0 (by omega) (by omega) (by omega) (by omega)) ?_
              refine zp_goto (tgt := 243) (pc := 332) hx hb (zd_X12_next (332, .goto (-89), 3, 0, []) (List.mem_of_getElem? (i := 168) rfl)) rfl ?_
              refine ih f (t + 1) (((wv * 10) + (B t)) - 48) (by omega) (by omega) (by omega) hfr hso (hto.trans (zy_r_go (by omega) (zDt_dg.mpr (by omega)))) hwo ?_ (by omega) (by omega) _ (fun k k1 k2 k3 k4 => (zp_set_ne (Or.inr k2)).trans ((zp_set_ne (Or.inr k4)).trans (gk k k1 k2 k3 k4))) (fun b j hbj => (zp_set_ne (Or.inl hbj)).trans ((zp_set_ne (Or.inl hbj)).trans (gb b j hbj))) ((zp_set_ne (Or.inr (by decide))).trans ((zp_set_ne (Or.inr (by decide))).trans (g14))) zp_set_self ((zp_set_ne (Or.inr (by decide))).trans ((zp_set_ne (Or.inr (by decide))).trans (g16))) ((zp_set_ne (Or.inr (by decide))).trans (zp_set_self))
              rw [show t + 1 - f = (t - f) + 1 by omega]
              show _ = if 1000000 < zy_dw B f (t - f) then zy_dw B f (t - f) else zy_dw B f (t - f) * 10 + B (f + (t - f)) - 48
              rw [← hwv, show f + (t - f) = t by omega]
              rw [if_neg (by omega)]
            · refine zp_load (pc := 289) hx hb (zd_X12_next (289, .aload_n 0, 1, 0, []) (List.mem_of_getElem? (i := 145) rfl)) rfl (j := 0) rfl ?_
              refine zp_getf (n := wv) (pc := 290) hx hb hE hw (zd_X12_next (290, .getfield 250, 3, 0, []) (List.mem_of_getElem? (i := 146) rfl)) (j := 35) rfl rfl rfl hp g17 ?_
              refine zp_goto (tgt := 319) (pc := 293) hx hb (zd_X12_next (293, .goto 26, 3, 0, []) (List.mem_of_getElem? (i := 147) rfl)) rfl ?_
              refine zp_putf (pc := 319) hx hb hE hw heff (zd_X12_next (319, .putfield 250, 3, 0, []) (List.mem_of_getElem? (i := 161) rfl)) (j := 35) rfl rfl rfl hp (zp_o1 (by first | assumption | exact zp_r1 (by omega) (by omega))) ?_
              refine zp_load (pc := 322) hx hb (zd_X12_next (322, .aload_n 0, 1, 0, []) (List.mem_of_getElem? (i := 162) rfl)) rfl (j := 0) rfl ?_
              refine zp_dup (pc := 323) hx hb (zd_X12_next (323, .dup, 1, 0, []) (List.mem_of_getElem? (i := 163) rfl)) (show (2 : Nat) ≠ 1 by decide) ?_
              refine zp_getf (n := (t : Int)) (pc := 324) hx hb hE hw (zd_X12_next (324, .getfield 237, 3, 0, []) (List.mem_of_getElem? (i := 164) rfl)) (j := 33) rfl rfl rfl hp ((zp_set_ne (Or.inr (by decide))).trans (g15)) ?_
              refine zp_const (pc := 327) hx hb (zd_X12_next (327, .iconst 1, 1, 0, []) (List.mem_of_getElem? (i := 165) rfl)) rfl rfl ?_
              refine zp_add (n := ((t : Int) + 1)) (pc := 328) hx hb (zd_X12_next (328, .iadd, 1, 0, []) (List.mem_of_getElem? (i := 166) rfl)) (by omega) (zp_r0 (by omega) (by omega)) ?_
              refine zp_putf (pc := 329) hx hb hE hw heff (zd_X12_next (329, .putfield 237, 3, 0, []) (List.mem_of_getElem? (i := 167) rfl)) (j := 33) rfl rfl rfl hp (zp_o0 (by omega) (by omega) (by omega) (by omega)) ?_
              refine zp_goto (tgt := 243) (pc := 332) hx hb (zd_X12_next (332, .goto (-89), 3, 0, []) (List.mem_of_getElem? (i := 168) rfl)) rfl ?_
              refine ih f (t + 1) wv (by omega) (by omega) (by omega) hfr hso (hto.trans (zy_r_go (by omega) (zDt_dg.mpr (by omega)))) hwo ?_ (by omega) (by omega) _ (fun k k1 k2 k3 k4 => (zp_set_ne (Or.inr k2)).trans ((zp_set_ne (Or.inr k4)).trans (gk k k1 k2 k3 k4))) (fun b j hbj => (zp_set_ne (Or.inl hbj)).trans ((zp_set_ne (Or.inl hbj)).trans (gb b j hbj))) ((zp_set_ne (Or.inr (by decide))).trans ((zp_set_ne (Or.inr (by decide))).trans (g14))) zp_set_self ((zp_set_ne (Or.inr (by decide))).trans ((zp_set_ne (Or.inr (by decide))).trans (g16))) ((zp_set_ne (Or.inr (by decide))).trans (zp_set_self))
              rw [show t + 1 - f = (t - f) + 1 by omega]
              show _ = if 1000000 < zy_dw B f (t - f) then zy_dw B f (t - f) else zy_dw B f (t - f) * 10 + B (f + (t - f)) - 48
              rw [← hwv, show f + (t - f) = t by omega]
              rw [if_pos (by omega)]
  have loop2 : ∀ (n f t : Nat) (wv : Int), ln - t < n → f ≤ t → t ≤ ln → zy_fr B ln q = f → zy_so B ln q = 1 → zy_to B ln q = zy_r zy_sm B ln t → zy_wo B ln q = zy_ww B f (zy_to B ln q - f) → wv = zy_ww B f (t - f) → ∀ (G : Nat → Nat → Int), (∀ k, k ≠ 14 → k ≠ 15 → k ≠ 16 → k ≠ 17 → G a k = zp_n u.2.1 a k) → (∀ b j, b ≠ a → G b j = zp_n u.2.1 b j) → G a 14 = (f : Int) → G a 15 = (t : Int) → G a 16 = 1 → G a 17 = wv → zp_J p l e R s m args below meth c Q w u [] 149 [(0, 2, (a : Int))] [] u.1 G := by
    clear loop3
    intro n
    induction n with
    | zero => intro f t wv h; exact absurd h (Nat.not_lt_zero _)
    | succ n ih =>
      intro f t wv hn h1 h2 hfr hso hto hwo hwv G gk gb g14 g15 g16 g17
      have hBt := dB t
      have hwb : t - f < 10 → -250000000000001 ≤ wv ∧ wv ≤ 250000000000001 := fun z => by
        have z1 := zy_ww_b (q := f) dB (t - f)
        have z2 := ymb_9 (t - f) z
        rw [← hwv] at z1
        omega
      refine zp_load (pc := 149) hx hb (zd_X12_next (149, .aload_n 0, 1, 0, []) (List.mem_of_getElem? (i := 76) rfl)) rfl (j := 0) rfl ?_
      refine zp_getf (n := 1) (pc := 150) hx hb hE hw (zd_X12_next (150, .getfield 260, 3, 0, []) (List.mem_of_getElem? (i := 77) rfl)) (j := 34) rfl rfl rfl hp g16 ?_
      refine zp_const (pc := 153) hx hb (zd_X12_next (153, .iconst 1, 1, 0, []) (List.mem_of_getElem? (i := 78) rfl)) rfl rfl ?_
      refine zp_icmp (pc := 154) (tgt := 243) hx hb (zd_X12_next (154, .if_icmp .ne 89, 3, 0, []) (List.mem_of_getElem? (i := 79) rfl)) rfl (fun (hcq37 : ¬ 1 = 1) => ?_) (fun (hcq37 : ¬ (¬ 1 = 1)) => ?_)
      · exfalso
        omega
      · refine zp_load (pc := 157) hx hb (zd_X12_next (157, .aload_n 0, 1, 0, []) (List.mem_of_getElem? (i := 80) rfl)) rfl (j := 0) rfl ?_
        refine zp_getf (n := (t : Int)) (pc := 158) hx hb hE hw (zd_X12_next (158, .getfield 237, 3, 0, []) (List.mem_of_getElem? (i := 81) rfl)) (j := 33) rfl rfl rfl hp g15 ?_
        refine zp_load (pc := 161) hx hb (zd_X12_next (161, .aload_n 0, 1, 0, []) (List.mem_of_getElem? (i := 82) rfl)) rfl (j := 0) rfl ?_
        refine zp_getf (n := (ln : Int)) (pc := 162) hx hb hE hw (zd_X12_next (162, .getfield 228, 3, 0, []) (List.mem_of_getElem? (i := 83) rfl)) (j := 31) rfl rfl rfl hp ((gk 13 (by decide) (by decide) (by decide) (by decide)).trans d13) ?_
        refine zp_icmp (pc := 165) (tgt := 243) hx hb (zd_X12_next (165, .if_icmp .ge 78, 3, 0, []) (List.mem_of_getElem? (i := 84) rfl)) rfl (fun (hcq38 : (ln : Int) ≤ (t : Int)) => ?_) (fun (hcq38 : ¬ ((ln : Int) ≤ (t : Int))) => ?_)
        · refine zp_load (pc := 243) hx hb (zd_X12_next (243, .aload_n 0, 1, 0, []) (List.mem_of_getElem? (i := 123) rfl)) rfl (j := 0) rfl ?_
          refine zp_getf (n := 1) (pc := 244) hx hb hE hw (zd_X12_next (244, .getfield 260, 3, 0, []) (List.mem_of_getElem? (i := 124) rfl)) (j := 34) rfl rfl rfl hp g16 ?_
          refine zp_const (pc := 247) hx hb (zd_X12_next (247, .iconst 2, 1, 0, []) (List.mem_of_getElem? (i := 125) rfl)) rfl rfl ?_
          refine zp_icmp (pc := 248) (tgt := 335) hx hb (zd_X12_next (248, .if_icmp .ne 87, 3, 0, []) (List.mem_of_getElem? (i := 126) rfl)) rfl (fun (hcq39 : ¬ 1 = 2) => ?_) (fun (hcq39 : ¬ (¬ 1 = 2)) => ?_)
          · have hte : zy_to B ln q = t := hto.trans (zy_r_no (fun z => by
              obtain ⟨z1, z2⟩ := z
              have z3 := zDt_sm.mp z2
              omega))
            refine zp_vret (pc := 335) hx hb hE hQ hU5 rfl (by decide) (zd_X12_next (335, .return_, 1, 0, []) (List.mem_of_getElem? (i := 169) rfl)) (j := 0) rfl ?_
            rw [hps]
            refine hψ G gk gb (by rw [g14, hfr]) (by rw [g15, hte]) (by rw [g16, hso]; rfl) ?_
            rw [g17, hwo, hte]
            exact hwv
          · exfalso
            omega
        · refine zp_load (pc := 168) hx hb (zd_X12_next (168, .aload_n 0, 1, 0, []) (List.mem_of_getElem? (i := 85) rfl)) rfl (j := 0) rfl ?_
          refine zp_getf (n := (b12 : Int)) (pc := 169) hx hb hE hw (zd_X12_next (169, .getfield 35, 3, 0, []) (List.mem_of_getElem? (i := 86) rfl)) (j := 30) rfl rfl rfl hp ((gk 12 (by decide) (by decide) (by decide) (by decide)).trans hb12) ?_
          refine zp_load (pc := 172) hx hb (zd_X12_next (172, .aload_n 0, 1, 0, []) (List.mem_of_getElem? (i := 87) rfl)) rfl (j := 0) rfl ?_
          refine zp_getf (n := (t : Int)) (pc := 173) hx hb hE hw (zd_X12_next (173, .getfield 237, 3, 0, []) (List.mem_of_getElem? (i := 88) rfl)) (j := 33) rfl rfl rfl hp g15 ?_
          refine zp_iald (j := t) (v := (B t)) (pc := 176) hx hb hw (zd_X12_next (176, .iaload, 1, 0, []) (List.mem_of_getElem? (i := 89) rfl)) (show zp_ia 1 66 = some (400, 0, 0, 0, 255) from rfl) hq12 (by omega) (by omega) ((gb b12 (2000 + t) (zp_pne hq12 hp (by decide))).trans (hB t)) (fun hk40 => ?_)
          have hk40b := zp_int hk40
          refine zp_call (pc := 177) (how := 1) (idx := 254) (mi := 213) (S := []) hx hb hE hw heff hrm (zX_sm hW) rfl (j := 15) rfl rfl (by decide +kernel) (zd_X12_next (177, .invokestatic 254, 3, 0, []) (List.mem_of_getElem? (i := 90) rfl)) [(B t)] rfl ⟨zp_o0 (by omega) (by omega) (by omega) (by omega), trivial⟩ (Nat.le_of_ble_eq_true rfl) trivial (fun al hal rns Ps Gs hexts hfrs hoks hcss hpsis => ?_)
          obtain rfl := List.mem_singleton.mp hal
          have hrs := zp_int (hoks _ rfl).1
          obtain ⟨hPes, hGes, hts⟩ := hpsis
          rw [hPes, hGes]
          have hts : (97 ≤ (B t) ∧ (B t) ≤ 122) ↔ rns = 1 := hts
          refine zp_if (pc := 180) (tgt := 243) hx hb (zd_X12_next (180, .ifCond .eq 63, 3, 0, []) (List.mem_of_getElem? (i := 91) rfl)) rfl (fun (hcq41 : rns = 0) => ?_) (fun (hcq41 : ¬ (rns = 0)) => ?_)
          · refine zp_load (pc := 243) hx hb (zd_X12_next (243, .aload_n 0, 1, 0, []) (List.mem_of_getElem? (i := 123) rfl)) rfl (j := 0) rfl ?_
            refine zp_getf (n := 1) (pc := 244) hx hb hE hw (zd_X12_next (244, .getfield 260, 3, 0, []) (List.mem_of_getElem? (i := 124) rfl)) (j := 34) rfl rfl rfl hp g16 ?_
            refine zp_const (pc := 247) hx hb (zd_X12_next (247, .iconst 2, 1, 0, []) (List.mem_of_getElem? (i := 125) rfl)) rfl rfl ?_
            refine zp_icmp (pc := 248) (tgt := 335) hx hb (zd_X12_next (248, .if_icmp .ne 87, 3, 0, []) (List.mem_of_getElem? (i := 126) rfl)) rfl (fun (hcq42 : ¬ 1 = 2) => ?_) (fun (hcq42 : ¬ (¬ 1 = 2)) => ?_)
            · have hte : zy_to B ln q = t := hto.trans (zy_r_no (fun z => by
                obtain ⟨z1, z2⟩ := z
                have z3 := zDt_sm.mp z2
                omega))
              refine zp_vret (pc := 335) hx hb hE hQ hU5 rfl (by decide) (zd_X12_next (335, .return_, 1, 0, []) (List.mem_of_getElem? (i := 169) rfl)) (j := 0) rfl ?_
              rw [hps]
              refine hψ G gk gb (by rw [g14, hfr]) (by rw [g15, hte]) (by rw [g16, hso]; rfl) ?_
              rw [g17, hwo, hte]
              exact hwv
            · exfalso
              omega
          · refine zp_load (pc := 183) hx hb (zd_X12_next (183, .aload_n 0, 1, 0, []) (List.mem_of_getElem? (i := 92) rfl)) rfl (j := 0) rfl ?_
            refine zp_load (pc := 184) hx hb (zd_X12_next (184, .aload_n 0, 1, 0, []) (List.mem_of_getElem? (i := 93) rfl)) rfl (j := 0) rfl ?_
            refine zp_getf (n := (t : Int)) (pc := 185) hx hb hE hw (zd_X12_next (185, .getfield 237, 3, 0, []) (List.mem_of_getElem? (i := 94) rfl)) (j := 33) rfl rfl rfl hp g15 ?_
            refine zp_load (pc := 188) hx hb (zd_X12_next (188, .aload_n 0, 1, 0, []) (List.mem_of_getElem? (i := 95) rfl)) rfl (j := 0) rfl ?_
            refine zp_getf (n := (f : Int)) (pc := 189) hx hb hE hw (zd_X12_next (189, .getfield 247, 3, 0, []) (List.mem_of_getElem? (i := 96) rfl)) (j := 32) rfl rfl rfl hp g14 ?_
            refine zp_sub (n := ((t : Int) + (-1) * (f : Int))) (pc := 192) hx hb (zd_X12_next (192, .isub, 1, 0, []) (List.mem_of_getElem? (i := 97) rfl)) (by omega) (zp_r0 (by omega) (by omega)) ?_
            refine zp_const (pc := 193) hx hb (zd_X12_next (193, .bipush 10, 2, 0, []) (List.mem_of_getElem? (i := 98) rfl)) rfl rfl ?_
            refine zp_icmp (pc := 195) (tgt := 224) hx hb (zd_X12_next (195, .if_icmp .ge 29, 3, 0, []) (List.mem_of_getElem? (i := 99) rfl)) rfl (fun (hcq43 : 10 ≤ ((t : Int) + (-1) * (f : Int))) => ?_) (fun (hcq43 : ¬ (10 ≤ ((t : Int) + (-1) * (f : Int)))) => ?_)
            · refine zp_ldc2 (pc := 224) hx hb hE (zd_X12_next (224, .ldc2_w 267, 3, 0, []) (List.mem_of_getElem? (i := 114) rfl)) (j := 92) rfl ?_
              refine zp_putf (pc := 227) hx hb hE hw heff (zd_X12_next (227, .putfield 250, 3, 0, []) (List.mem_of_getElem? (i := 115) rfl)) (j := 35) rfl rfl rfl hp (zp_o1 ⟨by decide, by decide⟩) ?_
              refine zp_load (pc := 230) hx hb (zd_X12_next (230, .aload_n 0, 1, 0, []) (List.mem_of_getElem? (i := 116) rfl)) rfl (j := 0) rfl ?_
              refine zp_dup (pc := 231) hx hb (zd_X12_next (231, .dup, 1, 0, []) (List.mem_of_getElem? (i := 117) rfl)) (show (2 : Nat) ≠ 1 by decide) ?_
              refine zp_getf (n := (t : Int)) (pc := 232) hx hb hE hw (zd_X12_next (232, .getfield 237, 3, 0, []) (List.mem_of_getElem? (i := 118) rfl)) (j := 33) rfl rfl rfl hp ((zp_set_ne (Or.inr (by decide))).trans (g15)) ?_
              refine zp_const (pc := 235) hx hb (zd_X12_next (235, .iconst 1, 1, 0, []) (List.mem_of_getElem? (i := 119) rfl)) rfl rfl ?_
              refine zp_add (n := ((t : Int) + 1)) (pc := 236) hx hb (zd_X12_next (236, .iadd, 1, 0, []) (List.mem_of_getElem? (i := 120) rfl)) (by omega) (zp_r0 (by omega) (by omega)) ?_
              refine zp_putf (pc := 237) hx hb hE hw heff (zd_X12_next (237, .putfield 237, 3, 0, []) (List.mem_of_getElem? (i := 121) rfl)) (j := 33) rfl rfl rfl hp (zp_o0 (by omega) (by omega) (by omega) (by omega)) ?_
              refine zp_goto (tgt := 149) (pc := 240) hx hb (zd_X12_next (240, .goto (-91), 3, 0, []) (List.mem_of_getElem? (i := 122) rfl)) rfl ?_
              refine ih f (t + 1) (-1) (by omega) (by omega) (by omega) hfr hso (hto.trans (zy_r_go (by omega) (zDt_sm.mpr (by omega)))) hwo ?_ _ (fun k k1 k2 k3 k4 => (zp_set_ne (Or.inr k2)).trans ((zp_set_ne (Or.inr k4)).trans (gk k k1 k2 k3 k4))) (fun b j hbj => (zp_set_ne (Or.inl hbj)).trans ((zp_set_ne (Or.inl hbj)).trans (gb b j hbj))) ((zp_set_ne (Or.inr (by decide))).trans ((zp_set_ne (Or.inr (by decide))).trans (g14))) zp_set_self ((zp_set_ne (Or.inr (by decide))).trans ((zp_set_ne (Or.inr (by decide))).trans (g16))) ((zp_set_ne (Or.inr (by decide))).trans (zp_set_self))
              rw [show t + 1 - f = (t - f) + 1 by omega]
              show _ = if t - f < 10 then zy_ww B f (t - f) * 32 + B (f + (t - f)) - 96 else -1
              rw [← hwv, show f + (t - f) = t by omega]
              rw [if_neg (by omega)]
            · have hwb2 := hwb (by omega)
              refine zp_load (pc := 198) hx hb (zd_X12_next (198, .aload_n 0, 1, 0, []) (List.mem_of_getElem? (i := 100) rfl)) rfl (j := 0) rfl ?_
              refine zp_getf (n := wv) (pc := 199) hx hb hE hw (zd_X12_next (199, .getfield 250, 3, 0, []) (List.mem_of_getElem? (i := 101) rfl)) (j := 35) rfl rfl rfl hp g17 ?_
              refine zp_ldc2 (pc := 202) hx hb hE (zd_X12_next (202, .ldc2_w 263, 3, 0, []) (List.mem_of_getElem? (i := 102) rfl)) (j := 90) rfl ?_
              refine zDo_lmul (n := (wv * 32)) (pc := 205) hx hb (zd_X12_next (205, .lmul, 1, 0, []) (List.mem_of_getElem? (i := 103) rfl)) rfl (zp_r1 (by omega) (by omega)) ?_
              refine zp_load (pc := 206) hx hb (zd_X12_next (206, .aload_n 0, 1, 0, []) (List.mem_of_getElem? (i := 104) rfl)) rfl (j := 0) rfl ?_
              refine zp_getf (n := (b12 : Int)) (pc := 207) hx hb hE hw (zd_X12_next (207, .getfield 35, 3, 0, []) (List.mem_of_getElem? (i := 105) rfl)) (j := 30) rfl rfl rfl hp ((gk 12 (by decide) (by decide) (by decide) (by decide)).trans hb12) ?_
              refine zp_load (pc := 210) hx hb (zd_X12_next (210, .aload_n 0, 1, 0, []) (List.mem_of_getElem? (i := 106) rfl)) rfl (j := 0) rfl ?_
              refine zp_getf (n := (t : Int)) (pc := 211) hx hb hE hw (zd_X12_next (211, .getfield 237, 3, 0, []) (List.mem_of_getElem? (i := 107) rfl)) (j := 33) rfl rfl rfl hp g15 ?_
              refine zp_iald (j := t) (v := (B t)) (pc := 214) hx hb hw (zd_X12_next (214, .iaload, 1, 0, []) (List.mem_of_getElem? (i := 108) rfl)) (show zp_ia 1 66 = some (400, 0, 0, 0, 255) from rfl) hq12 (by omega) (by omega) ((gb b12 (2000 + t) (zp_pne hq12 hp (by decide))).trans (hB t)) (fun hk44 => ?_)
              have hk44b := zp_int hk44
              refine zp_i2l (pc := 215) hx hb (zd_X12_next (215, .i2l, 1, 0, []) (List.mem_of_getElem? (i := 109) rfl)) ?_
              refine zDo_ladd (n := ((wv * 32) + (B t))) (pc := 216) hx hb (zd_X12_next (216, .ladd, 1, 0, []) (List.mem_of_getElem? (i := 110) rfl)) rfl (zp_r1 (by omega) (by omega)) ?_
              refine zp_ldc2 (pc := 217) hx hb hE (zd_X12_next (217, .ldc2_w 265, 3, 0, []) (List.mem_of_getElem? (i := 111) rfl)) (j := 91) rfl ?_
              refine zDo_lsub (n := (((wv * 32) + (B t)) - 96)) (pc := 220) hx hb (zd_X12_next (220, .lsub, 1, 0, []) (List.mem_of_getElem? (i := 112) rfl)) rfl (zp_r1 (by omega) (by omega)) ?_
              refine zp_goto (tgt := 227) (pc := 221) hx hb (zd_X12_next (221, .goto 6, 3, 0, []) (List.mem_of_getElem? (i := 113) rfl)) rfl ?_
              refine zp_putf (pc := 227) hx hb hE hw heff (zd_X12_next (227, .putfield 250, 3, 0, []) (List.mem_of_getElem? (i := 115) rfl)) (j := 35) rfl rfl rfl hp (zp_o1 (by first | assumption | exact zp_r1 (by omega) (by omega))) ?_
              refine zp_load (pc := 230) hx hb (zd_X12_next (230, .aload_n 0, 1, 0, []) (List.mem_of_getElem? (i := 116) rfl)) rfl (j := 0) rfl ?_
              refine zp_dup (pc := 231) hx hb (zd_X12_next (231, .dup, 1, 0, []) (List.mem_of_getElem? (i := 117) rfl)) (show (2 : Nat) ≠ 1 by decide) ?_
              refine zp_getf (n := (t : Int)) (pc := 232) hx hb hE hw (zd_X12_next (232, .getfield 237, 3, 0, []) (List.mem_of_getElem? (i := 118) rfl)) (j := 33) rfl rfl rfl hp ((zp_set_ne (Or.inr (by decide))).trans (g15)) ?_
              refine zp_const (pc := 235) hx hb (zd_X12_next (235, .iconst 1, 1, 0, []) (List.mem_of_getElem? (i := 119) rfl)) rfl rfl ?_
              refine zp_add (n := ((t : Int) + 1)) (pc := 236) hx hb (zd_X12_next (236, .iadd, 1, 0, []) (List.mem_of_getElem? (i := 120) rfl)) (by omega) (zp_r0 (by omega) (by omega)) ?_
              refine zp_putf (pc := 237) hx hb hE hw heff (zd_X12_next (237, .putfield 237, 3, 0, []) (List.mem_of_getElem? (i := 121) rfl)) (j := 33) rfl rfl rfl hp (zp_o0 (by omega) (by omega) (by omega) (by omega)) ?_
              refine zp_goto (tgt := 149) (pc := 240) hx hb (zd_X12_next (240, .goto (-91), 3, 0, []) (List.mem_of_getElem? (i := 122) rfl)) rfl ?_
              refine ih f (t + 1) (((wv * 32) + (B t)) - 96) (by omega) (by omega) (by omega) hfr hso (hto.trans (zy_r_go (by omega) (zDt_sm.mpr (by omega)))) hwo ?_ _ (fun k k1 k2 k3 k4 => (zp_set_ne (Or.inr k2)).trans ((zp_set_ne (Or.inr k4)).trans (gk k k1 k2 k3 k4))) (fun b j hbj => (zp_set_ne (Or.inl hbj)).trans ((zp_set_ne (Or.inl hbj)).trans (gb b j hbj))) ((zp_set_ne (Or.inr (by decide))).trans ((zp_set_ne (Or.inr (by decide))).trans (g14))) zp_set_self ((zp_set_ne (Or.inr (by decide))).trans ((zp_set_ne (Or.inr (by decide))).trans (g16))) ((zp_set_ne (Or.inr (by decide))).trans (zp_set_self))
              rw [show t + 1 - f = (t - f) + 1 by omega]
              show _ = if t - f < 10 then zy_ww B f (t - f) * 32 + B (f + (t - f)) - 96 else -1
              rw [← hwv, show f + (t - f) = t by omega]
              rw [if_pos (by omega)]
  have h46 : ∀ (f : Nat), f ≤ ln → zy_fr B ln q = f → ∀ (G : Nat → Nat → Int), (∀ k, k ≠ 14 → k ≠ 15 → k ≠ 16 → k ≠ 17 → G a k = zp_n u.2.1 a k) → (∀ b j, b ≠ a → G b j = zp_n u.2.1 b j) → G a 14 = (f : Int) → zp_J p l e R s m args below meth c Q w u [] 46 [(0, 2, (a : Int))] [] u.1 G := by
    intro f h1 hfr G gk gb g14
    have hBf := dB f
    refine zp_load (pc := 46) hx hb (zd_X12_next (46, .aload_n 0, 1, 0, []) (List.mem_of_getElem? (i := 23) rfl)) rfl (j := 0) rfl ?_
    refine zp_load (pc := 47) hx hb (zd_X12_next (47, .aload_n 0, 1, 0, []) (List.mem_of_getElem? (i := 24) rfl)) rfl (j := 0) rfl ?_
    refine zp_getf (n := (f : Int)) (pc := 48) hx hb hE hw (zd_X12_next (48, .getfield 247, 3, 0, []) (List.mem_of_getElem? (i := 25) rfl)) (j := 32) rfl rfl rfl hp g14 ?_
    refine zp_putf (pc := 51) hx hb hE hw heff (zd_X12_next (51, .putfield 237, 3, 0, []) (List.mem_of_getElem? (i := 26) rfl)) (j := 33) rfl rfl rfl hp (zp_o0 (by omega) (by omega) (by omega) (by omega)) ?_
    refine zp_load (pc := 54) hx hb (zd_X12_next (54, .aload_n 0, 1, 0, []) (List.mem_of_getElem? (i := 27) rfl)) rfl (j := 0) rfl ?_
    refine zp_const (pc := 55) hx hb (zd_X12_next (55, .lconst 0, 1, 0, []) (List.mem_of_getElem? (i := 28) rfl)) rfl rfl ?_
    refine zp_putf (pc := 56) hx hb hE hw heff (zd_X12_next (56, .putfield 250, 3, 0, []) (List.mem_of_getElem? (i := 29) rfl)) (j := 35) rfl rfl rfl hp (zp_o1 ⟨by decide, by decide⟩) ?_
    refine zp_load (pc := 59) hx hb (zd_X12_next (59, .aload_n 0, 1, 0, []) (List.mem_of_getElem? (i := 30) rfl)) rfl (j := 0) rfl ?_
    refine zp_load (pc := 60) hx hb (zd_X12_next (60, .aload_n 0, 1, 0, []) (List.mem_of_getElem? (i := 31) rfl)) rfl (j := 0) rfl ?_
    refine zp_getf (n := (f : Int)) (pc := 61) hx hb hE hw (zd_X12_next (61, .getfield 247, 3, 0, []) (List.mem_of_getElem? (i := 32) rfl)) (j := 32) rfl rfl rfl hp ((zp_set_ne (Or.inr (by decide))).trans ((zp_set_ne (Or.inr (by decide))).trans (g14))) ?_
    refine zp_load (pc := 64) hx hb (zd_X12_next (64, .aload_n 0, 1, 0, []) (List.mem_of_getElem? (i := 33) rfl)) rfl (j := 0) rfl ?_
    refine zp_getf (n := (ln : Int)) (pc := 65) hx hb hE hw (zd_X12_next (65, .getfield 228, 3, 0, []) (List.mem_of_getElem? (i := 34) rfl)) (j := 31) rfl rfl rfl hp ((zp_set_ne (Or.inr (by decide))).trans ((zp_set_ne (Or.inr (by decide))).trans (((gk 13 (by decide) (by decide) (by decide) (by decide)).trans d13)))) ?_
    refine zp_icmp (pc := 68) (tgt := 75) hx hb (zd_X12_next (68, .if_icmp .ne 7, 3, 0, []) (List.mem_of_getElem? (i := 35) rfl)) rfl (fun (hcq45 : ¬ (f : Int) = (ln : Int)) => ?_) (fun (hcq45 : ¬ (¬ (f : Int) = (ln : Int))) => ?_)
    · refine zp_load (pc := 75) hx hb (zd_X12_next (75, .aload_n 0, 1, 0, []) (List.mem_of_getElem? (i := 38) rfl)) rfl (j := 0) rfl ?_
      refine zp_getf (n := (b12 : Int)) (pc := 76) hx hb hE hw (zd_X12_next (76, .getfield 35, 3, 0, []) (List.mem_of_getElem? (i := 39) rfl)) (j := 30) rfl rfl rfl hp ((zp_set_ne (Or.inr (by decide))).trans ((zp_set_ne (Or.inr (by decide))).trans (((gk 12 (by decide) (by decide) (by decide) (by decide)).trans hb12)))) ?_
      refine zp_load (pc := 79) hx hb (zd_X12_next (79, .aload_n 0, 1, 0, []) (List.mem_of_getElem? (i := 40) rfl)) rfl (j := 0) rfl ?_
      refine zp_getf (n := (f : Int)) (pc := 80) hx hb hE hw (zd_X12_next (80, .getfield 247, 3, 0, []) (List.mem_of_getElem? (i := 41) rfl)) (j := 32) rfl rfl rfl hp ((zp_set_ne (Or.inr (by decide))).trans ((zp_set_ne (Or.inr (by decide))).trans (g14))) ?_
      refine zp_iald (j := f) (v := (B f)) (pc := 83) hx hb hw (zd_X12_next (83, .iaload, 1, 0, []) (List.mem_of_getElem? (i := 42) rfl)) (show zp_ia 1 66 = some (400, 0, 0, 0, 255) from rfl) hq12 (by omega) (by omega) ((zp_set_ne (Or.inl (zp_pne hq12 hp (by decide)))).trans ((zp_set_ne (Or.inl (zp_pne hq12 hp (by decide)))).trans (((gb b12 (2000 + f) (zp_pne hq12 hp (by decide))).trans (hB f))))) (fun hk46 => ?_)
      have hk46b := zp_int hk46
      refine zp_call (pc := 84) (how := 1) (idx := 254) (mi := 213) (S := [(2, (a : Int))]) hx hb hE hw heff hrm (zX_sm hW) rfl (j := 15) rfl rfl (by decide +kernel) (zd_X12_next (84, .invokestatic 254, 3, 0, []) (List.mem_of_getElem? (i := 43) rfl)) [(B f)] rfl ⟨zp_o0 (by omega) (by omega) (by omega) (by omega), trivial⟩ (Nat.le_of_ble_eq_true rfl) trivial (fun al hal rns Ps Gs hexts hfrs hoks hcss hpsis => ?_)
      obtain rfl := List.mem_singleton.mp hal
      have hrs := zp_int (hoks _ rfl).1
      obtain ⟨hPes, hGes, hts⟩ := hpsis
      rw [hPes, hGes]
      have hts : (97 ≤ (B f) ∧ (B f) ≤ 122) ↔ rns = 1 := hts
      refine zp_if (pc := 87) (tgt := 94) hx hb (zd_X12_next (87, .ifCond .eq 7, 3, 0, []) (List.mem_of_getElem? (i := 44) rfl)) rfl (fun (hcq47 : rns = 0) => ?_) (fun (hcq47 : ¬ (rns = 0)) => ?_)
      · refine zp_load (pc := 94) hx hb (zd_X12_next (94, .aload_n 0, 1, 0, []) (List.mem_of_getElem? (i := 47) rfl)) rfl (j := 0) rfl ?_
        refine zp_getf (n := (b12 : Int)) (pc := 95) hx hb hE hw (zd_X12_next (95, .getfield 35, 3, 0, []) (List.mem_of_getElem? (i := 48) rfl)) (j := 30) rfl rfl rfl hp ((zp_set_ne (Or.inr (by decide))).trans ((zp_set_ne (Or.inr (by decide))).trans (((gk 12 (by decide) (by decide) (by decide) (by decide)).trans hb12)))) ?_
        refine zp_load (pc := 98) hx hb (zd_X12_next (98, .aload_n 0, 1, 0, []) (List.mem_of_getElem? (i := 49) rfl)) rfl (j := 0) rfl ?_
        refine zp_getf (n := (f : Int)) (pc := 99) hx hb hE hw (zd_X12_next (99, .getfield 247, 3, 0, []) (List.mem_of_getElem? (i := 50) rfl)) (j := 32) rfl rfl rfl hp ((zp_set_ne (Or.inr (by decide))).trans ((zp_set_ne (Or.inr (by decide))).trans (g14))) ?_
        refine zp_iald (j := f) (v := (B f)) (pc := 102) hx hb hw (zd_X12_next (102, .iaload, 1, 0, []) (List.mem_of_getElem? (i := 51) rfl)) (show zp_ia 1 66 = some (400, 0, 0, 0, 255) from rfl) hq12 (by omega) (by omega) ((zp_set_ne (Or.inl (zp_pne hq12 hp (by decide)))).trans ((zp_set_ne (Or.inl (zp_pne hq12 hp (by decide)))).trans (((gb b12 (2000 + f) (zp_pne hq12 hp (by decide))).trans (hB f))))) (fun hk48 => ?_)
        have hk48b := zp_int hk48
        refine zp_call (pc := 103) (how := 1) (idx := 257) (mi := 214) (S := [(2, (a : Int))]) hx hb hE hw heff hrm (zX_dg hW) rfl (j := 16) rfl rfl (by decide +kernel) (zd_X12_next (103, .invokestatic 257, 3, 0, []) (List.mem_of_getElem? (i := 52) rfl)) [(B f)] rfl ⟨zp_o0 (by omega) (by omega) (by omega) (by omega), trivial⟩ (Nat.le_of_ble_eq_true rfl) trivial (fun al hal rnd Pd Gd hextd hfrd hokd hcsd hpsid => ?_)
        obtain rfl := List.mem_singleton.mp hal
        have hrd := zp_int (hokd _ rfl).1
        obtain ⟨hPed, hGed, htd⟩ := hpsid
        rw [hPed, hGed]
        have htd : (48 ≤ (B f) ∧ (B f) ≤ 57) ↔ rnd = 1 := htd
        refine zp_if (pc := 106) (tgt := 113) hx hb (zd_X12_next (106, .ifCond .eq 7, 3, 0, []) (List.mem_of_getElem? (i := 53) rfl)) rfl (fun (hcq49 : rnd = 0) => ?_) (fun (hcq49 : ¬ (rnd = 0)) => ?_)
        · refine zp_const (pc := 113) hx hb (zd_X12_next (113, .iconst 3, 1, 0, []) (List.mem_of_getElem? (i := 56) rfl)) rfl rfl ?_
          refine zp_putf (pc := 114) hx hb hE hw heff (zd_X12_next (114, .putfield 260, 3, 0, []) (List.mem_of_getElem? (i := 57) rfl)) (j := 34) rfl rfl rfl hp (zp_o0 (by decide) (by decide) (by decide) (by decide)) ?_
          refine zp_load (pc := 117) hx hb (zd_X12_next (117, .aload_n 0, 1, 0, []) (List.mem_of_getElem? (i := 58) rfl)) rfl (j := 0) rfl ?_
          refine zp_getf (n := 3) (pc := 118) hx hb hE hw (zd_X12_next (118, .getfield 260, 3, 0, []) (List.mem_of_getElem? (i := 59) rfl)) (j := 34) rfl rfl rfl hp zp_set_self ?_
          refine zp_const (pc := 121) hx hb (zd_X12_next (121, .iconst 3, 1, 0, []) (List.mem_of_getElem? (i := 60) rfl)) rfl rfl ?_
          refine zp_icmp (pc := 122) (tgt := 149) hx hb (zd_X12_next (122, .if_icmp .ne 27, 3, 0, []) (List.mem_of_getElem? (i := 61) rfl)) rfl (fun (hcq50 : ¬ 3 = 3) => ?_) (fun (hcq50 : ¬ (¬ 3 = 3)) => ?_)
          · exfalso
            omega
          · refine zp_load (pc := 125) hx hb (zd_X12_next (125, .aload_n 0, 1, 0, []) (List.mem_of_getElem? (i := 62) rfl)) rfl (j := 0) rfl ?_
            refine zp_load (pc := 126) hx hb (zd_X12_next (126, .aload_n 0, 1, 0, []) (List.mem_of_getElem? (i := 63) rfl)) rfl (j := 0) rfl ?_
            refine zp_getf (n := (b12 : Int)) (pc := 127) hx hb hE hw (zd_X12_next (127, .getfield 35, 3, 0, []) (List.mem_of_getElem? (i := 64) rfl)) (j := 30) rfl rfl rfl hp ((zp_set_ne (Or.inr (by decide))).trans ((zp_set_ne (Or.inr (by decide))).trans ((zp_set_ne (Or.inr (by decide))).trans (((gk 12 (by decide) (by decide) (by decide) (by decide)).trans hb12))))) ?_
            refine zp_load (pc := 130) hx hb (zd_X12_next (130, .aload_n 0, 1, 0, []) (List.mem_of_getElem? (i := 65) rfl)) rfl (j := 0) rfl ?_
            refine zp_getf (n := (f : Int)) (pc := 131) hx hb hE hw (zd_X12_next (131, .getfield 247, 3, 0, []) (List.mem_of_getElem? (i := 66) rfl)) (j := 32) rfl rfl rfl hp ((zp_set_ne (Or.inr (by decide))).trans ((zp_set_ne (Or.inr (by decide))).trans ((zp_set_ne (Or.inr (by decide))).trans (g14)))) ?_
            refine zp_iald (j := f) (v := (B f)) (pc := 134) hx hb hw (zd_X12_next (134, .iaload, 1, 0, []) (List.mem_of_getElem? (i := 67) rfl)) (show zp_ia 1 66 = some (400, 0, 0, 0, 255) from rfl) hq12 (by omega) (by omega) ((zp_set_ne (Or.inl (zp_pne hq12 hp (by decide)))).trans ((zp_set_ne (Or.inl (zp_pne hq12 hp (by decide)))).trans ((zp_set_ne (Or.inl (zp_pne hq12 hp (by decide)))).trans (((gb b12 (2000 + f) (zp_pne hq12 hp (by decide))).trans (hB f)))))) (fun hk51 => ?_)
            have hk51b := zp_int hk51
            refine zp_i2l (pc := 135) hx hb (zd_X12_next (135, .i2l, 1, 0, []) (List.mem_of_getElem? (i := 68) rfl)) ?_
            refine zp_putf (pc := 136) hx hb hE hw heff (zd_X12_next (136, .putfield 250, 3, 0, []) (List.mem_of_getElem? (i := 69) rfl)) (j := 35) rfl rfl rfl hp (zp_o1 (by first | assumption | exact zp_r1 (by omega) (by omega))) ?_
            refine zp_load (pc := 139) hx hb (zd_X12_next (139, .aload_n 0, 1, 0, []) (List.mem_of_getElem? (i := 70) rfl)) rfl (j := 0) rfl ?_
            refine zp_dup (pc := 140) hx hb (zd_X12_next (140, .dup, 1, 0, []) (List.mem_of_getElem? (i := 71) rfl)) (show (2 : Nat) ≠ 1 by decide) ?_
            refine zp_getf (n := (f : Int)) (pc := 141) hx hb hE hw (zd_X12_next (141, .getfield 237, 3, 0, []) (List.mem_of_getElem? (i := 72) rfl)) (j := 33) rfl rfl rfl hp ((zp_set_ne (Or.inr (by decide))).trans ((zp_set_ne (Or.inr (by decide))).trans ((zp_set_ne (Or.inr (by decide))).trans (zp_set_self)))) ?_
            refine zp_const (pc := 144) hx hb (zd_X12_next (144, .iconst 1, 1, 0, []) (List.mem_of_getElem? (i := 73) rfl)) rfl rfl ?_
            refine zp_add (n := ((f : Int) + 1)) (pc := 145) hx hb (zd_X12_next (145, .iadd, 1, 0, []) (List.mem_of_getElem? (i := 74) rfl)) (by omega) (zp_r0 (by omega) (by omega)) ?_
            refine zp_putf (pc := 146) hx hb hE hw heff (zd_X12_next (146, .putfield 237, 3, 0, []) (List.mem_of_getElem? (i := 75) rfl)) (j := 33) rfl rfl rfl hp (zp_o0 (by omega) (by omega) (by omega) (by omega)) ?_
            refine zp_load (pc := 149) hx hb (zd_X12_next (149, .aload_n 0, 1, 0, []) (List.mem_of_getElem? (i := 76) rfl)) rfl (j := 0) rfl ?_
            refine zp_getf (n := 3) (pc := 150) hx hb hE hw (zd_X12_next (150, .getfield 260, 3, 0, []) (List.mem_of_getElem? (i := 77) rfl)) (j := 34) rfl rfl rfl hp ((zp_set_ne (Or.inr (by decide))).trans ((zp_set_ne (Or.inr (by decide))).trans (zp_set_self))) ?_
            refine zp_const (pc := 153) hx hb (zd_X12_next (153, .iconst 1, 1, 0, []) (List.mem_of_getElem? (i := 78) rfl)) rfl rfl ?_
            refine zp_icmp (pc := 154) (tgt := 243) hx hb (zd_X12_next (154, .if_icmp .ne 89, 3, 0, []) (List.mem_of_getElem? (i := 79) rfl)) rfl (fun (hcq52 : ¬ 3 = 1) => ?_) (fun (hcq52 : ¬ (¬ 3 = 1)) => ?_)
            · refine zp_load (pc := 243) hx hb (zd_X12_next (243, .aload_n 0, 1, 0, []) (List.mem_of_getElem? (i := 123) rfl)) rfl (j := 0) rfl ?_
              refine zp_getf (n := 3) (pc := 244) hx hb hE hw (zd_X12_next (244, .getfield 260, 3, 0, []) (List.mem_of_getElem? (i := 124) rfl)) (j := 34) rfl rfl rfl hp ((zp_set_ne (Or.inr (by decide))).trans ((zp_set_ne (Or.inr (by decide))).trans (zp_set_self))) ?_
              refine zp_const (pc := 247) hx hb (zd_X12_next (247, .iconst 2, 1, 0, []) (List.mem_of_getElem? (i := 125) rfl)) rfl rfl ?_
              refine zp_icmp (pc := 248) (tgt := 335) hx hb (zd_X12_next (248, .if_icmp .ne 87, 3, 0, []) (List.mem_of_getElem? (i := 126) rfl)) rfl (fun (hcq53 : ¬ 3 = 2) => ?_) (fun (hcq53 : ¬ (¬ 3 = 2)) => ?_)
              · have hz := zDt_3 (B := B) (ln := ln) (p := q) (by omega) (by rw [hfr]; omega) (by rw [hfr]; omega)
                refine zp_vret (pc := 335) hx hb hE hQ hU5 rfl (by decide) (zd_X12_next (335, .return_, 1, 0, []) (List.mem_of_getElem? (i := 169) rfl)) (j := 0) rfl ?_
                rw [hps]
                refine hψ _ (fun k k1 k2 k3 k4 => (zp_set_ne (Or.inr k2)).trans ((zp_set_ne (Or.inr k4)).trans ((zp_set_ne (Or.inr k3)).trans ((zp_set_ne (Or.inr k4)).trans ((zp_set_ne (Or.inr k2)).trans (gk k k1 k2 k3 k4)))))) (fun b j hbj => (zp_set_ne (Or.inl hbj)).trans ((zp_set_ne (Or.inl hbj)).trans ((zp_set_ne (Or.inl hbj)).trans ((zp_set_ne (Or.inl hbj)).trans ((zp_set_ne (Or.inl hbj)).trans (gb b j hbj)))))) (((zp_set_ne (Or.inr (by decide))).trans ((zp_set_ne (Or.inr (by decide))).trans ((zp_set_ne (Or.inr (by decide))).trans ((zp_set_ne (Or.inr (by decide))).trans ((zp_set_ne (Or.inr (by decide))).trans (g14)))))).trans (by rw [hfr])) (zp_set_self.trans (by rw [hz.2.1, hfr]; rfl)) (((zp_set_ne (Or.inr (by decide))).trans ((zp_set_ne (Or.inr (by decide))).trans (zp_set_self))).trans (by rw [hz.1]; rfl)) (((zp_set_ne (Or.inr (by decide))).trans (zp_set_self)).trans (by rw [hz.2.2, hfr]))
              · exfalso
                omega
            · exfalso
              omega
        · refine zp_const (pc := 109) hx hb (zd_X12_next (109, .iconst 2, 1, 0, []) (List.mem_of_getElem? (i := 54) rfl)) rfl rfl ?_
          refine zp_goto (tgt := 114) (pc := 110) hx hb (zd_X12_next (110, .goto 4, 3, 0, []) (List.mem_of_getElem? (i := 55) rfl)) rfl ?_
          refine zp_putf (pc := 114) hx hb hE hw heff (zd_X12_next (114, .putfield 260, 3, 0, []) (List.mem_of_getElem? (i := 57) rfl)) (j := 34) rfl rfl rfl hp (zp_o0 (by decide) (by decide) (by decide) (by decide)) ?_
          refine zp_load (pc := 117) hx hb (zd_X12_next (117, .aload_n 0, 1, 0, []) (List.mem_of_getElem? (i := 58) rfl)) rfl (j := 0) rfl ?_
          refine zp_getf (n := 2) (pc := 118) hx hb hE hw (zd_X12_next (118, .getfield 260, 3, 0, []) (List.mem_of_getElem? (i := 59) rfl)) (j := 34) rfl rfl rfl hp zp_set_self ?_
          refine zp_const (pc := 121) hx hb (zd_X12_next (121, .iconst 3, 1, 0, []) (List.mem_of_getElem? (i := 60) rfl)) rfl rfl ?_
          refine zp_icmp (pc := 122) (tgt := 149) hx hb (zd_X12_next (122, .if_icmp .ne 27, 3, 0, []) (List.mem_of_getElem? (i := 61) rfl)) rfl (fun (hcq54 : ¬ 2 = 3) => ?_) (fun (hcq54 : ¬ (¬ 2 = 3)) => ?_)
          · refine zp_load (pc := 149) hx hb (zd_X12_next (149, .aload_n 0, 1, 0, []) (List.mem_of_getElem? (i := 76) rfl)) rfl (j := 0) rfl ?_
            refine zp_getf (n := 2) (pc := 150) hx hb hE hw (zd_X12_next (150, .getfield 260, 3, 0, []) (List.mem_of_getElem? (i := 77) rfl)) (j := 34) rfl rfl rfl hp zp_set_self ?_
            refine zp_const (pc := 153) hx hb (zd_X12_next (153, .iconst 1, 1, 0, []) (List.mem_of_getElem? (i := 78) rfl)) rfl rfl ?_
            refine zp_icmp (pc := 154) (tgt := 243) hx hb (zd_X12_next (154, .if_icmp .ne 89, 3, 0, []) (List.mem_of_getElem? (i := 79) rfl)) rfl (fun (hcq55 : ¬ 2 = 1) => ?_) (fun (hcq55 : ¬ (¬ 2 = 1)) => ?_)
            · have hz := zDt_2 (B := B) (ln := ln) (p := q) (by omega) (by rw [hfr]; omega)
              rw [hfr] at hz
              exact loop3 (ln + 1) f f 0 (by omega) (Nat.le_refl _) h1 hfr hz.1 hz.2.1 hz.2.2 (by rw [Nat.sub_self]; rfl) (by decide) (by decide) _ (fun k k1 k2 k3 k4 => (zp_set_ne (Or.inr k3)).trans ((zp_set_ne (Or.inr k4)).trans ((zp_set_ne (Or.inr k2)).trans (gk k k1 k2 k3 k4)))) (fun b j hbj => (zp_set_ne (Or.inl hbj)).trans ((zp_set_ne (Or.inl hbj)).trans ((zp_set_ne (Or.inl hbj)).trans (gb b j hbj)))) ((zp_set_ne (Or.inr (by decide))).trans ((zp_set_ne (Or.inr (by decide))).trans ((zp_set_ne (Or.inr (by decide))).trans (g14)))) ((zp_set_ne (Or.inr (by decide))).trans ((zp_set_ne (Or.inr (by decide))).trans (zp_set_self))) zp_set_self ((zp_set_ne (Or.inr (by decide))).trans (zp_set_self))
            · exfalso
              omega
          · exfalso
            omega
      · refine zp_const (pc := 90) hx hb (zd_X12_next (90, .iconst 1, 1, 0, []) (List.mem_of_getElem? (i := 45) rfl)) rfl rfl ?_
        refine zp_goto (tgt := 114) (pc := 91) hx hb (zd_X12_next (91, .goto 23, 3, 0, []) (List.mem_of_getElem? (i := 46) rfl)) rfl ?_
        refine zp_putf (pc := 114) hx hb hE hw heff (zd_X12_next (114, .putfield 260, 3, 0, []) (List.mem_of_getElem? (i := 57) rfl)) (j := 34) rfl rfl rfl hp (zp_o0 (by decide) (by decide) (by decide) (by decide)) ?_
        refine zp_load (pc := 117) hx hb (zd_X12_next (117, .aload_n 0, 1, 0, []) (List.mem_of_getElem? (i := 58) rfl)) rfl (j := 0) rfl ?_
        refine zp_getf (n := 1) (pc := 118) hx hb hE hw (zd_X12_next (118, .getfield 260, 3, 0, []) (List.mem_of_getElem? (i := 59) rfl)) (j := 34) rfl rfl rfl hp zp_set_self ?_
        refine zp_const (pc := 121) hx hb (zd_X12_next (121, .iconst 3, 1, 0, []) (List.mem_of_getElem? (i := 60) rfl)) rfl rfl ?_
        refine zp_icmp (pc := 122) (tgt := 149) hx hb (zd_X12_next (122, .if_icmp .ne 27, 3, 0, []) (List.mem_of_getElem? (i := 61) rfl)) rfl (fun (hcq56 : ¬ 1 = 3) => ?_) (fun (hcq56 : ¬ (¬ 1 = 3)) => ?_)
        · have hz := zDt_1 (B := B) (ln := ln) (p := q) (by omega) (by rw [hfr]; omega)
          rw [hfr] at hz
          exact loop2 (ln + 1) f f 0 (by omega) (Nat.le_refl _) h1 hfr hz.1 hz.2.1 hz.2.2 (by rw [Nat.sub_self]; rfl) _ (fun k k1 k2 k3 k4 => (zp_set_ne (Or.inr k3)).trans ((zp_set_ne (Or.inr k4)).trans ((zp_set_ne (Or.inr k2)).trans (gk k k1 k2 k3 k4)))) (fun b j hbj => (zp_set_ne (Or.inl hbj)).trans ((zp_set_ne (Or.inl hbj)).trans ((zp_set_ne (Or.inl hbj)).trans (gb b j hbj)))) ((zp_set_ne (Or.inr (by decide))).trans ((zp_set_ne (Or.inr (by decide))).trans ((zp_set_ne (Or.inr (by decide))).trans (g14)))) ((zp_set_ne (Or.inr (by decide))).trans ((zp_set_ne (Or.inr (by decide))).trans (zp_set_self))) zp_set_self ((zp_set_ne (Or.inr (by decide))).trans (zp_set_self))
        · exfalso
          omega
    · refine zp_const (pc := 71) hx hb (zd_X12_next (71, .iconst 0, 1, 0, []) (List.mem_of_getElem? (i := 36) rfl)) rfl rfl ?_
      refine zp_goto (tgt := 114) (pc := 72) hx hb (zd_X12_next (72, .goto 42, 3, 0, []) (List.mem_of_getElem? (i := 37) rfl)) rfl ?_
      refine zp_putf (pc := 114) hx hb hE hw heff (zd_X12_next (114, .putfield 260, 3, 0, []) (List.mem_of_getElem? (i := 57) rfl)) (j := 34) rfl rfl rfl hp (zp_o0 (by decide) (by decide) (by decide) (by decide)) ?_
      refine zp_load (pc := 117) hx hb (zd_X12_next (117, .aload_n 0, 1, 0, []) (List.mem_of_getElem? (i := 58) rfl)) rfl (j := 0) rfl ?_
      refine zp_getf (n := 0) (pc := 118) hx hb hE hw (zd_X12_next (118, .getfield 260, 3, 0, []) (List.mem_of_getElem? (i := 59) rfl)) (j := 34) rfl rfl rfl hp zp_set_self ?_
      refine zp_const (pc := 121) hx hb (zd_X12_next (121, .iconst 3, 1, 0, []) (List.mem_of_getElem? (i := 60) rfl)) rfl rfl ?_
      refine zp_icmp (pc := 122) (tgt := 149) hx hb (zd_X12_next (122, .if_icmp .ne 27, 3, 0, []) (List.mem_of_getElem? (i := 61) rfl)) rfl (fun (hcq57 : ¬ 0 = 3) => ?_) (fun (hcq57 : ¬ (¬ 0 = 3)) => ?_)
      · refine zp_load (pc := 149) hx hb (zd_X12_next (149, .aload_n 0, 1, 0, []) (List.mem_of_getElem? (i := 76) rfl)) rfl (j := 0) rfl ?_
        refine zp_getf (n := 0) (pc := 150) hx hb hE hw (zd_X12_next (150, .getfield 260, 3, 0, []) (List.mem_of_getElem? (i := 77) rfl)) (j := 34) rfl rfl rfl hp zp_set_self ?_
        refine zp_const (pc := 153) hx hb (zd_X12_next (153, .iconst 1, 1, 0, []) (List.mem_of_getElem? (i := 78) rfl)) rfl rfl ?_
        refine zp_icmp (pc := 154) (tgt := 243) hx hb (zd_X12_next (154, .if_icmp .ne 89, 3, 0, []) (List.mem_of_getElem? (i := 79) rfl)) rfl (fun (hcq58 : ¬ 0 = 1) => ?_) (fun (hcq58 : ¬ (¬ 0 = 1)) => ?_)
        · refine zp_load (pc := 243) hx hb (zd_X12_next (243, .aload_n 0, 1, 0, []) (List.mem_of_getElem? (i := 123) rfl)) rfl (j := 0) rfl ?_
          refine zp_getf (n := 0) (pc := 244) hx hb hE hw (zd_X12_next (244, .getfield 260, 3, 0, []) (List.mem_of_getElem? (i := 124) rfl)) (j := 34) rfl rfl rfl hp zp_set_self ?_
          refine zp_const (pc := 247) hx hb (zd_X12_next (247, .iconst 2, 1, 0, []) (List.mem_of_getElem? (i := 125) rfl)) rfl rfl ?_
          refine zp_icmp (pc := 248) (tgt := 335) hx hb (zd_X12_next (248, .if_icmp .ne 87, 3, 0, []) (List.mem_of_getElem? (i := 126) rfl)) rfl (fun (hcq59 : ¬ 0 = 2) => ?_) (fun (hcq59 : ¬ (¬ 0 = 2)) => ?_)
          · have hz := zDt_0 (B := B) (ln := ln) (p := q) (by omega)
            refine zp_vret (pc := 335) hx hb hE hQ hU5 rfl (by decide) (zd_X12_next (335, .return_, 1, 0, []) (List.mem_of_getElem? (i := 169) rfl)) (j := 0) rfl ?_
            rw [hps]
            refine hψ _ (fun k k1 k2 k3 k4 => (zp_set_ne (Or.inr k3)).trans ((zp_set_ne (Or.inr k4)).trans ((zp_set_ne (Or.inr k2)).trans (gk k k1 k2 k3 k4)))) (fun b j hbj => (zp_set_ne (Or.inl hbj)).trans ((zp_set_ne (Or.inl hbj)).trans ((zp_set_ne (Or.inl hbj)).trans (gb b j hbj)))) (((zp_set_ne (Or.inr (by decide))).trans ((zp_set_ne (Or.inr (by decide))).trans ((zp_set_ne (Or.inr (by decide))).trans (g14)))).trans (by rw [hfr])) (((zp_set_ne (Or.inr (by decide))).trans ((zp_set_ne (Or.inr (by decide))).trans (zp_set_self))).trans (by rw [hz.2.1, hfr])) (zp_set_self.trans (by rw [hz.1]; rfl)) (((zp_set_ne (Or.inr (by decide))).trans (zp_set_self)).trans hz.2.2.symm)
          · exfalso
            omega
        · exfalso
          omega
      · exfalso
        omega
  have loop1 : ∀ (n f : Nat), ln - f < n → f ≤ ln → zy_fr B ln q = zy_r zy_bl B ln f → ∀ (G : Nat → Nat → Int), (∀ k, k ≠ 14 → k ≠ 15 → k ≠ 16 → k ≠ 17 → G a k = zp_n u.2.1 a k) → (∀ b j, b ≠ a → G b j = zp_n u.2.1 b j) → G a 14 = (f : Int) → zp_J p l e R s m args below meth c Q w u [] 8 [(0, 2, (a : Int))] [] u.1 G := by
    clear hψ loop3 loop2
    intro n
    induction n with
    | zero => intro f h; exact absurd h (Nat.not_lt_zero _)
    | succ n ih =>
      intro f hn h1 hfr G gk gb g14
      have hBf := dB f
      refine zp_load (pc := 8) hx hb (zd_X12_next (8, .aload_n 0, 1, 0, []) (List.mem_of_getElem? (i := 4) rfl)) rfl (j := 0) rfl ?_
      refine zp_getf (n := (f : Int)) (pc := 9) hx hb hE hw (zd_X12_next (9, .getfield 247, 3, 0, []) (List.mem_of_getElem? (i := 5) rfl)) (j := 32) rfl rfl rfl hp g14 ?_
      refine zp_load (pc := 12) hx hb (zd_X12_next (12, .aload_n 0, 1, 0, []) (List.mem_of_getElem? (i := 6) rfl)) rfl (j := 0) rfl ?_
      refine zp_getf (n := (ln : Int)) (pc := 13) hx hb hE hw (zd_X12_next (13, .getfield 228, 3, 0, []) (List.mem_of_getElem? (i := 7) rfl)) (j := 31) rfl rfl rfl hp ((gk 13 (by decide) (by decide) (by decide) (by decide)).trans d13) ?_
      refine zp_icmp (pc := 16) (tgt := 46) hx hb (zd_X12_next (16, .if_icmp .ge 30, 3, 0, []) (List.mem_of_getElem? (i := 8) rfl)) rfl (fun (hcq60 : (ln : Int) ≤ (f : Int)) => ?_) (fun (hcq60 : ¬ ((ln : Int) ≤ (f : Int))) => ?_)
      · refine h46 f h1 (hfr.trans (zy_r_no (fun z => ?_))) G gk gb g14
        have z2 := zDt_bl.mp z.2
        have z1 := z.1
        omega
      · refine zp_load (pc := 19) hx hb (zd_X12_next (19, .aload_n 0, 1, 0, []) (List.mem_of_getElem? (i := 9) rfl)) rfl (j := 0) rfl ?_
        refine zp_getf (n := (b12 : Int)) (pc := 20) hx hb hE hw (zd_X12_next (20, .getfield 35, 3, 0, []) (List.mem_of_getElem? (i := 10) rfl)) (j := 30) rfl rfl rfl hp ((gk 12 (by decide) (by decide) (by decide) (by decide)).trans hb12) ?_
        refine zp_load (pc := 23) hx hb (zd_X12_next (23, .aload_n 0, 1, 0, []) (List.mem_of_getElem? (i := 11) rfl)) rfl (j := 0) rfl ?_
        refine zp_getf (n := (f : Int)) (pc := 24) hx hb hE hw (zd_X12_next (24, .getfield 247, 3, 0, []) (List.mem_of_getElem? (i := 12) rfl)) (j := 32) rfl rfl rfl hp g14 ?_
        refine zp_iald (j := f) (v := (B f)) (pc := 27) hx hb hw (zd_X12_next (27, .iaload, 1, 0, []) (List.mem_of_getElem? (i := 13) rfl)) (show zp_ia 1 66 = some (400, 0, 0, 0, 255) from rfl) hq12 (by omega) (by omega) ((gb b12 (2000 + f) (zp_pne hq12 hp (by decide))).trans (hB f)) (fun hk61 => ?_)
        have hk61b := zp_int hk61
        refine zp_const (pc := 28) hx hb (zd_X12_next (28, .bipush 32, 2, 0, []) (List.mem_of_getElem? (i := 14) rfl)) rfl rfl ?_
        refine zp_icmp (pc := 30) (tgt := 46) hx hb (zd_X12_next (30, .if_icmp .ne 16, 3, 0, []) (List.mem_of_getElem? (i := 15) rfl)) rfl (fun (hcq62 : ¬ (B f) = 32) => ?_) (fun (hcq62 : ¬ (¬ (B f) = 32)) => ?_)
        · refine h46 f h1 (hfr.trans (zy_r_no (fun z => ?_))) G gk gb g14
          have z2 := zDt_bl.mp z.2
          have z1 := z.1
          omega
        · refine zp_load (pc := 33) hx hb (zd_X12_next (33, .aload_n 0, 1, 0, []) (List.mem_of_getElem? (i := 16) rfl)) rfl (j := 0) rfl ?_
          refine zp_dup (pc := 34) hx hb (zd_X12_next (34, .dup, 1, 0, []) (List.mem_of_getElem? (i := 17) rfl)) (show (2 : Nat) ≠ 1 by decide) ?_
          refine zp_getf (n := (f : Int)) (pc := 35) hx hb hE hw (zd_X12_next (35, .getfield 247, 3, 0, []) (List.mem_of_getElem? (i := 18) rfl)) (j := 32) rfl rfl rfl hp g14 ?_
          refine zp_const (pc := 38) hx hb (zd_X12_next (38, .iconst 1, 1, 0, []) (List.mem_of_getElem? (i := 19) rfl)) rfl rfl ?_
          refine zp_add (n := ((f : Int) + 1)) (pc := 39) hx hb (zd_X12_next (39, .iadd, 1, 0, []) (List.mem_of_getElem? (i := 20) rfl)) (by omega) (zp_r0 (by omega) (by omega)) ?_
          refine zp_putf (pc := 40) hx hb hE hw heff (zd_X12_next (40, .putfield 247, 3, 0, []) (List.mem_of_getElem? (i := 21) rfl)) (j := 32) rfl rfl rfl hp (zp_o0 (by omega) (by omega) (by omega) (by omega)) ?_
          refine zp_goto (tgt := 8) (pc := 43) hx hb (zd_X12_next (43, .goto (-35), 3, 0, []) (List.mem_of_getElem? (i := 22) rfl)) rfl ?_
          exact ih (f + 1) (by omega) (by omega) (hfr.trans (zy_r_go (by omega) (zDt_bl.mpr (by omega)))) _ (fun k k1 k2 k3 k4 => (zp_set_ne (Or.inr k1)).trans (gk k k1 k2 k3 k4)) (fun b j hbj => (zp_set_ne (Or.inl hbj)).trans (gb b j hbj)) zp_set_self
  refine zp_load (pc := 0) hx hb (zd_X12_next (0, .aload_n 0, 1, 0, []) (List.mem_of_getElem? (i := 0) rfl)) rfl (j := 0) rfl ?_
  refine zp_load (pc := 1) hx hb (zd_X12_next (1, .aload_n 0, 1, 0, []) (List.mem_of_getElem? (i := 1) rfl)) rfl (j := 0) rfl ?_
  refine zp_getf (n := (q : Int)) (pc := 2) hx hb hE hw (zd_X12_next (2, .getfield 237, 3, 0, []) (List.mem_of_getElem? (i := 2) rfl)) (j := 33) rfl rfl rfl hp d15 ?_
  refine zp_putf (pc := 5) hx hb hE hw heff (zd_X12_next (5, .putfield 247, 3, 0, []) (List.mem_of_getElem? (i := 3) rfl)) (j := 32) rfl rfl rfl hp (zp_o0 (by omega) (by omega) (by omega) (by omega)) ?_
  exact loop1 (ln + 1) q (by omega) hql rfl _ (fun k k1 k2 k3 k4 => zp_set_ne (Or.inr k1)) (fun b j hbj => zp_set_ne (Or.inl hbj)) zp_set_self
