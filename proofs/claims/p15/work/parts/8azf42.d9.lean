/-! part d9: the class: orders: what is read, exactly -/
def zψ_ru : (Nat → Option Nat) → (Nat → Nat → Int) → List Int → (Nat → Option Nat) → (Nat → Nat → Int) → Int → Prop := fun _ _ _ _ _ _ => True
/-- a clause of orders, done: one answer -/
theorem zX_icr {l : Launch} {w : zk_W} (hW : zh_W w) : zk_metX l w zt_dv zt_TB (zp_one zK_209 (some (0, 0, 0, 1), [])) (zp_A zp_tA) (zp_B zψ_ru) ∧ zk_cok w zt_TB (zp_one zK_209 (some (0, 0, 0, 1), [])) := by
  refine zp_merge (zp_plain (zq_209 hW)) (by decide) (fun al h => ?_) (fun al h P G ps P' G' rn hps h1 h2 _ => trivial)
  rcases List.mem_cons.mp h with rfl | h
  · exact ⟨_, rfl, rfl, fun P rn hk => by have := zp_int hk; exact zp_o0 (by omega) (by omega) (by omega) (by omega)⟩
  · obtain rfl := List.mem_singleton.mp h
    exact ⟨_, rfl, rfl, fun P rn hk => by have := zp_int hk; exact zp_o0 (by omega) (by omega) (by omega) (by omega)⟩
def zK_cor : zk_K := (zt_mn 79, prog_1_method_15_code, 3, (Option.some Jvm.ClassFile.FieldType.int), 1, 11, [(2, 12, 0, 0)], [(some (0, 0, (-2147483648), 2147483647), [])], [(5, 4, 0), (7, 3, 0), (7, 5, 0), (7, 2, 0), (7, 4, 0), (35, 1001, 0), (8, 7, 0), (30, 1001, 0), (31, 1001, 0), (32, 1001, 0), (33, 1001, 0), (34, 1001, 0), (8, 6, 0), (5, 2, 0), (5, 3, 0), (7, 1, 0), (12, 15, 0), (12, 18, 0), (57, 1002, 0), (17, 1001, 0), (18, 1001, 0), (19, 1001, 0), (2, 3, 0), (2, 4, 0), (2, 5, 0), (2, 6, 0), (53, 1001, 0), (54, 1001, 0), (11, 2, 0), (11, 3, 0), (56, 1002, 0), (28, 1002, 0), (53, 1002, 0), (6, 2, 0), (27, 1002, 0), (12, 13, 0), (18, 1002, 0), (0, 1, 0), (0, 2, 0), (14, 1002, 0), (15, 1001, 0), (16, 1002, 0), (17, 1002, 0), (12, 14, 0)], (51, 1170, 0, 0))
def zφ_cor (B : Nat → Int) (ln : Nat) : (Nat → Option Nat) → (Nat → Nat → Int) → List Int → Prop := fun _ G ps => G (G (zp_0 ps) 9).toNat 0 = G (zp_0 ps) 8 ∧ G (G (zp_0 ps) 8).toNat 1 = (ln : Int) ∧ (∀ j, zv G (G (zp_0 ps) 8).toNat 0 j = B j) ∧ ∀ j, j < ln → 0 ≤ B j ∧ B j ≤ 255
def zψ_cor (B : Nat → Int) (ln : Nat) : (Nat → Option Nat) → (Nat → Nat → Int) → List Int → (Nat → Option Nat) → (Nat → Nat → Int) → Int → Prop := fun P G ps P' G' rn => G' (G (zp_0 ps) 8).toNat 1 = 0 ∧ ∃ s, yT (zy_so B ln) (zy_wo B ln) (zy_to B ln) (yt_co (zy_so B ln) (zy_wo B ln) (zy_to B ln) (ylf true B ln)) 12 0 0 s ∧ ((∃ q, s = Sum.inl q ∧ rn = -6 ∧ G' (G (zp_0 ps) 9).toNat 2 = (zy_fr B ln q : Int)) ∨ ∃ M : List yK, s = Sum.inr M ∧ G' (G (zp_0 ps) 9).toNat 2 = -1)
set_option maxHeartbeats 4000000 in
theorem zX_cor {l : Launch} {w : zk_W} (hW : zh_W w) (B : Nat → Int) (ln : Nat) : zk_metX l w zt_dv zt_TB zK_cor (zp_A (zφ_cor B ln)) (zp_B (zψ_cor B ln)) ∧ zk_cok w zt_TB zK_cor := by
  refine zp_methX (cn := "WoundTown") zp_lkallW hW (pl := 888) rfl (by decide +kernel) (fun p e R s m args below meth c Q u hx hb hE hQ hU5 heff hnL hok hφ => ?_)
  have hw := hW.1
  obtain ⟨p0, hps, k0⟩ := zp_ps1 hok
  obtain ⟨a, rfl, hp⟩ := zp_this k0
  have hrm : zk_Kr (zk_ev (zt_types, zp_lkW, zt_dv, [], [], zp_lcW, zK_cor)) = zk_Kr zK_cor := rfl
  rw [hps] at hφ ⊢
  show zp_J p l e R s m args below meth c Q w u [] 0 [(0, 2, (a : Int))] [] u.1 (zp_n u.2.1)
  refine zp_kn (k := 8) (a := a) hw (show zp_fd 12 8 = some (11, 2, 7, 0, 0) from rfl) rfl hp (fun hktp => ?_)
  obtain ⟨tp, htp, qtp⟩ := zp_this hktp
  refine zp_kn (k := 9) (a := a) hw (show zp_fd 12 9 = some (11, 2, 5, 0, 0) from rfl) rfl hp (fun hkrd => ?_)
  obtain ⟨rd, hrd, qrd⟩ := zp_this hkrd
  refine zp_kn (k := 1) (a := rd) hw (show zp_fd 5 1 = some (5, 2, 8, 0, 0) from rfl) rfl qrd (fun hkxt => ?_)
  obtain ⟨xt, hxt, qxt⟩ := zp_this hkxt
  refine zp_kn (k := 5) (a := xt) hw (show zp_fd 8 5 = some (8, 2, 35, 0, 0) from rfl) rfl qxt (fun hkcd => ?_)
  obtain ⟨cd, hcd, qcd⟩ := zp_this hkcd
  refine zp_kn (k := 0) (a := tp) hw (show zp_fd 7 0 = some (7, 2, 29, 0, 0) from rfl) rfl qtp (fun hkby_ => ?_)
  obtain ⟨by_, hby_, qby_⟩ := zp_this hkby_
  refine zp_kn (k := 0) (a := xt) hw (show zp_fd 8 0 = some (8, 2, 30, 0, 0) from rfl) rfl qxt (fun hkb0 => ?_)
  obtain ⟨b0, hb0, qb0⟩ := zp_this hkb0
  refine zp_kn (k := 1) (a := xt) hw (show zp_fd 8 1 = some (8, 2, 31, 0, 0) from rfl) rfl qxt (fun hkb1 => ?_)
  obtain ⟨b1, hb1, qb1⟩ := zp_this hkb1
  refine zp_kn (k := 2) (a := xt) hw (show zp_fd 8 2 = some (8, 2, 32, 0, 0) from rfl) rfl qxt (fun hkb2 => ?_)
  obtain ⟨b2, hb2, qb2⟩ := zp_this hkb2
  refine zp_kn (k := 3) (a := xt) hw (show zp_fd 8 3 = some (8, 2, 33, 0, 0) from rfl) rfl qxt (fun hkb3 => ?_)
  obtain ⟨b3, hb3, qb3⟩ := zp_this hkb3
  refine zp_kn (k := 4) (a := xt) hw (show zp_fd 8 4 = some (8, 2, 34, 0, 0) from rfl) rfl qxt (fun hkb4 => ?_)
  obtain ⟨b4, hb4, qb4⟩ := zp_this hkb4
  refine zp_kn (k := 0) (a := a) hw (show zp_fd 12 0 = some (11, 2, 10, 0, 0) from rfl) rfl hp (fun hktn => ?_)
  obtain ⟨tn, htn, qtn⟩ := zp_this hktn
  refine zp_kn (k := 18) (a := tn) hw (show zp_fd 10 18 = some (9, 2, 2, 0, 0) from rfl) rfl qtn (fun hkgo => ?_)
  obtain ⟨go, hgo, qgo⟩ := zp_this hkgo
  refine zp_kn (k := 10) (a := a) hw (show zp_fd 12 10 = some (11, 2, 2, 0, 0) from rfl) rfl hp (fun hkgb => ?_)
  obtain ⟨gb, hgb, qgb⟩ := zp_this hkgb
  refine zp_kn (k := 2) (a := a) hw (show zp_fd 12 2 = some (11, 2, 11, 0, 0) from rfl) rfl hp (fun hkun => ?_)
  obtain ⟨un, hun, qun⟩ := zp_this hkun
  refine zp_kn (k := 11) (a := a) hw (show zp_fd 12 11 = some (11, 2, 11, 0, 0) from rfl) rfl hp (fun hkub => ?_)
  obtain ⟨ub, hub, qub⟩ := zp_this hkub
  refine zp_kn (k := 1) (a := tp) hw (show zp_fd 7 1 = some (7, 0, 0, 0, 400) from rfl) rfl qtp (fun hkl9 => ?_)
  obtain ⟨l9, hl9⟩ := zp_nat (zp_int hkl9).1
  have hl9b := zp_int hkl9
  rw [hl9] at hl9b
  have hφ : zp_n u.2.1 (zp_n u.2.1 a 9).toNat 0 = zp_n u.2.1 a 8 ∧ zp_n u.2.1 (zp_n u.2.1 a 8).toNat 1 = (ln : Int) ∧ (∀ j, zv (zp_n u.2.1) (zp_n u.2.1 a 8).toNat 0 j = B j) ∧ ∀ j, j < ln → 0 ≤ B j ∧ B j ≤ 255 := hφ
  rw [hrd, htp, Int.toNat_natCast, Int.toNat_natCast] at hφ
  obtain ⟨hid, hln, hBB, hB255⟩ := hφ
  obtain rfl : l9 = ln := by omega
  have hB9 : ∀ j, zp_n u.2.1 by_ (2000 + j) = B j := fun j => (zv_eq hby_ j).symm.trans (hBB j)
  have hln4 : l9 ≤ 400 := by omega
  obtain ⟨bb, hbb0⟩ : ∃ bb : Nat → Nat, bb = fun i => [b0, b1, b2, b3, b4].getD i 0 := ⟨_, rfl⟩
  have hbb : ∀ i : Nat, i < 5 → zp_n u.2.1 xt i = (bb i : Int) ∧ u.1 (bb i) = some (30 + i) := by
    intro i hi
    have hi5 : i = 0 ∨ i = 1 ∨ i = 2 ∨ i = 3 ∨ i = 4 := by omega
    rw [hbb0]
    rcases hi5 with rfl | rfl | rfl | rfl | rfl
    · exact ⟨hb0, qb0⟩
    · exact ⟨hb1, qb1⟩
    · exact ⟨hb2, qb2⟩
    · exact ⟨hb3, qb3⟩
    · exact ⟨hb4, qb4⟩
  have htr : (zp_n u.2.1 a 9).toNat = rd := by rw [hrd, Int.toNat_natCast]
  have htt : (zp_n u.2.1 a 8).toNat = tp := by rw [htp, Int.toNat_natCast]
  refine zp_load (pc := 0) hx hb (zd_X11_orders (0, .aload_n 0, 1, 0, []) (List.mem_of_getElem? (i := 0) rfl)) rfl (j := 0) rfl ?_
  refine zp_getf (n := (rd : Int)) (pc := 1) hx hb hE hw (zd_X11_orders (1, .getfield 76, 3, 0, []) (List.mem_of_getElem? (i := 1) rfl)) (j := 59) rfl rfl rfl hp hrd ?_
  refine zp_const (pc := 4) hx hb (zd_X11_orders (4, .iconst 1, 1, 0, []) (List.mem_of_getElem? (i := 2) rfl)) rfl rfl ?_
  refine zp_call (pc := 5) (how := 0) (idx := 208) (mi := 40) (S := []) hx hb hE hw heff hrm (zX_rdo hW tp xt by_ cd B l9 bb) rfl (j := 23) rfl rfl (by decide +kernel) (zd_X11_orders (5, .invokevirtual 208, 3, 0, []) (List.mem_of_getElem? (i := 3) rfl)) [(rd : Int), 1] rfl ⟨zp_o2 qrd, zp_o0 (by decide) (by decide) (by decide) (by decide), trivial⟩ (Nat.le_of_ble_eq_true rfl) ⟨⟨⟨qrd, qtp, qxt, qby_, qcd⟩, hid, hxt, hcd⟩, ⟨⟨hby_, hl9, hln4, hB9⟩, hB255⟩, hbb, rfl⟩ (fun al hal rnr Pr Gr hextr hfrr hokr hcsr hpsir => ?_)
  obtain rfl := List.mem_singleton.mp hal
  have hrr := zp_int (hokr _ rfl).1
  have yar := hextr _ _ hp
  have ytpr := hextr _ _ qtp
  have yrdr := hextr _ _ qrd
  have yxtr := hextr _ _ qxt
  have ycdr := hextr _ _ qcd
  have yby_r := hextr _ _ qby_
  have yb0r := hextr _ _ qb0
  have yb1r := hextr _ _ qb1
  have yb2r := hextr _ _ qb2
  have yb3r := hextr _ _ qb3
  have yb4r := hextr _ _ qb4
  have ytnr := hextr _ _ qtn
  have ygor := hextr _ _ qgo
  have ygbr := hextr _ _ qgb
  have yunr := hextr _ _ qun
  have yubr := hextr _ _ qub
  obtain ⟨hPr, sr, hsr, htr9⟩ := hpsir
  rcases htr9 with ⟨qr, rfl, hzr, hfr9⟩ | ⟨M, C9, sz9, rfl, hzr, hfr9, -⟩
  · subst hzr
    have hfr8 : Gr rd 2 = (zy_fr B l9 qr : Int) := hfr9
    refine zp_store (L' := [(1, 0, 0), (0, 2, (a : Int))]) (pc := 8) hx hb hnL (zd_X11_orders (8, .istore_n 1, 1, 0, []) (List.mem_of_getElem? (i := 4) rfl)) rfl rfl rfl ?_
    refine zp_load (pc := 9) hx hb (zd_X11_orders (9, .aload_n 0, 1, 0, []) (List.mem_of_getElem? (i := 5) rfl)) rfl (j := 1) rfl ?_
    refine zp_getf (n := (tp : Int)) (pc := 10) hx hb hE hw (zd_X11_orders (10, .getfield 67, 3, 0, []) (List.mem_of_getElem? (i := 6) rfl)) (j := 58) rfl rfl rfl yar ((zp_nf hfrr hp rfl).trans htp) ?_
    refine zp_const (pc := 13) hx hb (zd_X11_orders (13, .iconst 0, 1, 0, []) (List.mem_of_getElem? (i := 7) rfl)) rfl rfl ?_
    refine zp_putf (pc := 14) hx hb hE hw heff (zd_X11_orders (14, .putfield 193, 3, 0, []) (List.mem_of_getElem? (i := 8) rfl)) (j := 39) rfl rfl rfl ytpr (zp_o0 (by decide) (by decide) (by decide) (by decide)) ?_
    refine zp_load (pc := 17) hx hb (zd_X11_orders (17, .aload_n 0, 1, 0, []) (List.mem_of_getElem? (i := 9) rfl)) rfl (j := 1) rfl ?_
    refine zp_const (pc := 18) hx hb (zd_X11_orders (18, .iconst (-1), 1, 0, []) (List.mem_of_getElem? (i := 10) rfl)) rfl rfl ?_
    refine zp_putf (pc := 19) hx hb hE hw heff (zd_X11_orders (19, .putfield 98, 3, 0, []) (List.mem_of_getElem? (i := 11) rfl)) (j := 65) rfl rfl rfl yar (zp_o0 (by decide) (by decide) (by decide) (by decide)) ?_
    refine zp_load (pc := 22) hx hb (zd_X11_orders (22, .iload_n 1, 1, 0, []) (List.mem_of_getElem? (i := 12) rfl)) rfl (j := 0) rfl ?_
    refine zp_if (pc := 23) (tgt := 33) hx hb (zd_X11_orders (23, .ifCond .ne 10, 3, 0, []) (List.mem_of_getElem? (i := 13) rfl)) rfl (fun (hc21 : ¬ 0 = 0) => ?_) (fun (hc21 : ¬ (¬ 0 = 0)) => ?_)
    · exfalso
      omega
    · refine zp_load (pc := 26) hx hb (zd_X11_orders (26, .aload_n 0, 1, 0, []) (List.mem_of_getElem? (i := 14) rfl)) rfl (j := 1) rfl ?_
      refine zp_const (pc := 27) hx hb (zd_X11_orders (27, .bipush (-6), 2, 0, []) (List.mem_of_getElem? (i := 15) rfl)) rfl rfl ?_
      refine zp_call (pc := 29) (how := 0) (idx := 111) (mi := 16) (S := []) hx hb hE hw heff hrm (zX_rfd hW) rfl (j := 11) rfl rfl (by decide +kernel) (zd_X11_orders (29, .invokevirtual 111, 3, 0, []) (List.mem_of_getElem? (i := 16) rfl)) [(a : Int), (-6)] rfl ⟨zp_o2 yar, zp_o0 (by decide) (by decide) (by decide) (by decide), trivial⟩ (Nat.le_of_ble_eq_true rfl) trivial (fun al hal rnf22 Pf22 Gf22 hextf22 hfrf22 hokf22 hcsf22 hpsif22 => ?_)
      obtain rfl := List.mem_singleton.mp hal
      have hrf22 := zp_int (hokf22 _ rfl).1
      have yaf22 := hextf22 _ _ yar
      have ytpf22 := hextf22 _ _ ytpr
      have yrdf22 := hextf22 _ _ yrdr
      have yxtf22 := hextf22 _ _ yxtr
      have ycdf22 := hextf22 _ _ ycdr
      have yby_f22 := hextf22 _ _ yby_r
      have yb0f22 := hextf22 _ _ yb0r
      have yb1f22 := hextf22 _ _ yb1r
      have yb2f22 := hextf22 _ _ yb2r
      have yb3f22 := hextf22 _ _ yb3r
      have yb4f22 := hextf22 _ _ yb4r
      have ytnf22 := hextf22 _ _ ytnr
      have ygof22 := hextf22 _ _ ygor
      have ygbf22 := hextf22 _ _ ygbr
      have yunf22 := hextf22 _ _ yunr
      have yubf22 := hextf22 _ _ yubr
      have hn9 : rnf22 = (-6) := hpsif22
      refine zp_iret (pc := 32) (n := rnf22) hx hb hE hQ hU5 rfl (by decide) (zd_X11_orders (32, .ireturn, 1, 0, []) (List.mem_of_getElem? (i := 17) rfl)) (j := 0) rfl (zp_o0 (by omega) (by omega) (by omega) (by omega)) ?_
      rw [hps]
      have ez0 : Gf22 tp 1 = 0 := ((zp_nf hfrf22 ytpr rfl).trans ((zp_set_ne (Or.inl (zp_pne ytpr yar (by decide)))).trans (zp_set_self)))
      have ez1 : Gf22 rd 2 = (zy_fr B l9 qr : Int) := ((zp_nf hfrf22 yrdr rfl).trans ((zp_set_ne (Or.inl (zp_pne yrdr yar (by decide)))).trans ((zp_set_ne (Or.inl (zp_pne yrdr ytpr (by decide)))).trans (hfr8))))
      show Gf22 (zp_n u.2.1 a 8).toNat 1 = 0 ∧ ∃ s, yT (zy_so B l9) (zy_wo B l9) (zy_to B l9) (yt_co (zy_so B l9) (zy_wo B l9) (zy_to B l9) (ylf true B l9)) 12 0 0 s ∧ ((∃ q, s = Sum.inl q ∧ rnf22 = -6 ∧ Gf22 (zp_n u.2.1 a 9).toNat 2 = (zy_fr B l9 q : Int)) ∨ ∃ M : List yK, s = Sum.inr M ∧ Gf22 (zp_n u.2.1 a 9).toNat 2 = -1)
      rw [htt, htr]
      exact ⟨ez0, Sum.inl qr, hsr, Or.inl ⟨qr, rfl, hn9, ez1⟩⟩
  · subst hzr
    have hfr8 : Gr rd 2 = -1 := hfr9
    refine zp_store (L' := [(1, 0, 1), (0, 2, (a : Int))]) (pc := 8) hx hb hnL (zd_X11_orders (8, .istore_n 1, 1, 0, []) (List.mem_of_getElem? (i := 4) rfl)) rfl rfl rfl ?_
    refine zp_load (pc := 9) hx hb (zd_X11_orders (9, .aload_n 0, 1, 0, []) (List.mem_of_getElem? (i := 5) rfl)) rfl (j := 1) rfl ?_
    refine zp_getf (n := (tp : Int)) (pc := 10) hx hb hE hw (zd_X11_orders (10, .getfield 67, 3, 0, []) (List.mem_of_getElem? (i := 6) rfl)) (j := 58) rfl rfl rfl yar ((zp_nf hfrr hp rfl).trans htp) ?_
    refine zp_const (pc := 13) hx hb (zd_X11_orders (13, .iconst 0, 1, 0, []) (List.mem_of_getElem? (i := 7) rfl)) rfl rfl ?_
    refine zp_putf (pc := 14) hx hb hE hw heff (zd_X11_orders (14, .putfield 193, 3, 0, []) (List.mem_of_getElem? (i := 8) rfl)) (j := 39) rfl rfl rfl ytpr (zp_o0 (by decide) (by decide) (by decide) (by decide)) ?_
    refine zp_load (pc := 17) hx hb (zd_X11_orders (17, .aload_n 0, 1, 0, []) (List.mem_of_getElem? (i := 9) rfl)) rfl (j := 1) rfl ?_
    refine zp_const (pc := 18) hx hb (zd_X11_orders (18, .iconst (-1), 1, 0, []) (List.mem_of_getElem? (i := 10) rfl)) rfl rfl ?_
    refine zp_putf (pc := 19) hx hb hE hw heff (zd_X11_orders (19, .putfield 98, 3, 0, []) (List.mem_of_getElem? (i := 11) rfl)) (j := 65) rfl rfl rfl yar (zp_o0 (by decide) (by decide) (by decide) (by decide)) ?_
    refine zp_load (pc := 22) hx hb (zd_X11_orders (22, .iload_n 1, 1, 0, []) (List.mem_of_getElem? (i := 12) rfl)) rfl (j := 0) rfl ?_
    refine zp_if (pc := 23) (tgt := 33) hx hb (zd_X11_orders (23, .ifCond .ne 10, 3, 0, []) (List.mem_of_getElem? (i := 13) rfl)) rfl (fun (hc23 : ¬ 1 = 0) => ?_) (fun (hc23 : ¬ (¬ 1 = 0)) => ?_)
    · refine zp_load (pc := 33) hx hb (zd_X11_orders (33, .aload_n 0, 1, 0, []) (List.mem_of_getElem? (i := 18) rfl)) rfl (j := 1) rfl ?_
      refine zp_getf (n := (gb : Int)) (pc := 34) hx hb hE hw (zd_X11_orders (34, .getfield 83, 3, 0, []) (List.mem_of_getElem? (i := 19) rfl)) (j := 60) rfl rfl rfl yar ((zp_set_ne (Or.inr (by decide))).trans ((zp_set_ne (Or.inl (zp_pne yar ytpr (by decide)))).trans (((zp_nf hfrr hp rfl).trans hgb)))) ?_
      refine zp_load (pc := 37) hx hb (zd_X11_orders (37, .aload_n 0, 1, 0, []) (List.mem_of_getElem? (i := 20) rfl)) rfl (j := 1) rfl ?_
      refine zp_getf (n := (tn : Int)) (pc := 38) hx hb hE hw (zd_X11_orders (38, .getfield 10, 3, 0, []) (List.mem_of_getElem? (i := 21) rfl)) (j := 50) rfl rfl rfl yar ((zp_set_ne (Or.inr (by decide))).trans ((zp_set_ne (Or.inl (zp_pne yar ytpr (by decide)))).trans (((zp_nf hfrr hp rfl).trans htn)))) ?_
      refine zp_getf (n := (go : Int)) (pc := 41) hx hb hE hw (zd_X11_orders (41, .getfield 135, 3, 0, []) (List.mem_of_getElem? (i := 22) rfl)) (j := 24) rfl rfl rfl ytnr ((zp_set_ne (Or.inl (zp_pne ytnr yar (by decide)))).trans ((zp_set_ne (Or.inl (zp_pne ytnr ytpr (by decide)))).trans (((zp_nf hfrr qtn rfl).trans hgo)))) ?_
      refine zp_call (pc := 44) (how := 0) (idx := 226) (mi := 80) (S := []) hx hb hE hw heff hrm (zp_plain (zq_161 hW)) rfl (j := 25) rfl rfl (by decide +kernel) (zd_X11_orders (44, .invokevirtual 226, 3, 0, []) (List.mem_of_getElem? (i := 23) rfl)) [(gb : Int), (go : Int)] rfl ⟨zp_o2 ygbr, zp_o2 ygor, trivial⟩ (Nat.le_of_ble_eq_true rfl) trivial (fun al hal rng24 Pg24 Gg24 hextg24 hfrg24 hokg24 hcsg24 hpsig24 => ?_)
      obtain rfl := List.mem_singleton.mp hal
      have yag24 := hextg24 _ _ yar
      have ytpg24 := hextg24 _ _ ytpr
      have yrdg24 := hextg24 _ _ yrdr
      have yxtg24 := hextg24 _ _ yxtr
      have ycdg24 := hextg24 _ _ ycdr
      have yby_g24 := hextg24 _ _ yby_r
      have yb0g24 := hextg24 _ _ yb0r
      have yb1g24 := hextg24 _ _ yb1r
      have yb2g24 := hextg24 _ _ yb2r
      have yb3g24 := hextg24 _ _ yb3r
      have yb4g24 := hextg24 _ _ yb4r
      have ytng24 := hextg24 _ _ ytnr
      have ygog24 := hextg24 _ _ ygor
      have ygbg24 := hextg24 _ _ ygbr
      have yung24 := hextg24 _ _ yunr
      have yubg24 := hextg24 _ _ yubr
      refine zp_load (pc := 47) hx hb (zd_X11_orders (47, .aload_n 0, 1, 0, []) (List.mem_of_getElem? (i := 24) rfl)) rfl (j := 1) rfl ?_
      refine zp_getf (n := (ub : Int)) (pc := 48) hx hb hE hw (zd_X11_orders (48, .getfield 87, 3, 0, []) (List.mem_of_getElem? (i := 25) rfl)) (j := 61) rfl rfl rfl yag24 ((zp_nf hfrg24 yar rfl).trans ((zp_set_ne (Or.inr (by decide))).trans ((zp_set_ne (Or.inl (zp_pne yar ytpr (by decide)))).trans (((zp_nf hfrr hp rfl).trans hub))))) ?_
      refine zp_load (pc := 51) hx hb (zd_X11_orders (51, .aload_n 0, 1, 0, []) (List.mem_of_getElem? (i := 26) rfl)) rfl (j := 1) rfl ?_
      refine zp_getf (n := (un : Int)) (pc := 52) hx hb hE hw (zd_X11_orders (52, .getfield 23, 3, 0, []) (List.mem_of_getElem? (i := 27) rfl)) (j := 52) rfl rfl rfl yag24 ((zp_nf hfrg24 yar rfl).trans ((zp_set_ne (Or.inr (by decide))).trans ((zp_set_ne (Or.inl (zp_pne yar ytpr (by decide)))).trans (((zp_nf hfrr hp rfl).trans hun))))) ?_
      refine zp_call (pc := 55) (how := 0) (idx := 230) (mi := 81) (S := []) hx hb hE hw heff hrm (zp_plain (zq_162 hW)) rfl (j := 26) rfl rfl (by decide +kernel) (zd_X11_orders (55, .invokevirtual 230, 3, 0, []) (List.mem_of_getElem? (i := 28) rfl)) [(ub : Int), (un : Int)] rfl ⟨zp_o2 yubg24, zp_o2 yung24, trivial⟩ (Nat.le_of_ble_eq_true rfl) trivial (fun al hal rnu25 Pu25 Gu25 hextu25 hfru25 hoku25 hcsu25 hpsiu25 => ?_)
      obtain rfl := List.mem_singleton.mp hal
      have yau25 := hextu25 _ _ yag24
      have ytpu25 := hextu25 _ _ ytpg24
      have yrdu25 := hextu25 _ _ yrdg24
      have yxtu25 := hextu25 _ _ yxtg24
      have ycdu25 := hextu25 _ _ ycdg24
      have yby_u25 := hextu25 _ _ yby_g24
      have yb0u25 := hextu25 _ _ yb0g24
      have yb1u25 := hextu25 _ _ yb1g24
      have yb2u25 := hextu25 _ _ yb2g24
      have yb3u25 := hextu25 _ _ yb3g24
      have yb4u25 := hextu25 _ _ yb4g24
      have ytnu25 := hextu25 _ _ ytng24
      have ygou25 := hextu25 _ _ ygog24
      have ygbu25 := hextu25 _ _ ygbg24
      have yunu25 := hextu25 _ _ yung24
      have yubu25 := hextu25 _ _ yubg24
      refine zp_load (pc := 58) hx hb (zd_X11_orders (58, .aload_n 0, 1, 0, []) (List.mem_of_getElem? (i := 29) rfl)) rfl (j := 1) rfl ?_
      refine zp_const (pc := 59) hx hb (zd_X11_orders (59, .iconst 0, 1, 0, []) (List.mem_of_getElem? (i := 30) rfl)) rfl rfl ?_
      refine zp_putf (pc := 60) hx hb hE hw heff (zd_X11_orders (60, .putfield 233, 3, 0, []) (List.mem_of_getElem? (i := 31) rfl)) (j := 63) rfl rfl rfl yau25 (zp_o0 (by decide) (by decide) (by decide) (by decide)) ?_
      refine zp_load (pc := 63) hx hb (zd_X11_orders (63, .aload_n 0, 1, 0, []) (List.mem_of_getElem? (i := 32) rfl)) rfl (j := 1) rfl ?_
      refine zp_const (pc := 64) hx hb (zd_X11_orders (64, .iconst (-1), 1, 0, []) (List.mem_of_getElem? (i := 33) rfl)) rfl rfl ?_
      refine zp_putf (pc := 65) hx hb hE hw heff (zd_X11_orders (65, .putfield 94, 3, 0, []) (List.mem_of_getElem? (i := 34) rfl)) (j := 64) rfl rfl rfl yau25 (zp_o0 (by decide) (by decide) (by decide) (by decide)) ?_
      refine zp_const (pc := 68) hx hb (zd_X11_orders (68, .iconst 0, 1, 0, []) (List.mem_of_getElem? (i := 35) rfl)) rfl rfl ?_
      refine zp_store (L' := [(2, 0, 0), (1, 0, 1), (0, 2, (a : Int))]) (pc := 69) hx hb hnL (zd_X11_orders (69, .istore_n 2, 1, 0, []) (List.mem_of_getElem? (i := 36) rfl)) rfl rfl rfl ?_
      have ends : ∀ (P' : Nat → Option Nat) (G' : Nat → Nat → Int) (rn : Int), G' tp 1 = 0 → G' rd 2 = -1 → zψ_cor B l9 u.1 (zp_n u.2.1) [(a : Int)] P' G' rn := fun P' G' rn h1 h2 => by
        show G' (zp_n u.2.1 a 8).toNat 1 = 0 ∧ ∃ s, yT (zy_so B l9) (zy_wo B l9) (zy_to B l9) (yt_co (zy_so B l9) (zy_wo B l9) (zy_to B l9) (ylf true B l9)) 12 0 0 s ∧ ((∃ q, s = Sum.inl q ∧ rn = -6 ∧ G' (zp_n u.2.1 a 9).toNat 2 = (zy_fr B l9 q : Int)) ∨ ∃ M : List yK, s = Sum.inr M ∧ G' (zp_n u.2.1 a 9).toNat 2 = -1)
        rw [htt, htr]
        exact ⟨h1, Sum.inr M, hsr, Or.inr ⟨M, rfl, h2⟩⟩
      have loop : ∀ (m0 k : Nat) (P : Nat → Option Nat) (G : Nat → Nat → Int), 13 - k < m0 → k ≤ 12 → P a = some 12 → P rd = some 5 → P tp = some 7 → G a 9 = (rd : Int) → G a 8 = (tp : Int) → G rd 2 = -1 → G tp 1 = 0 → zp_J p l e R s m args below meth c Q w u [] 70 [(2, 0, (k : Int)), (1, 0, 1), (0, 2, (a : Int))] [] P G := by
        intro m0
        induction m0 with
        | zero => intro k P G h; exact absurd h (Nat.not_lt_zero _)
        | succ m0 ih =>
          intro k P G hm hk m1 m2 m3 e9 e8 e2 e1
          refine zp_kn (k := 1) (a := rd) hw (show zp_fd 5 1 = some (5, 2, 8, 0, 0) from rfl) rfl m2 (fun hkxt => ?_)
          obtain ⟨xt, hxt, qxt⟩ := zp_this hkxt
          refine zp_kn (k := 6) (a := xt) hw (show zp_fd 8 6 = some (8, 0, 0, 0, 12) from rfl) rfl qxt (fun hknc => ?_)
          obtain ⟨nc, hnc⟩ : ∃ z0 : Int, G xt 6 = z0 := ⟨_, rfl⟩
          have hncb := zp_int hknc
          rw [hnc] at hncb
          refine zp_kn (k := 0) (a := a) hw (show zp_fd 12 0 = some (11, 2, 10, 0, 0) from rfl) rfl m1 (fun hktn => ?_)
          obtain ⟨tn, htn, qtn⟩ := zp_this hktn
          refine zp_kn (k := 18) (a := tn) hw (show zp_fd 10 18 = some (9, 2, 2, 0, 0) from rfl) rfl qtn (fun hkgo => ?_)
          obtain ⟨go, hgo, qgo⟩ := zp_this hkgo
          refine zp_kn (k := 10) (a := a) hw (show zp_fd 12 10 = some (11, 2, 2, 0, 0) from rfl) rfl m1 (fun hkgb => ?_)
          obtain ⟨gb, hgb, qgb⟩ := zp_this hkgb
          refine zp_kn (k := 2) (a := a) hw (show zp_fd 12 2 = some (11, 2, 11, 0, 0) from rfl) rfl m1 (fun hkun => ?_)
          obtain ⟨un, hun, qun⟩ := zp_this hkun
          refine zp_kn (k := 11) (a := a) hw (show zp_fd 12 11 = some (11, 2, 11, 0, 0) from rfl) rfl m1 (fun hkub => ?_)
          obtain ⟨ub, hub, qub⟩ := zp_this hkub
          refine zp_kn (k := 13) (a := a) hw (show zp_fd 12 13 = some (11, 0, 0, (-2147483648), 2147483647) from rfl) rfl m1 (fun hkod => ?_)
          obtain ⟨od, hod⟩ : ∃ z0 : Int, G a 13 = z0 := ⟨_, rfl⟩
          have hodb := zp_int hkod
          rw [hod] at hodb
          refine zp_load (pc := 70) hx hb (zd_X11_orders (70, .iload_n 2, 1, 0, []) (List.mem_of_getElem? (i := 37) rfl)) rfl (j := 0) rfl ?_
          refine zp_load (pc := 71) hx hb (zd_X11_orders (71, .aload_n 0, 1, 0, []) (List.mem_of_getElem? (i := 38) rfl)) rfl (j := 2) rfl ?_
          refine zp_getf (n := (rd : Int)) (pc := 72) hx hb hE hw (zd_X11_orders (72, .getfield 76, 3, 0, []) (List.mem_of_getElem? (i := 39) rfl)) (j := 59) rfl rfl rfl m1 e9 ?_
          refine zp_getf (n := (xt : Int)) (pc := 75) hx hb hE hw (zd_X11_orders (75, .getfield 216, 3, 0, []) (List.mem_of_getElem? (i := 40) rfl)) (j := 47) rfl rfl rfl m2 hxt ?_
          refine zp_getf (n := nc) (pc := 78) hx hb hE hw (zd_X11_orders (78, .getfield 236, 3, 0, []) (List.mem_of_getElem? (i := 41) rfl)) (j := 46) rfl rfl rfl qxt hnc ?_
          refine zp_icmp (pc := 81) (tgt := 142) hx hb (zd_X11_orders (81, .if_icmp .ge 61, 3, 0, []) (List.mem_of_getElem? (i := 42) rfl)) rfl (fun (hc26 : nc ≤ (k : Int)) => ?_) (fun (hc26 : ¬ (nc ≤ (k : Int))) => ?_)
          · refine zp_load (pc := 142) hx hb (zd_X11_orders (142, .aload_n 0, 1, 0, []) (List.mem_of_getElem? (i := 70) rfl)) rfl (j := 2) rfl ?_
            refine zp_load (pc := 143) hx hb (zd_X11_orders (143, .aload_n 0, 1, 0, []) (List.mem_of_getElem? (i := 71) rfl)) rfl (j := 2) rfl ?_
            refine zp_getf (n := od) (pc := 144) hx hb hE hw (zd_X11_orders (144, .getfield 233, 3, 0, []) (List.mem_of_getElem? (i := 72) rfl)) (j := 63) rfl rfl rfl m1 hod ?_
            refine zp_call (pc := 147) (how := 0) (idx := 118) (mi := 17) (S := []) hx hb hE hw heff hrm (zX_awd hW) rfl (j := 12) rfl rfl (by decide +kernel) (zd_X11_orders (147, .invokevirtual 118, 3, 0, []) (List.mem_of_getElem? (i := 73) rfl)) [(a : Int), od] rfl ⟨zp_o2 m1, zp_o0 (by omega) (by omega) (by omega) (by omega), trivial⟩ (Nat.le_of_ble_eq_true rfl) trivial (fun al hal rnz27 Pz27 Gz27 hextz27 hfrz27 hokz27 hcsz27 hpsiz27 => ?_)
            obtain rfl := List.mem_singleton.mp hal
            have hrz27 := zp_int (hokz27 _ rfl).1
            have yaz27 := hextz27 _ _ m1
            have yrdz27 := hextz27 _ _ m2
            have ytpz27 := hextz27 _ _ m3
            have yxtz27 := hextz27 _ _ qxt
            have ytnz27 := hextz27 _ _ qtn
            have ygoz27 := hextz27 _ _ qgo
            have ygbz27 := hextz27 _ _ qgb
            have yunz27 := hextz27 _ _ qun
            have yubz27 := hextz27 _ _ qub
            refine zp_iret (pc := 150) (n := rnz27) hx hb hE hQ hU5 rfl (by decide) (zd_X11_orders (150, .ireturn, 1, 0, []) (List.mem_of_getElem? (i := 74) rfl)) (j := 0) rfl (zp_o0 (by omega) (by omega) (by omega) (by omega)) ?_
            rw [hps]
            have ez0 : Gz27 tp 1 = 0 := ((zp_nf hfrz27 m3 rfl).trans e1)
            have ez1 : Gz27 rd 2 = (-1) := ((zp_nf hfrz27 m2 rfl).trans e2)
            exact ends _ _ _ ez0 ez1
          · refine zp_load (pc := 84) hx hb (zd_X11_orders (84, .aload_n 0, 1, 0, []) (List.mem_of_getElem? (i := 43) rfl)) rfl (j := 2) rfl ?_
            refine zp_load (pc := 85) hx hb (zd_X11_orders (85, .aload_n 0, 1, 0, []) (List.mem_of_getElem? (i := 44) rfl)) rfl (j := 2) rfl ?_
            refine zp_getf (n := (rd : Int)) (pc := 86) hx hb hE hw (zd_X11_orders (86, .getfield 76, 3, 0, []) (List.mem_of_getElem? (i := 45) rfl)) (j := 59) rfl rfl rfl m1 e9 ?_
            refine zp_getf (n := (xt : Int)) (pc := 89) hx hb hE hw (zd_X11_orders (89, .getfield 216, 3, 0, []) (List.mem_of_getElem? (i := 46) rfl)) (j := 47) rfl rfl rfl m2 hxt ?_
            refine zp_load (pc := 92) hx hb (zd_X11_orders (92, .iload_n 2, 1, 0, []) (List.mem_of_getElem? (i := 47) rfl)) rfl (j := 0) rfl ?_
            refine zp_call (pc := 93) (how := 0) (idx := 239) (mi := 82) (S := []) hx hb hE hw heff hrm (zX_icr hW) rfl (j := 27) rfl rfl (by decide +kernel) (zd_X11_orders (93, .invokevirtual 239, 3, 0, []) (List.mem_of_getElem? (i := 48) rfl)) [(a : Int), (xt : Int), (k : Int)] rfl ⟨zp_o2 m1, zp_o2 qxt, zp_o0 (by omega) (by omega) (by omega) (by omega), trivial⟩ (Nat.le_of_ble_eq_true rfl) trivial (fun al hal rnc28 Pc28 Gc28 hextc28 hfrc28 hokc28 hcsc28 hpsic28 => ?_)
            obtain rfl := List.mem_singleton.mp hal
            have hrc28 := zp_int (hokc28 _ rfl).1
            have yac28 := hextc28 _ _ m1
            have yrdc28 := hextc28 _ _ m2
            have ytpc28 := hextc28 _ _ m3
            have yxtc28 := hextc28 _ _ qxt
            have ytnc28 := hextc28 _ _ qtn
            have ygoc28 := hextc28 _ _ qgo
            have ygbc28 := hextc28 _ _ qgb
            have yunc28 := hextc28 _ _ qun
            have yubc28 := hextc28 _ _ qub
            refine zp_if (pc := 96) (tgt := 136) hx hb (zd_X11_orders (96, .ifCond .ne 40, 3, 0, []) (List.mem_of_getElem? (i := 49) rfl)) rfl (fun (hc29 : ¬ rnc28 = 0) => ?_) (fun (hc29 : ¬ (¬ rnc28 = 0)) => ?_)
            · refine zp_iinc (L' := [(2, 0, ((k : Int) + 1)), (1, 0, 1), (0, 2, (a : Int))]) (n := ((k : Int) + 1)) (pc := 136) hx hb hnL (zd_X11_orders (136, .iinc 2 1, 3, 0, []) (List.mem_of_getElem? (i := 68) rfl)) (j := 0) rfl (by omega) (zp_r0 (by omega) (by omega)) rfl rfl ?_
              refine zp_goto (tgt := 70) (pc := 139) hx hb (zd_X11_orders (139, .goto (-69), 3, 0, []) (List.mem_of_getElem? (i := 69) rfl)) rfl ?_
              refine zp_drop (L' := [(2, 0, ((k : Int) + 1)), (1, 0, 1), (0, 2, (a : Int))]) (by simp) ?_
              exact ih (k + 1) _ _ (by omega) (by omega) yac28 yrdc28 ytpc28 (((zp_nf hfrc28 m1 rfl).trans e9)) (((zp_nf hfrc28 m1 rfl).trans e8)) (((zp_nf hfrc28 m2 rfl).trans e2)) (((zp_nf hfrc28 m3 rfl).trans e1))
            · refine zp_load (pc := 99) hx hb (zd_X11_orders (99, .aload_n 0, 1, 0, []) (List.mem_of_getElem? (i := 50) rfl)) rfl (j := 2) rfl ?_
              refine zp_getf (n := (tn : Int)) (pc := 100) hx hb hE hw (zd_X11_orders (100, .getfield 10, 3, 0, []) (List.mem_of_getElem? (i := 51) rfl)) (j := 50) rfl rfl rfl yac28 ((zp_nf hfrc28 m1 rfl).trans htn) ?_
              refine zp_getf (n := (go : Int)) (pc := 103) hx hb hE hw (zd_X11_orders (103, .getfield 135, 3, 0, []) (List.mem_of_getElem? (i := 52) rfl)) (j := 24) rfl rfl rfl ytnc28 ((zp_nf hfrc28 qtn rfl).trans hgo) ?_
              refine zp_load (pc := 106) hx hb (zd_X11_orders (106, .aload_n 0, 1, 0, []) (List.mem_of_getElem? (i := 53) rfl)) rfl (j := 2) rfl ?_
              refine zp_getf (n := (gb : Int)) (pc := 107) hx hb hE hw (zd_X11_orders (107, .getfield 83, 3, 0, []) (List.mem_of_getElem? (i := 54) rfl)) (j := 60) rfl rfl rfl yac28 ((zp_nf hfrc28 m1 rfl).trans hgb) ?_
              refine zp_call (pc := 110) (how := 0) (idx := 226) (mi := 80) (S := []) hx hb hE hw heff hrm (zp_plain (zq_161 hW)) rfl (j := 25) rfl rfl (by decide +kernel) (zd_X11_orders (110, .invokevirtual 226, 3, 0, []) (List.mem_of_getElem? (i := 55) rfl)) [(go : Int), (gb : Int)] rfl ⟨zp_o2 ygoc28, zp_o2 ygbc28, trivial⟩ (Nat.le_of_ble_eq_true rfl) trivial (fun al hal rng30 Pg30 Gg30 hextg30 hfrg30 hokg30 hcsg30 hpsig30 => ?_)
              obtain rfl := List.mem_singleton.mp hal
              have yag30 := hextg30 _ _ yac28
              have yrdg30 := hextg30 _ _ yrdc28
              have ytpg30 := hextg30 _ _ ytpc28
              have yxtg30 := hextg30 _ _ yxtc28
              have ytng30 := hextg30 _ _ ytnc28
              have ygog30 := hextg30 _ _ ygoc28
              have ygbg30 := hextg30 _ _ ygbc28
              have yung30 := hextg30 _ _ yunc28
              have yubg30 := hextg30 _ _ yubc28
              refine zp_load (pc := 113) hx hb (zd_X11_orders (113, .aload_n 0, 1, 0, []) (List.mem_of_getElem? (i := 56) rfl)) rfl (j := 2) rfl ?_
              refine zp_getf (n := (un : Int)) (pc := 114) hx hb hE hw (zd_X11_orders (114, .getfield 23, 3, 0, []) (List.mem_of_getElem? (i := 57) rfl)) (j := 52) rfl rfl rfl yag30 ((zp_nf hfrg30 yac28 rfl).trans ((zp_nf hfrc28 m1 rfl).trans hun)) ?_
              refine zp_load (pc := 117) hx hb (zd_X11_orders (117, .aload_n 0, 1, 0, []) (List.mem_of_getElem? (i := 58) rfl)) rfl (j := 2) rfl ?_
              refine zp_getf (n := (ub : Int)) (pc := 118) hx hb hE hw (zd_X11_orders (118, .getfield 87, 3, 0, []) (List.mem_of_getElem? (i := 59) rfl)) (j := 61) rfl rfl rfl yag30 ((zp_nf hfrg30 yac28 rfl).trans ((zp_nf hfrc28 m1 rfl).trans hub)) ?_
              refine zp_call (pc := 121) (how := 0) (idx := 230) (mi := 81) (S := []) hx hb hE hw heff hrm (zp_plain (zq_162 hW)) rfl (j := 26) rfl rfl (by decide +kernel) (zd_X11_orders (121, .invokevirtual 230, 3, 0, []) (List.mem_of_getElem? (i := 60) rfl)) [(un : Int), (ub : Int)] rfl ⟨zp_o2 yung30, zp_o2 yubg30, trivial⟩ (Nat.le_of_ble_eq_true rfl) trivial (fun al hal rnu31 Pu31 Gu31 hextu31 hfru31 hoku31 hcsu31 hpsiu31 => ?_)
              obtain rfl := List.mem_singleton.mp hal
              have yau31 := hextu31 _ _ yag30
              have yrdu31 := hextu31 _ _ yrdg30
              have ytpu31 := hextu31 _ _ ytpg30
              have yxtu31 := hextu31 _ _ yxtg30
              have ytnu31 := hextu31 _ _ ytng30
              have ygou31 := hextu31 _ _ ygog30
              have ygbu31 := hextu31 _ _ ygbg30
              have yunu31 := hextu31 _ _ yung30
              have yubu31 := hextu31 _ _ yubg30
              refine zp_load (pc := 124) hx hb (zd_X11_orders (124, .aload_n 0, 1, 0, []) (List.mem_of_getElem? (i := 61) rfl)) rfl (j := 2) rfl ?_
              refine zp_load (pc := 125) hx hb (zd_X11_orders (125, .iload_n 2, 1, 0, []) (List.mem_of_getElem? (i := 62) rfl)) rfl (j := 0) rfl ?_
              refine zp_putf (pc := 126) hx hb hE hw heff (zd_X11_orders (126, .putfield 98, 3, 0, []) (List.mem_of_getElem? (i := 63) rfl)) (j := 65) rfl rfl rfl yau31 (zp_o0 (by omega) (by omega) (by omega) (by omega)) ?_
              refine zp_load (pc := 129) hx hb (zd_X11_orders (129, .aload_n 0, 1, 0, []) (List.mem_of_getElem? (i := 64) rfl)) rfl (j := 2) rfl ?_
              refine zp_const (pc := 130) hx hb (zd_X11_orders (130, .bipush (-3), 2, 0, []) (List.mem_of_getElem? (i := 65) rfl)) rfl rfl ?_
              refine zp_call (pc := 132) (how := 0) (idx := 111) (mi := 16) (S := []) hx hb hE hw heff hrm (zX_rfd hW) rfl (j := 11) rfl rfl (by decide +kernel) (zd_X11_orders (132, .invokevirtual 111, 3, 0, []) (List.mem_of_getElem? (i := 66) rfl)) [(a : Int), (-3)] rfl ⟨zp_o2 yau31, zp_o0 (by decide) (by decide) (by decide) (by decide), trivial⟩ (Nat.le_of_ble_eq_true rfl) trivial (fun al hal rnf32 Pf32 Gf32 hextf32 hfrf32 hokf32 hcsf32 hpsif32 => ?_)
              obtain rfl := List.mem_singleton.mp hal
              have hrf32 := zp_int (hokf32 _ rfl).1
              have yaf32 := hextf32 _ _ yau31
              have yrdf32 := hextf32 _ _ yrdu31
              have ytpf32 := hextf32 _ _ ytpu31
              have yxtf32 := hextf32 _ _ yxtu31
              have ytnf32 := hextf32 _ _ ytnu31
              have ygof32 := hextf32 _ _ ygou31
              have ygbf32 := hextf32 _ _ ygbu31
              have yunf32 := hextf32 _ _ yunu31
              have yubf32 := hextf32 _ _ yubu31
              have hn9 : rnf32 = (-3) := hpsif32
              refine zp_iret (pc := 135) (n := rnf32) hx hb hE hQ hU5 rfl (by decide) (zd_X11_orders (135, .ireturn, 1, 0, []) (List.mem_of_getElem? (i := 67) rfl)) (j := 0) rfl (zp_o0 (by omega) (by omega) (by omega) (by omega)) ?_
              rw [hps]
              have ez0 : Gf32 tp 1 = 0 := ((zp_nf hfrf32 ytpu31 rfl).trans ((zp_set_ne (Or.inl (zp_pne ytpu31 yau31 (by decide)))).trans (((zp_nf hfru31 ytpg30 rfl).trans ((zp_nf hfrg30 ytpc28 rfl).trans ((zp_nf hfrc28 m3 rfl).trans e1))))))
              have ez1 : Gf32 rd 2 = (-1) := ((zp_nf hfrf32 yrdu31 rfl).trans ((zp_set_ne (Or.inl (zp_pne yrdu31 yau31 (by decide)))).trans (((zp_nf hfru31 yrdg30 rfl).trans ((zp_nf hfrg30 yrdc28 rfl).trans ((zp_nf hfrc28 m2 rfl).trans e2))))))
              exact ends _ _ _ ez0 ez1
      refine zp_drop (L' := [(2, 0, ((0 : Nat) : Int)), (1, 0, 1), (0, 2, (a : Int))]) (by simp) ?_
      exact loop 14 0 _ _ (by omega) (by omega) yau25 yrdu25 ytpu25 (((zp_set_ne (Or.inr (by decide))).trans ((zp_set_ne (Or.inr (by decide))).trans (((zp_nf hfru25 yag24 rfl).trans ((zp_nf hfrg24 yar rfl).trans ((zp_set_ne (Or.inr (by decide))).trans ((zp_set_ne (Or.inl (zp_pne yar ytpr (by decide)))).trans (((zp_nf hfrr hp rfl).trans hrd)))))))))) (((zp_set_ne (Or.inr (by decide))).trans ((zp_set_ne (Or.inr (by decide))).trans (((zp_nf hfru25 yag24 rfl).trans ((zp_nf hfrg24 yar rfl).trans ((zp_set_ne (Or.inr (by decide))).trans ((zp_set_ne (Or.inl (zp_pne yar ytpr (by decide)))).trans (((zp_nf hfrr hp rfl).trans htp)))))))))) (((zp_set_ne (Or.inl (zp_pne yrdu25 yau25 (by decide)))).trans ((zp_set_ne (Or.inl (zp_pne yrdu25 yau25 (by decide)))).trans (((zp_nf hfru25 yrdg24 rfl).trans ((zp_nf hfrg24 yrdr rfl).trans ((zp_set_ne (Or.inl (zp_pne yrdr yar (by decide)))).trans ((zp_set_ne (Or.inl (zp_pne yrdr ytpr (by decide)))).trans (hfr8))))))))) (((zp_set_ne (Or.inl (zp_pne ytpu25 yau25 (by decide)))).trans ((zp_set_ne (Or.inl (zp_pne ytpu25 yau25 (by decide)))).trans (((zp_nf hfru25 ytpg24 rfl).trans ((zp_nf hfrg24 ytpr rfl).trans ((zp_set_ne (Or.inl (zp_pne ytpr yar (by decide)))).trans (zp_set_self))))))))
    · exfalso
      omega
