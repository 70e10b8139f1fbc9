/-! part d7: the class: law -/
theorem zp_o2m {P : Nat → Option Nat} {t a : Nat} (h : P a = some t) : zk_ok P (2, t, -1, 0) (a : Int) := ⟨by show (-1 : Int) ≤ a; omega, by show (-1 : Int) ≤ a; omega, fun (h' : (0 : Int) < 0) => absurd h' (by decide), fun _ => by
  show P ((a : Int)).toNat = some t
  rw [Int.toNat_natCast]
  exact h⟩
def zK_clw : zk_K := (zt_mn 39, prog_1_method_14_code, 2, (Option.some Jvm.ClassFile.FieldType.int), 1, 11, [(2, 12, 0, 0)], [(some (0, 0, (-6), 5), [])], [(5, 4, 0), (7, 3, 0), (7, 5, 0), (7, 2, 0), (7, 4, 0), (35, 1001, 0), (8, 7, 0), (30, 1001, 0), (31, 1001, 0), (32, 1001, 0), (33, 1001, 0), (34, 1001, 0), (8, 6, 0), (5, 2, 0), (5, 3, 0), (7, 1, 0), (12, 18, 0), (57, 1002, 0), (52, 1001, 0), (10, 14, 0), (36, 1001, 0), (37, 1001, 0), (38, 1001, 0), (39, 1001, 0), (40, 1001, 0), (41, 1001, 0)], (51, 1170, 7, 940))
def zφ_clw (B : Nat → Int) (ln : Nat) : (Nat → Option Nat) → (Nat → Nat → Int) → List Int → Prop := fun _ G ps => G (G (zp_0 ps) 9).toNat 0 = G (zp_0 ps) 8 ∧ G (G (zp_0 ps) 8).toNat 1 = (ln : Int) ∧ (∀ j, zv G (G (zp_0 ps) 8).toNat 0 j = B j) ∧ ∀ j, j < ln → 0 ≤ B j ∧ B j ≤ 255
def zψ_clw (B : Nat → Int) (ln : Nat) : (Nat → Option Nat) → (Nat → Nat → Int) → List Int → (Nat → Option Nat) → (Nat → Nat → Int) → Int → Prop := fun P G ps P' G' rn => G' (G (zp_0 ps) 8).toNat 1 = 0 ∧ (6 ≤ G (G (zp_0 ps) 0).toNat 14 → rn = -5 ∧ G' (G (zp_0 ps) 0).toNat 14 = G (G (zp_0 ps) 0).toNat 14 ∧ G' (G (zp_0 ps) 9).toNat 2 = G (G (zp_0 ps) 9).toNat 2) ∧ (G (G (zp_0 ps) 0).toNat 14 < 6 → ∃ s, yT (zy_so B ln) (zy_wo B ln) (zy_to B ln) (yt_cl (zy_so B ln) (zy_wo B ln) (zy_to B ln) (ylf false B ln)) 12 0 0 s ∧ ((∃ q, s = Sum.inl q ∧ rn = -6 ∧ G' (G (zp_0 ps) 0).toNat 14 = G (G (zp_0 ps) 0).toNat 14 ∧ G' (G (zp_0 ps) 9).toNat 2 = (zy_fr B ln q : Int)) ∨ ∃ M : List yK, s = Sum.inr M ∧ rn = G (G (zp_0 ps) 0).toNat 14 ∧ G' (G (zp_0 ps) 0).toNat 14 = G (G (zp_0 ps) 0).toNat 14 + 1 ∧ G' (G (zp_0 ps) 9).toNat 2 = -1))
theorem zX_clw {l : Launch} {w : zk_W} (hW : zh_W w) (B : Nat → Int) (ln : Nat) : zk_metX l w zt_dv zt_TB zK_clw (zp_A (zφ_clw B ln)) (zp_B (zψ_clw B ln)) ∧ zk_cok w zt_TB zK_clw := by
  refine zp_methX (cn := "WoundTown") zp_lkallW hW (pl := 704) rfl (by decide +kernel) (fun p e R s m args below meth c Q u hx hb hE hQ hU5 heff hnL hok hφ => ?_)
  have hw := hW.1
  obtain ⟨p0, hps, k0⟩ := zp_ps1 hok
  refine zpn_of ?_
  obtain ⟨a, rfl, hp⟩ := zp_this k0
  have hrm : zk_Kr (zk_ev (zt_types, zp_lkW, zt_dv, [], [], zp_lcW, zK_clw)) = zk_Kr zK_clw := rfl
  rw [hps] at hφ ⊢
  show zp_Jn _ _ p l e R s m args below meth c Q w u [] 0 [(0, 2, (a : Int))] [] u.1 (zp_n u.2.1)
  refine zpn_kn (k := 0) (a := a) hw (show zp_fd 12 0 = some (11, 2, 10, 0, 0) from rfl) rfl hp (fun hktn => ?_)
  obtain ⟨tn, htn, qtn⟩ := zp_this hktn
  refine zpn_kn (k := 8) (a := a) hw (show zp_fd 12 8 = some (11, 2, 7, 0, 0) from rfl) rfl hp (fun hktp => ?_)
  obtain ⟨tp, htp, qtp⟩ := zp_this hktp
  refine zpn_kn (k := 9) (a := a) hw (show zp_fd 12 9 = some (11, 2, 5, 0, 0) from rfl) rfl hp (fun hkrd => ?_)
  obtain ⟨rd, hrd, qrd⟩ := zp_this hkrd
  refine zpn_kn (k := 1) (a := rd) hw (show zp_fd 5 1 = some (5, 2, 8, 0, 0) from rfl) rfl qrd (fun hkxt => ?_)
  obtain ⟨xt, hxt, qxt⟩ := zp_this hkxt
  refine zpn_kn (k := 5) (a := xt) hw (show zp_fd 8 5 = some (8, 2, 35, 0, 0) from rfl) rfl qxt (fun hkcd => ?_)
  obtain ⟨cd, hcd, qcd⟩ := zp_this hkcd
  refine zpn_kn (k := 0) (a := tp) hw (show zp_fd 7 0 = some (7, 2, 29, 0, 0) from rfl) rfl qtp (fun hkby_ => ?_)
  obtain ⟨by_, hby_, qby_⟩ := zp_this hkby_
  refine zpn_kn (k := 0) (a := xt) hw (show zp_fd 8 0 = some (8, 2, 30, 0, 0) from rfl) rfl qxt (fun hkb0 => ?_)
  obtain ⟨b0, hb0, qb0⟩ := zp_this hkb0
  refine zpn_kn (k := 1) (a := xt) hw (show zp_fd 8 1 = some (8, 2, 31, 0, 0) from rfl) rfl qxt (fun hkb1 => ?_)
  obtain ⟨b1, hb1, qb1⟩ := zp_this hkb1
  refine zpn_kn (k := 2) (a := xt) hw (show zp_fd 8 2 = some (8, 2, 32, 0, 0) from rfl) rfl qxt (fun hkb2 => ?_)
  obtain ⟨b2, hb2, qb2⟩ := zp_this hkb2
  refine zpn_kn (k := 3) (a := xt) hw (show zp_fd 8 3 = some (8, 2, 33, 0, 0) from rfl) rfl qxt (fun hkb3 => ?_)
  obtain ⟨b3, hb3, qb3⟩ := zp_this hkb3
  refine zpn_kn (k := 4) (a := xt) hw (show zp_fd 8 4 = some (8, 2, 34, 0, 0) from rfl) rfl qxt (fun hkb4 => ?_)
  obtain ⟨b4, hb4, qb4⟩ := zp_this hkb4
  refine zpn_kn (k := 14) (a := tn) hw (show zp_fd 10 14 = some (9, 0, 0, 0, 6) from rfl) rfl qtn (fun hklk => ?_)
  obtain ⟨lk, hlk⟩ := zp_nat (zp_int hklk).1
  have hlkb := zp_int hklk
  rw [hlk] at hlkb
  refine zpn_kn (k := 13) (a := tn) hw (show zp_fd 10 13 = some (9, 2, 52, 0, 0) from rfl) rfl qtn (fun hkla => ?_)
  obtain ⟨la, hla, qla⟩ := zp_this hkla
  refine zpn_kn (k := 1) (a := tp) hw (show zp_fd 7 1 = some (7, 0, 0, 0, 400) from rfl) rfl qtp (fun hkl9 => ?_)
  obtain ⟨l9, hl9⟩ := zp_nat (zp_int hkl9).1
  have hl9b := zp_int hkl9
  rw [hl9] at hl9b
  have hφ : zp_n u.2.1 (zp_n u.2.1 a 9).toNat 0 = zp_n u.2.1 a 8 ∧ zp_n u.2.1 (zp_n u.2.1 a 8).toNat 1 = (ln : Int) ∧ (∀ j, zv (zp_n u.2.1) (zp_n u.2.1 a 8).toNat 0 j = B j) ∧ ∀ j, j < ln → 0 ≤ B j ∧ B j ≤ 255 := hφ
  rw [hrd, htp, Int.toNat_natCast, Int.toNat_natCast] at hφ
  obtain ⟨hid, hln, hBB, hB255⟩ := hφ
  obtain rfl : l9 = ln := by omega
  have hB9 : ∀ j, zp_n u.2.1 by_ (2000 + j) = B j := fun j => by
    have := hBB j
    rw [zv_eq (a := tp) (k := 0) (b := by_) hby_] at this
    exact this
  have hln4 : l9 ≤ 400 := by omega
  obtain ⟨bb, hbb0⟩ : ∃ bb : Nat → Nat, bb = fun i => [b0, b1, b2, b3, b4].getD i 0 := ⟨_, rfl⟩
  have hbb : ∀ i : Nat, i < 5 → zp_n u.2.1 xt i = (bb i : Int) ∧ u.1 (bb i) = some (30 + i) := by
    intro i hi
    have hi5 : i = 0 ∨ i = 1 ∨ i = 2 ∨ i = 3 ∨ i = 4 := by omega
    rw [hbb0]
    rcases hi5 with rfl | rfl | rfl | rfl | rfl
    · exact ⟨hb0, qb0⟩
    · exact ⟨hb1, qb1⟩
    · exact ⟨hb2, qb2⟩
    · exact ⟨hb3, qb3⟩
    · exact ⟨hb4, qb4⟩
  have hta : (zp_n u.2.1 a 0).toNat = tn := by rw [htn, Int.toNat_natCast]
  have htr : (zp_n u.2.1 a 9).toNat = rd := by rw [hrd, Int.toNat_natCast]
  have htt : (zp_n u.2.1 a 8).toNat = tp := by rw [htp, Int.toNat_natCast]
  refine zpn_load (pc := 0) hx hb (zd_X11_law (0, .aload_n 0, 1, 0, []) (List.mem_of_getElem? (i := 0) rfl)) rfl (j := 0) rfl ?_
  refine zpn_getf (n := (tn : Int)) (pc := 1) hx hb hE hw (zd_X11_law (1, .getfield 10, 3, 0, []) (List.mem_of_getElem? (i := 1) rfl)) (j := 50) rfl rfl rfl hp htn ?_
  refine zpn_getf (n := (lk : Int)) (pc := 4) hx hb hE hw (zd_X11_law (4, .getfield 205, 3, 0, []) (List.mem_of_getElem? (i := 2) rfl)) (j := 20) rfl rfl rfl qtn hlk ?_
  refine zpn_const (pc := 7) hx hb (zd_X11_law (7, .bipush 6, 2, 0, []) (List.mem_of_getElem? (i := 3) rfl)) rfl rfl ?_
  refine zpn_icmp (pc := 9) (tgt := 27) hx hb (zd_X11_law (9, .if_icmp .lt 18, 3, 0, []) (List.mem_of_getElem? (i := 4) rfl)) rfl (fun (hc21 : (lk : Int) < 6) => ?_) (fun (hc21 : ¬ ((lk : Int) < 6)) => ?_)
  · refine zpn_load (pc := 27) hx hb (zd_X11_law (27, .aload_n 0, 1, 0, []) (List.mem_of_getElem? (i := 13) rfl)) rfl (j := 0) rfl ?_
    refine zpn_getf (n := (rd : Int)) (pc := 28) hx hb hE hw (zd_X11_law (28, .getfield 76, 3, 0, []) (List.mem_of_getElem? (i := 14) rfl)) (j := 59) rfl rfl rfl hp hrd ?_
    refine zpn_const (pc := 31) hx hb (zd_X11_law (31, .iconst 0, 1, 0, []) (List.mem_of_getElem? (i := 15) rfl)) rfl rfl ?_
    refine zpn_call (pc := 32) (how := 0) (idx := 208) (mi := 40) (S := []) hx hb hE hw heff hrm (zX_rdl hW tp xt by_ cd B l9 bb) rfl (j := 23) rfl rfl (by decide +kernel) (zd_X11_law (32, .invokevirtual 208, 3, 0, []) (List.mem_of_getElem? (i := 16) rfl)) [(rd : Int), 0] rfl ⟨zp_o2 qrd, zp_o0 (by decide) (by decide) (by decide) (by decide), trivial⟩ (Nat.le_of_ble_eq_true rfl) ⟨⟨⟨qrd, qtp, qxt, qby_, qcd⟩, hid, hxt, hcd⟩, ⟨⟨hby_, hl9, hln4, hB9⟩, hB255⟩, hbb, rfl⟩ (fun al hal rnr Pr Gr hextr hfrr hokr hcsr hpsir => ?_)
    obtain rfl := List.mem_singleton.mp hal
    have hrr := zp_int (hokr _ rfl).1
    have yar := hextr _ _ hp
    have ytnr := hextr _ _ qtn
    have ytpr := hextr _ _ qtp
    have yrdr := hextr _ _ qrd
    have yxtr := hextr _ _ qxt
    have ycdr := hextr _ _ qcd
    have yby_r := hextr _ _ qby_
    have yb0r := hextr _ _ qb0
    have yb1r := hextr _ _ qb1
    have yb2r := hextr _ _ qb2
    have yb3r := hextr _ _ qb3
    have yb4r := hextr _ _ qb4
    have ylar := hextr _ _ qla
    obtain ⟨hPr, sr, hsr, htr9⟩ := hpsir
    rcases htr9 with ⟨qr, rfl, hzr, hfr9⟩ | ⟨M, C9, sz9, rfl, hzr, hfr9, -⟩
    · subst hzr
      have hfr8 : Gr rd 2 = (zy_fr B l9 qr : Int) := hfr9
      refine zpn_store (L' := [(1, 0, 0), (0, 2, (a : Int))]) (pc := 35) hx hb hnL (zd_X11_law (35, .istore_n 1, 1, 0, []) (List.mem_of_getElem? (i := 17) rfl)) rfl rfl rfl ?_
      refine zpn_load (pc := 36) hx hb (zd_X11_law (36, .aload_n 0, 1, 0, []) (List.mem_of_getElem? (i := 18) rfl)) rfl (j := 1) rfl ?_
      refine zpn_getf (n := (tp : Int)) (pc := 37) hx hb hE hw (zd_X11_law (37, .getfield 67, 3, 0, []) (List.mem_of_getElem? (i := 19) rfl)) (j := 58) rfl rfl rfl yar ((zp_nf hfrr hp rfl).trans htp) ?_
      refine zpn_const (pc := 40) hx hb (zd_X11_law (40, .iconst 0, 1, 0, []) (List.mem_of_getElem? (i := 20) rfl)) rfl rfl ?_
      refine zpn_putf (pc := 41) hx hb hE hw heff (zd_X11_law (41, .putfield 193, 3, 0, []) (List.mem_of_getElem? (i := 21) rfl)) (j := 39) rfl rfl rfl ytpr (zp_o0 (by decide) (by decide) (by decide) (by decide)) ?_
      refine zpn_load (pc := 44) hx hb (zd_X11_law (44, .iload_n 1, 1, 0, []) (List.mem_of_getElem? (i := 22) rfl)) rfl (j := 0) rfl ?_
      refine zpn_if (pc := 45) (tgt := 55) hx hb (zd_X11_law (45, .ifCond .ne 10, 3, 0, []) (List.mem_of_getElem? (i := 23) rfl)) rfl (fun (hc22 : ¬ 0 = 0) => ?_) (fun (hc22 : ¬ (¬ 0 = 0)) => ?_)
      · exfalso
        omega
      · refine zpn_load (pc := 48) hx hb (zd_X11_law (48, .aload_n 0, 1, 0, []) (List.mem_of_getElem? (i := 24) rfl)) rfl (j := 1) rfl ?_
        refine zpn_const (pc := 49) hx hb (zd_X11_law (49, .bipush (-6), 2, 0, []) (List.mem_of_getElem? (i := 25) rfl)) rfl rfl ?_
        refine zpn_call (pc := 51) (how := 0) (idx := 111) (mi := 16) (S := []) hx hb hE hw heff hrm (zX_rfd hW) rfl (j := 11) rfl rfl (by decide +kernel) (zd_X11_law (51, .invokevirtual 111, 3, 0, []) (List.mem_of_getElem? (i := 26) rfl)) [(a : Int), (-6)] rfl ⟨zp_o2 yar, zp_o0 (by decide) (by decide) (by decide) (by decide), trivial⟩ (Nat.le_of_ble_eq_true rfl) trivial (fun al hal rnf Pf Gf hextf hfrf hokf hcsf hpsif => ?_)
        obtain rfl := List.mem_singleton.mp hal
        have hrf := zp_int (hokf _ rfl).1
        have yaf := hextf _ _ yar
        have ytnf := hextf _ _ ytnr
        have ytpf := hextf _ _ ytpr
        have yrdf := hextf _ _ yrdr
        have yxtf := hextf _ _ yxtr
        have ycdf := hextf _ _ ycdr
        have yby_f := hextf _ _ yby_r
        have yb0f := hextf _ _ yb0r
        have yb1f := hextf _ _ yb1r
        have yb2f := hextf _ _ yb2r
        have yb3f := hextf _ _ yb3r
        have yb4f := hextf _ _ yb4r
        have ylaf := hextf _ _ ylar
        have hnf9 : rnf = (-6) := hpsif
        refine zpn_iret (pc := 54) (n := rnf) hx hb hE hQ hU5 rfl (by decide) (zd_X11_law (54, .ireturn, 1, 0, []) (List.mem_of_getElem? (i := 27) rfl)) (j := 0) rfl (zp_o0 (by omega) (by omega) (by omega) (by omega)) (by decide +kernel) (by decide +kernel) ?_
        rw [hps]
        have ez0 : Gf tp 1 = 0 := ((zp_nf hfrf ytpr rfl).trans zp_set_self)
        have ez1 : Gf tn 14 = (lk : Int) := ((zp_nf hfrf ytnr rfl).trans ((zp_set_ne (Or.inl (zp_pne ytnr ytpr (by decide)))).trans (((zp_nf hfrr qtn rfl).trans hlk))))
        have ez2 : Gf rd 2 = (zy_fr B l9 qr : Int) := ((zp_nf hfrf yrdr rfl).trans ((zp_set_ne (Or.inl (zp_pne yrdr ytpr (by decide)))).trans (hfr8)))
        show Gf (zp_n u.2.1 a 8).toNat 1 = 0 ∧ (6 ≤ zp_n u.2.1 (zp_n u.2.1 a 0).toNat 14 → rnf = -5 ∧ Gf (zp_n u.2.1 a 0).toNat 14 = zp_n u.2.1 (zp_n u.2.1 a 0).toNat 14 ∧ Gf (zp_n u.2.1 a 9).toNat 2 = zp_n u.2.1 (zp_n u.2.1 a 9).toNat 2) ∧ (zp_n u.2.1 (zp_n u.2.1 a 0).toNat 14 < 6 → ∃ s, yT (zy_so B l9) (zy_wo B l9) (zy_to B l9) (yt_cl (zy_so B l9) (zy_wo B l9) (zy_to B l9) (ylf false B l9)) 12 0 0 s ∧ ((∃ q, s = Sum.inl q ∧ rnf = -6 ∧ Gf (zp_n u.2.1 a 0).toNat 14 = zp_n u.2.1 (zp_n u.2.1 a 0).toNat 14 ∧ Gf (zp_n u.2.1 a 9).toNat 2 = (zy_fr B l9 q : Int)) ∨ ∃ M : List yK, s = Sum.inr M ∧ rnf = zp_n u.2.1 (zp_n u.2.1 a 0).toNat 14 ∧ Gf (zp_n u.2.1 a 0).toNat 14 = zp_n u.2.1 (zp_n u.2.1 a 0).toNat 14 + 1 ∧ Gf (zp_n u.2.1 a 9).toNat 2 = -1))
        rw [hta, htt, htr, hlk]
        have hn6 : rnf = -6 := hpsif
        exact ⟨ez0, fun z => by omega, fun _ => ⟨Sum.inl qr, hsr, Or.inl ⟨qr, rfl, hn6, by omega, ez2⟩⟩⟩
    · subst hzr
      have hfr8 : Gr rd 2 = -1 := hfr9
      refine zpn_store (L' := [(1, 0, 1), (0, 2, (a : Int))]) (pc := 35) hx hb hnL (zd_X11_law (35, .istore_n 1, 1, 0, []) (List.mem_of_getElem? (i := 17) rfl)) rfl rfl rfl ?_
      refine zpn_load (pc := 36) hx hb (zd_X11_law (36, .aload_n 0, 1, 0, []) (List.mem_of_getElem? (i := 18) rfl)) rfl (j := 1) rfl ?_
      refine zpn_getf (n := (tp : Int)) (pc := 37) hx hb hE hw (zd_X11_law (37, .getfield 67, 3, 0, []) (List.mem_of_getElem? (i := 19) rfl)) (j := 58) rfl rfl rfl yar ((zp_nf hfrr hp rfl).trans htp) ?_
      refine zpn_const (pc := 40) hx hb (zd_X11_law (40, .iconst 0, 1, 0, []) (List.mem_of_getElem? (i := 20) rfl)) rfl rfl ?_
      refine zpn_putf (pc := 41) hx hb hE hw heff (zd_X11_law (41, .putfield 193, 3, 0, []) (List.mem_of_getElem? (i := 21) rfl)) (j := 39) rfl rfl rfl ytpr (zp_o0 (by decide) (by decide) (by decide) (by decide)) ?_
      refine zpn_load (pc := 44) hx hb (zd_X11_law (44, .iload_n 1, 1, 0, []) (List.mem_of_getElem? (i := 22) rfl)) rfl (j := 0) rfl ?_
      refine zpn_if (pc := 45) (tgt := 55) hx hb (zd_X11_law (45, .ifCond .ne 10, 3, 0, []) (List.mem_of_getElem? (i := 23) rfl)) rfl (fun (hc23 : ¬ 1 = 0) => ?_) (fun (hc23 : ¬ (¬ 1 = 0)) => ?_)
      · refine zpn_load (pc := 55) hx hb (zd_X11_law (55, .aload_n 0, 1, 0, []) (List.mem_of_getElem? (i := 28) rfl)) rfl (j := 1) rfl ?_
        refine zpn_getf (n := (tn : Int)) (pc := 56) hx hb hE hw (zd_X11_law (56, .getfield 10, 3, 0, []) (List.mem_of_getElem? (i := 29) rfl)) (j := 50) rfl rfl rfl yar ((zp_set_ne (Or.inl (zp_pne yar ytpr (by decide)))).trans (((zp_nf hfrr hp rfl).trans htn))) ?_
        refine zpn_getf (n := (la : Int)) (pc := 59) hx hb hE hw (zd_X11_law (59, .getfield 212, 3, 0, []) (List.mem_of_getElem? (i := 30) rfl)) (j := 19) rfl rfl rfl ytnr ((zp_set_ne (Or.inl (zp_pne ytnr ytpr (by decide)))).trans (((zp_nf hfrr qtn rfl).trans hla))) ?_
        refine zpn_load (pc := 62) hx hb (zd_X11_law (62, .aload_n 0, 1, 0, []) (List.mem_of_getElem? (i := 31) rfl)) rfl (j := 1) rfl ?_
        refine zpn_getf (n := (tn : Int)) (pc := 63) hx hb hE hw (zd_X11_law (63, .getfield 10, 3, 0, []) (List.mem_of_getElem? (i := 32) rfl)) (j := 50) rfl rfl rfl yar ((zp_set_ne (Or.inl (zp_pne yar ytpr (by decide)))).trans (((zp_nf hfrr hp rfl).trans htn))) ?_
        refine zpn_getf (n := (lk : Int)) (pc := 66) hx hb hE hw (zd_X11_law (66, .getfield 205, 3, 0, []) (List.mem_of_getElem? (i := 33) rfl)) (j := 20) rfl rfl rfl ytnr ((zp_set_ne (Or.inl (zp_pne ytnr ytpr (by decide)))).trans (((zp_nf hfrr qtn rfl).trans hlk))) ?_
        refine zpn_load (pc := 69) hx hb (zd_X11_law (69, .aload_n 0, 1, 0, []) (List.mem_of_getElem? (i := 34) rfl)) rfl (j := 1) rfl ?_
        refine zpn_getf (n := (rd : Int)) (pc := 70) hx hb hE hw (zd_X11_law (70, .getfield 76, 3, 0, []) (List.mem_of_getElem? (i := 35) rfl)) (j := 59) rfl rfl rfl yar ((zp_set_ne (Or.inl (zp_pne yar ytpr (by decide)))).trans (((zp_nf hfrr hp rfl).trans hrd))) ?_
        refine zpn_getf (n := (xt : Int)) (pc := 73) hx hb hE hw (zd_X11_law (73, .getfield 216, 3, 0, []) (List.mem_of_getElem? (i := 36) rfl)) (j := 47) rfl rfl rfl yrdr ((zp_set_ne (Or.inl (zp_pne yrdr ytpr (by decide)))).trans (((zp_nf hfrr qrd rfl).trans hxt))) ?_
        refine zpn_call (pc := 76) (how := 0) (idx := 220) (mi := 78) (S := [(0, (lk : Int)), (2, (la : Int))]) hx hb hE hw heff hrm (zp_plain (zq_159 hW)) rfl (j := 24) rfl rfl (by decide +kernel) (zd_X11_law (76, .invokevirtual 220, 3, 0, []) (List.mem_of_getElem? (i := 37) rfl)) [(xt : Int)] rfl ⟨zp_o2 yxtr, trivial⟩ (Nat.le_of_ble_eq_true rfl) trivial (fun al hal rny Py Gy hexty hfry hoky hcsy hpsiy => ?_)
        obtain rfl := List.mem_singleton.mp hal
        have yay := hexty _ _ yar
        have ytny := hexty _ _ ytnr
        have ytpy := hexty _ _ ytpr
        have yrdy := hexty _ _ yrdr
        have yxty := hexty _ _ yxtr
        have ycdy := hexty _ _ ycdr
        have yby_y := hexty _ _ yby_r
        have yb0y := hexty _ _ yb0r
        have yb1y := hexty _ _ yb1r
        have yb2y := hexty _ _ yb2r
        have yb3y := hexty _ _ yb3r
        have yb4y := hexty _ _ yb4r
        have ylay := hexty _ _ ylar
        obtain ⟨cp, hcp, qcp⟩ := zp_this (hoky _ rfl).1
        subst hcp
        refine zpn_aast (j := lk) (pc := 79) hx hb hE hw heff (zd_X11_law (79, .aastore, 1, 0, []) (List.mem_of_getElem? (i := 38) rfl)) (lo := (-1)) (hi := 0) rfl rfl rfl rfl rfl ylay qcp (zp_o2m qcp) (by omega) (show lk < 6 by omega) (by omega) ⟨by decide, by decide⟩ rfl ?_
        refine zpn_load (pc := 80) hx hb (zd_X11_law (80, .aload_n 0, 1, 0, []) (List.mem_of_getElem? (i := 39) rfl)) rfl (j := 1) rfl ?_
        refine zpn_getf (n := (tn : Int)) (pc := 81) hx hb hE hw (zd_X11_law (81, .getfield 10, 3, 0, []) (List.mem_of_getElem? (i := 40) rfl)) (j := 50) rfl rfl rfl yay ((zp_set_ne (Or.inl (zp_pne yay ylay (by decide)))).trans (((zp_nf hfry yar rfl).trans ((zp_set_ne (Or.inl (zp_pne yar ytpr (by decide)))).trans (((zp_nf hfrr hp rfl).trans htn)))))) ?_
        refine zpn_dup (pc := 84) hx hb (zd_X11_law (84, .dup, 1, 0, []) (List.mem_of_getElem? (i := 41) rfl)) (show (2 : Nat) ≠ 1 by decide) ?_
        refine zpn_getf (n := (lk : Int)) (pc := 85) hx hb hE hw (zd_X11_law (85, .getfield 205, 3, 0, []) (List.mem_of_getElem? (i := 42) rfl)) (j := 20) rfl rfl rfl ytny ((zp_set_ne (Or.inl (zp_pne ytny ylay (by decide)))).trans (((zp_nf hfry ytnr rfl).trans ((zp_set_ne (Or.inl (zp_pne ytnr ytpr (by decide)))).trans (((zp_nf hfrr qtn rfl).trans hlk)))))) ?_
        refine zpn_const (pc := 88) hx hb (zd_X11_law (88, .iconst 1, 1, 0, []) (List.mem_of_getElem? (i := 43) rfl)) rfl rfl ?_
        refine zpn_add (n := ((lk : Int) + 1)) (pc := 89) hx hb (zd_X11_law (89, .iadd, 1, 0, []) (List.mem_of_getElem? (i := 44) rfl)) (by omega) (zp_r0 (by omega) (by omega)) ?_
        refine zpn_putf (pc := 90) hx hb hE hw heff (zd_X11_law (90, .putfield 205, 3, 0, []) (List.mem_of_getElem? (i := 45) rfl)) (j := 20) rfl rfl rfl ytny (zp_o0 (by omega) (by omega) (by omega) (by omega)) ?_
        refine zpn_load (pc := 93) hx hb (zd_X11_law (93, .aload_n 0, 1, 0, []) (List.mem_of_getElem? (i := 46) rfl)) rfl (j := 1) rfl ?_
        refine zpn_load (pc := 94) hx hb (zd_X11_law (94, .aload_n 0, 1, 0, []) (List.mem_of_getElem? (i := 47) rfl)) rfl (j := 1) rfl ?_
        refine zpn_getf (n := (tn : Int)) (pc := 95) hx hb hE hw (zd_X11_law (95, .getfield 10, 3, 0, []) (List.mem_of_getElem? (i := 48) rfl)) (j := 50) rfl rfl rfl yay ((zp_set_ne (Or.inl (zp_pne yay ytny (by decide)))).trans ((zp_set_ne (Or.inl (zp_pne yay ylay (by decide)))).trans (((zp_nf hfry yar rfl).trans ((zp_set_ne (Or.inl (zp_pne yar ytpr (by decide)))).trans (((zp_nf hfrr hp rfl).trans htn))))))) ?_
        refine zpn_getf (n := ((lk : Int) + 1)) (pc := 98) hx hb hE hw (zd_X11_law (98, .getfield 205, 3, 0, []) (List.mem_of_getElem? (i := 49) rfl)) (j := 20) rfl rfl rfl ytny zp_set_self ?_
        refine zpn_const (pc := 101) hx hb (zd_X11_law (101, .iconst 1, 1, 0, []) (List.mem_of_getElem? (i := 50) rfl)) rfl rfl ?_
        refine zpn_sub (n := (lk : Int)) (pc := 102) hx hb (zd_X11_law (102, .isub, 1, 0, []) (List.mem_of_getElem? (i := 51) rfl)) (by omega) (zp_r0 (by omega) (by omega)) ?_
        refine zpn_call (pc := 103) (how := 0) (idx := 118) (mi := 17) (S := []) hx hb hE hw heff hrm (zX_awd hW) rfl (j := 12) rfl rfl (by decide +kernel) (zd_X11_law (103, .invokevirtual 118, 3, 0, []) (List.mem_of_getElem? (i := 52) rfl)) [(a : Int), (lk : Int)] rfl ⟨zp_o2 yay, zp_o0 (by omega) (by omega) (by omega) (by omega), trivial⟩ (Nat.le_of_ble_eq_true rfl) trivial (fun al hal rnz Pz Gz hextz hfrz hokz hcsz hpsiz => ?_)
        obtain rfl := List.mem_singleton.mp hal
        have hrz := zp_int (hokz _ rfl).1
        have yaz := hextz _ _ yay
        have ytnz := hextz _ _ ytny
        have ytpz := hextz _ _ ytpy
        have yrdz := hextz _ _ yrdy
        have yxtz := hextz _ _ yxty
        have ycdz := hextz _ _ ycdy
        have yby_z := hextz _ _ yby_y
        have yb0z := hextz _ _ yb0y
        have yb1z := hextz _ _ yb1y
        have yb2z := hextz _ _ yb2y
        have yb3z := hextz _ _ yb3y
        have yb4z := hextz _ _ yb4y
        have ylaz := hextz _ _ ylay
        have ycpz := hextz _ _ qcp
        have hnz9 : rnz = (lk : Int) := hpsiz
        refine zpn_iret (pc := 106) (n := rnz) hx hb hE hQ hU5 rfl (by decide) (zd_X11_law (106, .ireturn, 1, 0, []) (List.mem_of_getElem? (i := 53) rfl)) (j := 0) rfl (zp_o0 (by omega) (by omega) (by omega) (by omega)) (by decide +kernel) (by decide +kernel) ?_
        rw [hps]
        have ez0 : Gz tp 1 = 0 := ((zp_nf hfrz ytpy rfl).trans ((zp_set_ne (Or.inl (zp_pne ytpy ytny (by decide)))).trans ((zp_set_ne (Or.inl (zp_pne ytpy ylay (by decide)))).trans (((zp_nf hfry ytpr rfl).trans zp_set_self)))))
        have ez1 : Gz tn 14 = ((lk : Int) + 1) := ((zp_nf hfrz ytny rfl).trans zp_set_self)
        have ez2 : Gz rd 2 = (-1) := ((zp_nf hfrz yrdy rfl).trans ((zp_set_ne (Or.inl (zp_pne yrdy ytny (by decide)))).trans ((zp_set_ne (Or.inl (zp_pne yrdy ylay (by decide)))).trans (((zp_nf hfry yrdr rfl).trans ((zp_set_ne (Or.inl (zp_pne yrdr ytpr (by decide)))).trans (hfr8)))))))
        show Gz (zp_n u.2.1 a 8).toNat 1 = 0 ∧ (6 ≤ zp_n u.2.1 (zp_n u.2.1 a 0).toNat 14 → rnz = -5 ∧ Gz (zp_n u.2.1 a 0).toNat 14 = zp_n u.2.1 (zp_n u.2.1 a 0).toNat 14 ∧ Gz (zp_n u.2.1 a 9).toNat 2 = zp_n u.2.1 (zp_n u.2.1 a 9).toNat 2) ∧ (zp_n u.2.1 (zp_n u.2.1 a 0).toNat 14 < 6 → ∃ s, yT (zy_so B l9) (zy_wo B l9) (zy_to B l9) (yt_cl (zy_so B l9) (zy_wo B l9) (zy_to B l9) (ylf false B l9)) 12 0 0 s ∧ ((∃ q, s = Sum.inl q ∧ rnz = -6 ∧ Gz (zp_n u.2.1 a 0).toNat 14 = zp_n u.2.1 (zp_n u.2.1 a 0).toNat 14 ∧ Gz (zp_n u.2.1 a 9).toNat 2 = (zy_fr B l9 q : Int)) ∨ ∃ M : List yK, s = Sum.inr M ∧ rnz = zp_n u.2.1 (zp_n u.2.1 a 0).toNat 14 ∧ Gz (zp_n u.2.1 a 0).toNat 14 = zp_n u.2.1 (zp_n u.2.1 a 0).toNat 14 + 1 ∧ Gz (zp_n u.2.1 a 9).toNat 2 = -1))
        rw [hta, htt, htr, hlk]
        have hn9 : rnz = (lk : Int) := hpsiz
        exact ⟨ez0, fun z => by omega, fun _ => ⟨Sum.inr M, hsr, Or.inr ⟨M, rfl, by omega, by omega, ez2⟩⟩⟩
      · exfalso
        omega
  · refine zpn_load (pc := 12) hx hb (zd_X11_law (12, .aload_n 0, 1, 0, []) (List.mem_of_getElem? (i := 5) rfl)) rfl (j := 0) rfl ?_
    refine zpn_getf (n := (tp : Int)) (pc := 13) hx hb hE hw (zd_X11_law (13, .getfield 67, 3, 0, []) (List.mem_of_getElem? (i := 6) rfl)) (j := 58) rfl rfl rfl hp htp ?_
    refine zpn_const (pc := 16) hx hb (zd_X11_law (16, .iconst 0, 1, 0, []) (List.mem_of_getElem? (i := 7) rfl)) rfl rfl ?_
    refine zpn_putf (pc := 17) hx hb hE hw heff (zd_X11_law (17, .putfield 193, 3, 0, []) (List.mem_of_getElem? (i := 8) rfl)) (j := 39) rfl rfl rfl qtp (zp_o0 (by decide) (by decide) (by decide) (by decide)) ?_
    refine zpn_load (pc := 20) hx hb (zd_X11_law (20, .aload_n 0, 1, 0, []) (List.mem_of_getElem? (i := 9) rfl)) rfl (j := 0) rfl ?_
    refine zpn_const (pc := 21) hx hb (zd_X11_law (21, .bipush (-5), 2, 0, []) (List.mem_of_getElem? (i := 10) rfl)) rfl rfl ?_
    refine zpn_call (pc := 23) (how := 0) (idx := 111) (mi := 16) (S := []) hx hb hE hw heff hrm (zX_rfd hW) rfl (j := 11) rfl rfl (by decide +kernel) (zd_X11_law (23, .invokevirtual 111, 3, 0, []) (List.mem_of_getElem? (i := 11) rfl)) [(a : Int), (-5)] rfl ⟨zp_o2 hp, zp_o0 (by decide) (by decide) (by decide) (by decide), trivial⟩ (Nat.le_of_ble_eq_true rfl) trivial (fun al hal rnf Pf Gf hextf hfrf hokf hcsf hpsif => ?_)
    obtain rfl := List.mem_singleton.mp hal
    have hrf := zp_int (hokf _ rfl).1
    have yaf := hextf _ _ hp
    have ytnf := hextf _ _ qtn
    have ytpf := hextf _ _ qtp
    have yrdf := hextf _ _ qrd
    have yxtf := hextf _ _ qxt
    have ycdf := hextf _ _ qcd
    have yby_f := hextf _ _ qby_
    have yb0f := hextf _ _ qb0
    have yb1f := hextf _ _ qb1
    have yb2f := hextf _ _ qb2
    have yb3f := hextf _ _ qb3
    have yb4f := hextf _ _ qb4
    have ylaf := hextf _ _ qla
    have hnf9 : rnf = (-5) := hpsif
    refine zpn_iret (pc := 26) (n := rnf) hx hb hE hQ hU5 rfl (by decide) (zd_X11_law (26, .ireturn, 1, 0, []) (List.mem_of_getElem? (i := 12) rfl)) (j := 0) rfl (zp_o0 (by omega) (by omega) (by omega) (by omega)) (by decide +kernel) (by decide +kernel) ?_
    rw [hps]
    have ez0 : Gf tp 1 = 0 := ((zp_nf hfrf qtp rfl).trans zp_set_self)
    have ez1 : Gf tn 14 = (lk : Int) := ((zp_nf hfrf qtn rfl).trans ((zp_set_ne (Or.inl (zp_pne qtn qtp (by decide)))).trans (hlk)))
    have ez2 : Gf rd 2 = ((zp_n u.2.1) rd 2) := ((zp_nf hfrf qrd rfl).trans ((zp_set_ne (Or.inl (zp_pne qrd qtp (by decide))))))
    show Gf (zp_n u.2.1 a 8).toNat 1 = 0 ∧ (6 ≤ zp_n u.2.1 (zp_n u.2.1 a 0).toNat 14 → rnf = -5 ∧ Gf (zp_n u.2.1 a 0).toNat 14 = zp_n u.2.1 (zp_n u.2.1 a 0).toNat 14 ∧ Gf (zp_n u.2.1 a 9).toNat 2 = zp_n u.2.1 (zp_n u.2.1 a 9).toNat 2) ∧ (zp_n u.2.1 (zp_n u.2.1 a 0).toNat 14 < 6 → ∃ s, yT (zy_so B l9) (zy_wo B l9) (zy_to B l9) (yt_cl (zy_so B l9) (zy_wo B l9) (zy_to B l9) (ylf false B l9)) 12 0 0 s ∧ ((∃ q, s = Sum.inl q ∧ rnf = -6 ∧ Gf (zp_n u.2.1 a 0).toNat 14 = zp_n u.2.1 (zp_n u.2.1 a 0).toNat 14 ∧ Gf (zp_n u.2.1 a 9).toNat 2 = (zy_fr B l9 q : Int)) ∨ ∃ M : List yK, s = Sum.inr M ∧ rnf = zp_n u.2.1 (zp_n u.2.1 a 0).toNat 14 ∧ Gf (zp_n u.2.1 a 0).toNat 14 = zp_n u.2.1 (zp_n u.2.1 a 0).toNat 14 + 1 ∧ Gf (zp_n u.2.1 a 9).toNat 2 = -1))
    rw [hta, htt, htr, hlk]
    have hn5 : rnf = -5 := hpsif
    exact ⟨ez0, fun _ => ⟨hn5, by omega, ez2⟩, fun z => by omega⟩
