/-! part 8aze: the reference: decade -/
def zK_mdc : zk_K := (zt_mn 294, prog_14_method_117_code, 6, (Option.some Jvm.ClassFile.FieldType.int), 1, 12, [(2, 13, 0, 0), (0, 0, (-2147483648), 2147483647), (0, 0, (-2147483648), 2147483647)], [(some (0, 0, (-1), 1000), [])], [(13, 0, 0), (13, 1, 0), (58, 1001, 0), (62, 1001, 0), (13, 61, 0), (13, 63, 0), (91, 1001, 0), (81, 1002, 0), (82, 1002, 0), (78, 1002, 0), (75, 1002, 0), (13, 34, 0), (13, 40, 0), (13, 38, 0), (13, 39, 0), (77, 1001, 0), (79, 1002, 0), (83, 1002, 0), (80, 1002, 0), (80, 1001, 0), (59, 4318, 0)], (24, 1101, 0, 0))
def zψ_mdc : (Nat → Option Nat) → (Nat → Nat → Int) → List Int → (Nat → Option Nat) → (Nat → Nat → Int) → Int → Prop := fun P G ps P' G' rn => True
set_option maxHeartbeats 4000000 in
theorem zX_mdc {l : Launch} {w : zk_W} (hW : zh_W w) : zk_metX l w zt_dv zt_TB zK_mdc (zp_A zp_tA) (zp_B zψ_mdc) ∧ zk_cok w zt_TB zK_mdc := by
  refine zp_methX (cn := "WoundTownModel") zp_lkall hW (pl := 2037) rfl (by decide +kernel) (fun p e R s m args below meth c Q u hx hb hE hQ hU5 heff hnL hok hφ => ?_)
  have hw := hW.1
  obtain ⟨p0, p1, p2, hps, k0, k1, k2⟩ := zp_ps3 hok
  obtain ⟨a, rfl, hp⟩ := zp_this k0
  have hrm : zk_Kr (zk_ev (zt_types, zp_lk, zt_dv, [], [], zp_lc, zK_mdc)) = zk_Kr zK_mdc := rfl
  rw [hps] at hφ ⊢
  have hi1 := zp_int k1
  have hi2 := zp_int k2
  show zp_J p l e R s m args below meth c Q w u [] 0 [(0, 2, (a : Int)), (1, 0, p1), (2, 0, p2)] [] u.1 (zp_n u.2.1)
  refine zp_kn (k := 3) (a := a) hw (show zp_fd 13 3 = some (12, 2, 59, 0, 0) from rfl) rfl hp (fun hkrw_ => ?_)
  obtain ⟨rw_, hrw_, qrw_⟩ := zp_this hkrw_
  refine zp_kn (k := 62) (a := a) hw (show zp_fd 13 62 = some (12, 2, 91, 0, 0) from rfl) rfl hp (fun hkdw_ => ?_)
  obtain ⟨dw_, hdw_, qdw_⟩ := zp_this hkdw_
  have h193 : ∀ (m0 k : Nat) (v3 v4 : Int) (P : Nat → Option Nat) (G : Nat → Nat → Int), 11 - k < m0 → k ≤ 10 → 0 ≤ v3 → v3 ≤ 600 → -2147483648 ≤ v4 → v4 ≤ 2147483647 → P a = some 13 → P rw_ = some 59 → P dw_ = some 91 → G a 3 = (rw_ : Int) → G a 62 = (dw_ : Int) → zp_J p l e R s m args below meth c Q w u [] 193 [(5, 0, (k : Int)), (4, 0, v4), (3, 0, v3), (0, 2, (a : Int)), (1, 0, p1), (2, 0, p2)] [] P G := by
    intro m0
    induction m0 with
    | zero => intro k v3 v4 P G h; exact absurd h (Nat.not_lt_zero _)
    | succ m0 ih =>
      intro k v3 v4 P G hm hk h30 h31 h40 h41 m1 m2 m3 e3 e62
      refine zp_kn (k := 63) (a := a) hw (show zp_fd 13 63 = some (12, 0, 0, (-1), 10) from rfl) rfl m1 (fun hknd => ?_)
      obtain ⟨nd, hnd⟩ : ∃ z0 : Int, G a 63 = z0 := ⟨_, rfl⟩
      have hndb := zp_int hknd
      rw [hnd] at hndb
      refine zp_load (pc := 193) hx hb (zd_X12_decade (193, .iload 5, 2, 0, []) (List.mem_of_getElem? (i := 110) rfl)) rfl (j := 0) rfl ?_
      refine zp_load (pc := 195) hx hb (zd_X12_decade (195, .aload_n 0, 1, 0, []) (List.mem_of_getElem? (i := 111) rfl)) rfl (j := 3) rfl ?_
      refine zp_getf (n := nd) (pc := 196) hx hb hE hw (zd_X12_decade (196, .getfield 158, 3, 0, []) (List.mem_of_getElem? (i := 112) rfl)) (j := 81) rfl rfl rfl m1 hnd ?_
      refine zp_icmp (pc := 199) (tgt := 227) hx hb (zd_X12_decade (199, .if_icmp .ge 28, 3, 0, []) (List.mem_of_getElem? (i := 113) rfl)) rfl (fun (hc21 : nd ≤ (k : Int)) => ?_) (fun (hc21 : ¬ (nd ≤ (k : Int))) => ?_)
      · refine zp_load (pc := 227) hx hb (zd_X12_decade (227, .aload_n 0, 1, 0, []) (List.mem_of_getElem? (i := 128) rfl)) rfl (j := 3) rfl ?_
        refine zp_const (pc := 228) hx hb (zd_X12_decade (228, .bipush 16, 2, 0, []) (List.mem_of_getElem? (i := 129) rfl)) rfl rfl ?_
        refine zp_call (pc := 230) (how := 0) (idx := 178) (mi := 184) (S := []) hx hb hE hw heff hrm (zp_plain (zq_1001 hW)) rfl (j := 1) rfl rfl (by decide +kernel) (zd_X12_decade (230, .invokevirtual 178, 3, 0, []) (List.mem_of_getElem? (i := 130) rfl)) [(a : Int), 16] rfl ⟨zp_o2 m1, zp_o0 (by decide) (by decide) (by decide) (by decide), trivial⟩ (Nat.le_of_ble_eq_true rfl) trivial (fun al hal rnb1 Pb1 Gb1 hextb1 hfrb1 hokb1 hcsb1 hpsib1 => ?_)
        obtain rfl := List.mem_singleton.mp hal
        have yab1 := hextb1 _ _ m1
        have yrw_b1 := hextb1 _ _ m2
        have ydw_b1 := hextb1 _ _ m3
        refine zp_load (pc := 233) hx hb (zd_X12_decade (233, .aload_n 0, 1, 0, []) (List.mem_of_getElem? (i := 131) rfl)) rfl (j := 3) rfl ?_
        refine zp_load (pc := 234) hx hb (zd_X12_decade (234, .iload_n 3, 1, 0, []) (List.mem_of_getElem? (i := 132) rfl)) rfl (j := 2) rfl ?_
        refine zp_call (pc := 235) (how := 0) (idx := 170) (mi := 183) (S := []) hx hb hE hw heff hrm (zX_te13 hW) rfl (j := 0) rfl rfl (by decide +kernel) (zd_X12_decade (235, .invokevirtual 170, 3, 0, []) (List.mem_of_getElem? (i := 133) rfl)) [(a : Int), v3] rfl ⟨zp_o2 yab1, zp_o0 (by omega) (by omega) (by omega) (by omega), trivial⟩ (Nat.le_of_ble_eq_true rfl) trivial (fun al hal rnr2 Pr2 Gr2 hextr2 hfrr2 hokr2 hcsr2 hpsir2 => ?_)
        obtain rfl := List.mem_singleton.mp hal
        have hrr2 := zp_int (hokr2 _ rfl).1
        have yar2 := hextr2 _ _ yab1
        have yrw_r2 := hextr2 _ _ yrw_b1
        have ydw_r2 := hextr2 _ _ ydw_b1
        have htr2 : rnr2 = v3 := hpsir2.2
        refine zp_iret (pc := 238) (n := rnr2) hx hb hE hQ hU5 rfl (by decide) (zd_X12_decade (238, .ireturn, 1, 0, []) (List.mem_of_getElem? (i := 134) rfl)) (j := 0) rfl (zp_o0 (by omega) (by omega) (by omega) (by omega)) ?_
        rw [hps]
        exact trivial
      · refine zp_load (pc := 202) hx hb (zd_X12_decade (202, .aload_n 0, 1, 0, []) (List.mem_of_getElem? (i := 114) rfl)) rfl (j := 3) rfl ?_
        refine zp_getf (n := (dw_ : Int)) (pc := 203) hx hb hE hw (zd_X12_decade (203, .getfield 155, 3, 0, []) (List.mem_of_getElem? (i := 115) rfl)) (j := 80) rfl rfl rfl m1 e62 ?_
        refine zp_const (pc := 206) hx hb (zd_X12_decade (206, .iconst 4, 1, 0, []) (List.mem_of_getElem? (i := 116) rfl)) rfl rfl ?_
        refine zp_load (pc := 207) hx hb (zd_X12_decade (207, .iload 5, 2, 0, []) (List.mem_of_getElem? (i := 117) rfl)) rfl (j := 0) rfl ?_
        refine zp_add (n := ((k : Int) + 4)) (pc := 209) hx hb (zd_X12_decade (209, .iadd, 1, 0, []) (List.mem_of_getElem? (i := 118) rfl)) (by omega) (zp_r0 (by omega) (by omega)) ?_
        refine zp_load (pc := 210) hx hb (zd_X12_decade (210, .aload_n 0, 1, 0, []) (List.mem_of_getElem? (i := 119) rfl)) rfl (j := 3) rfl ?_
        refine zp_getf (n := (rw_ : Int)) (pc := 211) hx hb hE hw (zd_X12_decade (211, .getfield 13, 3, 0, []) (List.mem_of_getElem? (i := 120) rfl)) (j := 21) rfl rfl rfl m1 e3 ?_
        refine zp_const (pc := 214) hx hb (zd_X12_decade (214, .bipush 29, 2, 0, []) (List.mem_of_getElem? (i := 121) rfl)) rfl rfl ?_
        refine zp_load (pc := 216) hx hb (zd_X12_decade (216, .iload 5, 2, 0, []) (List.mem_of_getElem? (i := 122) rfl)) rfl (j := 0) rfl ?_
        refine zp_add (n := ((k : Int) + 29)) (pc := 218) hx hb (zd_X12_decade (218, .iadd, 1, 0, []) (List.mem_of_getElem? (i := 123) rfl)) (by omega) (zp_r0 (by omega) (by omega)) ?_
        refine zp_ialdT (j := (k + 29)) (v := (G rw_ (2000 + (k + 29)))) (pc := 219) hx hb hw (zd_X12_decade (219, .iaload, 1, 0, []) (List.mem_of_getElem? (i := 124) rfl)) zl_T59 rfl (zl_kd ((k + 29))) m2 (by omega) (show (k + 29) < 5580 by omega) rfl (fun hk22 => ?_)
        have hk22b := zp_int (zr_ld (lo := (-2147483648)) (hi := 2147483647) (zr_d k (by omega)) hk22)
        refine zp_iast (j := (k + 4)) (pc := 220) hx hb hw heff (zd_X12_decade (220, .iastore, 1, 0, []) (List.mem_of_getElem? (i := 125) rfl)) (show zp_ia 1 91 = some (14, 0, 0, (-2147483648), 2147483647) from rfl) m3 (by omega) (by omega) (zp_o0 (by omega) (by omega) (by omega) (by omega)) rfl ?_
        refine zp_iinc (L' := [(5, 0, ((k : Int) + 1)), (4, 0, v4), (3, 0, v3), (0, 2, (a : Int)), (1, 0, p1), (2, 0, p2)]) (n := ((k : Int) + 1)) (pc := 221) hx hb hnL (zd_X12_decade (221, .iinc 5 1, 3, 0, []) (List.mem_of_getElem? (i := 126) rfl)) (j := 0) rfl (by omega) (zp_r0 (by omega) (by omega)) rfl rfl ?_
        refine zp_goto (tgt := 193) (pc := 224) hx hb (zd_X12_decade (224, .goto (-31), 3, 0, []) (List.mem_of_getElem? (i := 127) rfl)) rfl ?_
        refine zp_drop (L' := [(5, 0, ((k : Int) + 1)), (4, 0, v4), (3, 0, v3), (0, 2, (a : Int)), (1, 0, p1), (2, 0, p2)]) (by simp) ?_
        exact ih (k + 1) v3 v4 _ _ (by omega) (by omega) h30 h31 h40 h41 m1 m2 m3 (((zp_set_ne (Or.inl (zp_pne m1 m3 (by decide)))).trans (e3))) (((zp_set_ne (Or.inl (zp_pne m1 m3 (by decide)))).trans (e62)))
  have h136 : ∀ (v3 v4 : Int) (P : Nat → Option Nat) (G : Nat → Nat → Int), 0 ≤ v3 → v3 ≤ 600 → -2147483648 ≤ v4 → v4 ≤ 2147483647 → P a = some 13 → P rw_ = some 59 → P dw_ = some 91 → G a 3 = (rw_ : Int) → G a 62 = (dw_ : Int) → zp_J p l e R s m args below meth c Q w u [] 136 [(4, 0, v4), (3, 0, v3), (0, 2, (a : Int)), (1, 0, p1), (2, 0, p2)] [] P G := by
    intro v3 v4 P G h30 h31 h40 h41 m1 m2 m3 e3 e62
    refine zp_load (pc := 136) hx hb (zd_X12_decade (136, .aload_n 0, 1, 0, []) (List.mem_of_getElem? (i := 75) rfl)) rfl (j := 2) rfl ?_
    refine zp_load (pc := 137) hx hb (zd_X12_decade (137, .aload_n 0, 1, 0, []) (List.mem_of_getElem? (i := 76) rfl)) rfl (j := 2) rfl ?_
    refine zp_getf (n := (rw_ : Int)) (pc := 138) hx hb hE hw (zd_X12_decade (138, .getfield 13, 3, 0, []) (List.mem_of_getElem? (i := 77) rfl)) (j := 21) rfl rfl rfl m1 e3 ?_
    refine zp_const (pc := 141) hx hb (zd_X12_decade (141, .iconst 1, 1, 0, []) (List.mem_of_getElem? (i := 78) rfl)) rfl rfl ?_
    refine zp_ialdT (j := 1) (v := (G rw_ (2000 + 1))) (pc := 142) hx hb hw (zd_X12_decade (142, .iaload, 1, 0, []) (List.mem_of_getElem? (i := 79) rfl)) zl_T59 rfl (zl_kd 1) m2 (by omega) (show 1 < 5580 by omega) rfl (fun hk23 => ?_)
    have hk23b := zp_int (show zk_ok P (0, 0, 0, 10) (G rw_ (2000 + 1)) from hk23)
    refine zp_putf (pc := 143) hx hb hE hw heff (zd_X12_decade (143, .putfield 158, 3, 0, []) (List.mem_of_getElem? (i := 80) rfl)) (j := 81) rfl rfl rfl m1 (zp_o0 (by omega) (by omega) (by omega) (by omega)) ?_
    refine zp_load (pc := 146) hx hb (zd_X12_decade (146, .aload_n 0, 1, 0, []) (List.mem_of_getElem? (i := 81) rfl)) rfl (j := 2) rfl ?_
    refine zp_getf (n := (dw_ : Int)) (pc := 147) hx hb hE hw (zd_X12_decade (147, .getfield 155, 3, 0, []) (List.mem_of_getElem? (i := 82) rfl)) (j := 80) rfl rfl rfl m1 ((zp_set_ne (Or.inr (by decide))).trans (e62)) ?_
    refine zp_const (pc := 150) hx hb (zd_X12_decade (150, .iconst 0, 1, 0, []) (List.mem_of_getElem? (i := 83) rfl)) rfl rfl ?_
    refine zp_load (pc := 151) hx hb (zd_X12_decade (151, .aload_n 0, 1, 0, []) (List.mem_of_getElem? (i := 84) rfl)) rfl (j := 2) rfl ?_
    refine zp_getf (n := (rw_ : Int)) (pc := 152) hx hb hE hw (zd_X12_decade (152, .getfield 13, 3, 0, []) (List.mem_of_getElem? (i := 85) rfl)) (j := 21) rfl rfl rfl m1 ((zp_set_ne (Or.inr (by decide))).trans (e3)) ?_
    refine zp_const (pc := 155) hx hb (zd_X12_decade (155, .bipush 8, 2, 0, []) (List.mem_of_getElem? (i := 86) rfl)) rfl rfl ?_
    refine zp_ialdT (j := 8) (v := (G rw_ (2000 + 8))) (pc := 157) hx hb hw (zd_X12_decade (157, .iaload, 1, 0, []) (List.mem_of_getElem? (i := 87) rfl)) zl_T59 rfl (zl_kd 8) m2 (by omega) (show 8 < 5580 by omega) ((zp_set_ne (Or.inl (zp_pne m2 m1 (by decide))))) (fun hk24 => ?_)
    have hk24b := zp_int (show zk_ok P (0, 0, 0, 9999) (G rw_ (2000 + 8)) from hk24)
    refine zp_iast (j := 0) (pc := 158) hx hb hw heff (zd_X12_decade (158, .iastore, 1, 0, []) (List.mem_of_getElem? (i := 88) rfl)) (show zp_ia 1 91 = some (14, 0, 0, (-2147483648), 2147483647) from rfl) m3 (by omega) (by omega) (zp_o0 (by omega) (by omega) (by omega) (by omega)) rfl ?_
    refine zp_load (pc := 159) hx hb (zd_X12_decade (159, .aload_n 0, 1, 0, []) (List.mem_of_getElem? (i := 89) rfl)) rfl (j := 2) rfl ?_
    refine zp_getf (n := (dw_ : Int)) (pc := 160) hx hb hE hw (zd_X12_decade (160, .getfield 155, 3, 0, []) (List.mem_of_getElem? (i := 90) rfl)) (j := 80) rfl rfl rfl m1 ((zp_set_ne (Or.inl (zp_pne m1 m3 (by decide)))).trans ((zp_set_ne (Or.inr (by decide))).trans (e62))) ?_
    refine zp_const (pc := 163) hx hb (zd_X12_decade (163, .iconst 1, 1, 0, []) (List.mem_of_getElem? (i := 91) rfl)) rfl rfl ?_
    refine zp_load (pc := 164) hx hb (zd_X12_decade (164, .aload_n 0, 1, 0, []) (List.mem_of_getElem? (i := 92) rfl)) rfl (j := 2) rfl ?_
    refine zp_getf (n := (rw_ : Int)) (pc := 165) hx hb hE hw (zd_X12_decade (165, .getfield 13, 3, 0, []) (List.mem_of_getElem? (i := 93) rfl)) (j := 21) rfl rfl rfl m1 ((zp_set_ne (Or.inl (zp_pne m1 m3 (by decide)))).trans ((zp_set_ne (Or.inr (by decide))).trans (e3))) ?_
    refine zp_const (pc := 168) hx hb (zd_X12_decade (168, .bipush 9, 2, 0, []) (List.mem_of_getElem? (i := 94) rfl)) rfl rfl ?_
    refine zp_ialdT (j := 9) (v := (G rw_ (2000 + 9))) (pc := 170) hx hb hw (zd_X12_decade (170, .iaload, 1, 0, []) (List.mem_of_getElem? (i := 95) rfl)) zl_T59 rfl (zl_kd 9) m2 (by omega) (show 9 < 5580 by omega) ((zp_set_ne (Or.inl (zp_pne m2 m3 (by decide)))).trans ((zp_set_ne (Or.inl (zp_pne m2 m1 (by decide)))))) (fun hk25 => ?_)
    have hk25b := zp_int (show zk_ok P (0, 0, (-2147483648), 2147483647) (G rw_ (2000 + 9)) from hk25)
    refine zp_iast (j := 1) (pc := 171) hx hb hw heff (zd_X12_decade (171, .iastore, 1, 0, []) (List.mem_of_getElem? (i := 96) rfl)) (show zp_ia 1 91 = some (14, 0, 0, (-2147483648), 2147483647) from rfl) m3 (by omega) (by omega) (zp_o0 (by omega) (by omega) (by omega) (by omega)) rfl ?_
    refine zp_load (pc := 172) hx hb (zd_X12_decade (172, .aload_n 0, 1, 0, []) (List.mem_of_getElem? (i := 97) rfl)) rfl (j := 2) rfl ?_
    refine zp_getf (n := (dw_ : Int)) (pc := 173) hx hb hE hw (zd_X12_decade (173, .getfield 155, 3, 0, []) (List.mem_of_getElem? (i := 98) rfl)) (j := 80) rfl rfl rfl m1 ((zp_set_ne (Or.inl (zp_pne m1 m3 (by decide)))).trans ((zp_set_ne (Or.inl (zp_pne m1 m3 (by decide)))).trans ((zp_set_ne (Or.inr (by decide))).trans (e62)))) ?_
    refine zp_const (pc := 176) hx hb (zd_X12_decade (176, .iconst 2, 1, 0, []) (List.mem_of_getElem? (i := 99) rfl)) rfl rfl ?_
    refine zp_load (pc := 177) hx hb (zd_X12_decade (177, .aload_n 0, 1, 0, []) (List.mem_of_getElem? (i := 100) rfl)) rfl (j := 2) rfl ?_
    refine zp_call (pc := 178) (how := 0) (idx := 411) (mi := 241) (S := [(0, 2), (2, (dw_ : Int))]) hx hb hE hw heff hrm (zp_plain (zq_1117 hW)) rfl (j := 41) rfl rfl (by decide +kernel) (zd_X12_decade (178, .invokevirtual 411, 3, 0, []) (List.mem_of_getElem? (i := 101) rfl)) [(a : Int)] rfl ⟨zp_o2 m1, trivial⟩ (Nat.le_of_ble_eq_true rfl) trivial (fun al hal rnt3 Pt3 Gt3 hextt3 hfrt3 hokt3 hcst3 hpsit3 => ?_)
    obtain rfl := List.mem_singleton.mp hal
    have hrt3 := zp_int (hokt3 _ rfl).1
    have yat3 := hextt3 _ _ m1
    have yrw_t3 := hextt3 _ _ m2
    have ydw_t3 := hextt3 _ _ m3
    refine zp_iast (j := 2) (pc := 181) hx hb hw heff (zd_X12_decade (181, .iastore, 1, 0, []) (List.mem_of_getElem? (i := 102) rfl)) (show zp_ia 1 91 = some (14, 0, 0, (-2147483648), 2147483647) from rfl) ydw_t3 (by omega) (by omega) (zp_o0 (by omega) (by omega) (by omega) (by omega)) rfl ?_
    refine zp_load (pc := 182) hx hb (zd_X12_decade (182, .aload_n 0, 1, 0, []) (List.mem_of_getElem? (i := 103) rfl)) rfl (j := 2) rfl ?_
    refine zp_getf (n := (dw_ : Int)) (pc := 183) hx hb hE hw (zd_X12_decade (183, .getfield 155, 3, 0, []) (List.mem_of_getElem? (i := 104) rfl)) (j := 80) rfl rfl rfl yat3 ((zp_set_ne (Or.inl (zp_pne yat3 ydw_t3 (by decide)))).trans (((zp_nf hfrt3 m1 rfl).trans ((zp_set_ne (Or.inl (zp_pne m1 m3 (by decide)))).trans ((zp_set_ne (Or.inl (zp_pne m1 m3 (by decide)))).trans ((zp_set_ne (Or.inr (by decide))).trans (e62))))))) ?_
    refine zp_const (pc := 186) hx hb (zd_X12_decade (186, .iconst 3, 1, 0, []) (List.mem_of_getElem? (i := 105) rfl)) rfl rfl ?_
    refine zp_load (pc := 187) hx hb (zd_X12_decade (187, .iload 4, 2, 0, []) (List.mem_of_getElem? (i := 106) rfl)) rfl (j := 0) rfl ?_
    refine zp_iast (j := 3) (pc := 189) hx hb hw heff (zd_X12_decade (189, .iastore, 1, 0, []) (List.mem_of_getElem? (i := 107) rfl)) (show zp_ia 1 91 = some (14, 0, 0, (-2147483648), 2147483647) from rfl) ydw_t3 (by omega) (by omega) (zp_o0 (by omega) (by omega) (by omega) (by omega)) rfl ?_
    refine zp_const (pc := 190) hx hb (zd_X12_decade (190, .iconst 0, 1, 0, []) (List.mem_of_getElem? (i := 108) rfl)) rfl rfl ?_
    refine zp_store (L' := [(5, 0, 0), (4, 0, v4), (3, 0, v3), (0, 2, (a : Int)), (1, 0, p1), (2, 0, p2)]) (pc := 191) hx hb hnL (zd_X12_decade (191, .istore 5, 2, 0, []) (List.mem_of_getElem? (i := 109) rfl)) rfl rfl rfl ?_
    refine zp_drop (L' := [(5, 0, ((0 : Nat) : Int)), (4, 0, v4), (3, 0, v3), (0, 2, (a : Int)), (1, 0, p1), (2, 0, p2)]) (by simp) ?_
    exact h193 12 0 v3 v4 _ _ (by omega) (by omega) h30 h31 h40 h41 yat3 yrw_t3 ydw_t3 (((zp_set_ne (Or.inl (zp_pne yat3 ydw_t3 (by decide)))).trans ((zp_set_ne (Or.inl (zp_pne yat3 ydw_t3 (by decide)))).trans (((zp_nf hfrt3 m1 rfl).trans ((zp_set_ne (Or.inl (zp_pne m1 m3 (by decide)))).trans ((zp_set_ne (Or.inl (zp_pne m1 m3 (by decide)))).trans ((zp_set_ne (Or.inr (by decide))).trans (e3))))))))) (((zp_set_ne (Or.inl (zp_pne yat3 ydw_t3 (by decide)))).trans ((zp_set_ne (Or.inl (zp_pne yat3 ydw_t3 (by decide)))).trans (((zp_nf hfrt3 m1 rfl).trans ((zp_set_ne (Or.inl (zp_pne m1 m3 (by decide)))).trans ((zp_set_ne (Or.inl (zp_pne m1 m3 (by decide)))).trans ((zp_set_ne (Or.inr (by decide))).trans (e62)))))))))
  have loop : 1 ≤ p2 → p2 ≤ 60 → ∀ (m0 k : Nat) (v3 v4 : Int) (P : Nat → Option Nat) (G : Nat → Nat → Int), 61 - k < m0 → (k : Int) ≤ p2 → 0 ≤ v3 → v3 ≤ 10 * (k : Int) → 0 ≤ v4 → v4 ≤ (k : Int) → P a = some 13 → P rw_ = some 59 → P dw_ = some 91 → G a 3 = (rw_ : Int) → G a 62 = (dw_ : Int) → zp_J p l e R s m args below meth c Q w u [] 55 [(5, 0, (k : Int)), (4, 0, v4), (3, 0, v3), (0, 2, (a : Int)), (1, 0, p1), (2, 0, p2)] [] P G := by
    intro z1 z2 m0
    induction m0 with
    | zero => intro k v3 v4 P G h; exact absurd h (Nat.not_lt_zero _)
    | succ m0 ih =>
      intro k v3 v4 P G hm hk h30 h31 h40 h41 m1 m2 m3 e3 e62
      refine zp_load (pc := 55) hx hb (zd_X12_decade (55, .iload 5, 2, 0, []) (List.mem_of_getElem? (i := 32) rfl)) rfl (j := 0) rfl ?_
      refine zp_load (pc := 57) hx hb (zd_X12_decade (57, .iload_n 2, 1, 0, []) (List.mem_of_getElem? (i := 33) rfl)) rfl (j := 5) rfl ?_
      refine zp_icmp (pc := 58) (tgt := 136) hx hb (zd_X12_decade (58, .if_icmp .ge 78, 3, 0, []) (List.mem_of_getElem? (i := 34) rfl)) rfl (fun (hc26 : p2 ≤ (k : Int)) => ?_) (fun (hc26 : ¬ (p2 ≤ (k : Int))) => ?_)
      · refine zp_drop (L' := [(4, 0, v4), (3, 0, v3), (0, 2, (a : Int)), (1, 0, p1), (2, 0, p2)]) (by simp) ?_
        exact h136 v3 v4 _ _ (by omega) (by omega) (by omega) (by omega) m1 m2 m3 (e3) (e62)
      · refine zp_load (pc := 61) hx hb (zd_X12_decade (61, .aload_n 0, 1, 0, []) (List.mem_of_getElem? (i := 35) rfl)) rfl (j := 3) rfl ?_
        refine zp_call (pc := 62) (how := 0) (idx := 411) (mi := 241) (S := []) hx hb hE hw heff hrm (zp_plain (zq_1117 hW)) rfl (j := 41) rfl rfl (by decide +kernel) (zd_X12_decade (62, .invokevirtual 411, 3, 0, []) (List.mem_of_getElem? (i := 36) rfl)) [(a : Int)] rfl ⟨zp_o2 m1, trivial⟩ (Nat.le_of_ble_eq_true rfl) trivial (fun al hal rnt4 Pt4 Gt4 hextt4 hfrt4 hokt4 hcst4 hpsit4 => ?_)
        obtain rfl := List.mem_singleton.mp hal
        have hrt4 := zp_int (hokt4 _ rfl).1
        have yat4 := hextt4 _ _ m1
        have yrw_t4 := hextt4 _ _ m2
        have ydw_t4 := hextt4 _ _ m3
        refine zp_const (pc := 65) hx hb (zd_X12_decade (65, .sipush 999, 3, 0, []) (List.mem_of_getElem? (i := 37) rfl)) rfl rfl ?_
        refine zp_icmp (pc := 68) (tgt := 136) hx hb (zd_X12_decade (68, .if_icmp .ge 68, 3, 0, []) (List.mem_of_getElem? (i := 38) rfl)) rfl (fun (hc27 : 999 ≤ rnt4) => ?_) (fun (hc27 : ¬ (999 ≤ rnt4)) => ?_)
        · refine zp_drop (L' := [(4, 0, v4), (3, 0, v3), (0, 2, (a : Int)), (1, 0, p1), (2, 0, p2)]) (by simp) ?_
          exact h136 v3 v4 _ _ (by omega) (by omega) (by omega) (by omega) yat4 yrw_t4 ydw_t4 (((zp_nf hfrt4 m1 rfl).trans e3)) (((zp_nf hfrt4 m1 rfl).trans e62))
        · refine zp_load (pc := 71) hx hb (zd_X12_decade (71, .aload_n 0, 1, 0, []) (List.mem_of_getElem? (i := 39) rfl)) rfl (j := 3) rfl ?_
          refine zp_getf (n := (rw_ : Int)) (pc := 72) hx hb hE hw (zd_X12_decade (72, .getfield 13, 3, 0, []) (List.mem_of_getElem? (i := 40) rfl)) (j := 21) rfl rfl rfl yat4 ((zp_nf hfrt4 m1 rfl).trans e3) ?_
          refine zp_const (pc := 75) hx hb (zd_X12_decade (75, .bipush 10, 2, 0, []) (List.mem_of_getElem? (i := 41) rfl)) rfl rfl ?_
          refine zp_ialdT (j := 10) (v := (G rw_ (2000 + 10))) (pc := 77) hx hb hw (zd_X12_decade (77, .iaload, 1, 0, []) (List.mem_of_getElem? (i := 42) rfl)) zl_T59 rfl (zl_kd 10) yrw_t4 (by omega) (show 10 < 5580 by omega) (zp_nc hfrt4 m2 rfl (2000 + 10)) (fun hk28 => ?_)
          have hk28b := zp_int (show zk_ok Pt4 (0, 0, (-2147483648), 2147483647) (G rw_ (2000 + 10)) from hk28)
          refine zp_const (pc := 78) hx hb (zd_X12_decade (78, .iconst (-1), 1, 0, []) (List.mem_of_getElem? (i := 43) rfl)) rfl rfl ?_
          refine zp_icmp (pc := 79) (tgt := 96) hx hb (zd_X12_decade (79, .if_icmp .ne 17, 3, 0, []) (List.mem_of_getElem? (i := 44) rfl)) rfl (fun (hc29 : ¬ (G rw_ (2000 + 10)) = (-1)) => ?_) (fun (hc29 : ¬ (¬ (G rw_ (2000 + 10)) = (-1))) => ?_)
          · refine zp_load (pc := 96) hx hb (zd_X12_decade (96, .aload_n 0, 1, 0, []) (List.mem_of_getElem? (i := 52) rfl)) rfl (j := 3) rfl ?_
            refine zp_getf (n := (rw_ : Int)) (pc := 97) hx hb hE hw (zd_X12_decade (97, .getfield 13, 3, 0, []) (List.mem_of_getElem? (i := 53) rfl)) (j := 21) rfl rfl rfl yat4 ((zp_nf hfrt4 m1 rfl).trans e3) ?_
            refine zp_const (pc := 100) hx hb (zd_X12_decade (100, .bipush 10, 2, 0, []) (List.mem_of_getElem? (i := 54) rfl)) rfl rfl ?_
            refine zp_ialdT (j := 10) (v := (G rw_ (2000 + 10))) (pc := 102) hx hb hw (zd_X12_decade (102, .iaload, 1, 0, []) (List.mem_of_getElem? (i := 55) rfl)) zl_T59 rfl (zl_kd 10) yrw_t4 (by omega) (show 10 < 5580 by omega) (zp_nc hfrt4 m2 rfl (2000 + 10)) (fun hk30 => ?_)
            have hk30b := zp_int (show zk_ok Pt4 (0, 0, (-2147483648), 2147483647) (G rw_ (2000 + 10)) from hk30)
            refine zp_const (pc := 103) hx hb (zd_X12_decade (103, .iconst (-1), 1, 0, []) (List.mem_of_getElem? (i := 56) rfl)) rfl rfl ?_
            refine zp_icmp (pc := 104) (tgt := 120) hx hb (zd_X12_decade (104, .if_icmp .ne 16, 3, 0, []) (List.mem_of_getElem? (i := 57) rfl)) rfl (fun (hc31 : ¬ (G rw_ (2000 + 10)) = (-1)) => ?_) (fun (hc31 : ¬ (¬ (G rw_ (2000 + 10)) = (-1))) => ?_)
            · refine zp_load (pc := 120) hx hb (zd_X12_decade (120, .iload_n 3, 1, 0, []) (List.mem_of_getElem? (i := 67) rfl)) rfl (j := 2) rfl ?_
              refine zp_load (pc := 121) hx hb (zd_X12_decade (121, .aload_n 0, 1, 0, []) (List.mem_of_getElem? (i := 68) rfl)) rfl (j := 3) rfl ?_
              refine zp_call (pc := 122) (how := 0) (idx := 511) (mi := 284) (S := [(0, v3)]) hx hb hE hw heff hrm (zp_plain (zq_1125 hW)) rfl (j := 67) rfl rfl (by decide +kernel) (zd_X12_decade (122, .invokevirtual 511, 3, 0, []) (List.mem_of_getElem? (i := 69) rfl)) [(a : Int)] rfl ⟨zp_o2 yat4, trivial⟩ (Nat.le_of_ble_eq_true rfl) trivial (fun al hal rnd5 Pd5 Gd5 hextd5 hfrd5 hokd5 hcsd5 hpsid5 => ?_)
              obtain rfl := List.mem_singleton.mp hal
              have hrd5 := zp_int (hokd5 _ rfl).1
              have yad5 := hextd5 _ _ yat4
              have yrw_d5 := hextd5 _ _ yrw_t4
              have ydw_d5 := hextd5 _ _ ydw_t4
              refine zp_add (n := (v3 + rnd5)) (pc := 125) hx hb (zd_X12_decade (125, .iadd, 1, 0, []) (List.mem_of_getElem? (i := 70) rfl)) (by omega) (zp_r0 (by omega) (by omega)) ?_
              refine zp_store (L' := [(3, 0, (v3 + rnd5)), (5, 0, (k : Int)), (4, 0, v4), (0, 2, (a : Int)), (1, 0, p1), (2, 0, p2)]) (pc := 126) hx hb hnL (zd_X12_decade (126, .istore_n 3, 1, 0, []) (List.mem_of_getElem? (i := 71) rfl)) rfl rfl rfl ?_
              refine zp_iinc (L' := [(4, 0, (v4 + 1)), (3, 0, (v3 + rnd5)), (5, 0, (k : Int)), (0, 2, (a : Int)), (1, 0, p1), (2, 0, p2)]) (n := (v4 + 1)) (pc := 127) hx hb hnL (zd_X12_decade (127, .iinc 4 1, 3, 0, []) (List.mem_of_getElem? (i := 72) rfl)) (j := 2) rfl (by omega) (zp_r0 (by omega) (by omega)) rfl rfl ?_
              refine zp_iinc (L' := [(5, 0, ((k : Int) + 1)), (4, 0, (v4 + 1)), (3, 0, (v3 + rnd5)), (0, 2, (a : Int)), (1, 0, p1), (2, 0, p2)]) (n := ((k : Int) + 1)) (pc := 130) hx hb hnL (zd_X12_decade (130, .iinc 5 1, 3, 0, []) (List.mem_of_getElem? (i := 73) rfl)) (j := 2) rfl (by omega) (zp_r0 (by omega) (by omega)) rfl rfl ?_
              refine zp_goto (tgt := 55) (pc := 133) hx hb (zd_X12_decade (133, .goto (-78), 3, 0, []) (List.mem_of_getElem? (i := 74) rfl)) rfl ?_
              refine zp_drop (L' := [(5, 0, ((k : Int) + 1)), (4, 0, (v4 + 1)), (3, 0, (v3 + rnd5)), (0, 2, (a : Int)), (1, 0, p1), (2, 0, p2)]) (by simp) ?_
              exact ih (k + 1) (v3 + rnd5) (v4 + 1) _ _ (by omega) (by omega) (by omega) (by omega) (by omega) (by omega) yad5 yrw_d5 ydw_d5 (((zp_nf hfrd5 yat4 rfl).trans ((zp_nf hfrt4 m1 rfl).trans e3))) (((zp_nf hfrd5 yat4 rfl).trans ((zp_nf hfrt4 m1 rfl).trans e62)))
            · refine zp_load (pc := 107) hx hb (zd_X12_decade (107, .aload_n 0, 1, 0, []) (List.mem_of_getElem? (i := 58) rfl)) rfl (j := 3) rfl ?_
              refine zp_getf (n := (rw_ : Int)) (pc := 108) hx hb hE hw (zd_X12_decade (108, .getfield 13, 3, 0, []) (List.mem_of_getElem? (i := 59) rfl)) (j := 21) rfl rfl rfl yat4 ((zp_nf hfrt4 m1 rfl).trans e3) ?_
              refine zp_const (pc := 111) hx hb (zd_X12_decade (111, .iconst 5, 1, 0, []) (List.mem_of_getElem? (i := 60) rfl)) rfl rfl ?_
              refine zp_dup2 (pc := 112) hx hb (zd_X12_decade (112, .dup2, 1, 0, []) (List.mem_of_getElem? (i := 61) rfl)) (show (0 : Nat) ≠ 1 by decide) (show (2 : Nat) ≠ 1 by decide) ?_
              refine zp_ialdT (j := 5) (v := (G rw_ (2000 + 5))) (pc := 113) hx hb hw (zd_X12_decade (113, .iaload, 1, 0, []) (List.mem_of_getElem? (i := 62) rfl)) zl_T59 rfl (zl_kd 5) yrw_t4 (by omega) (show 5 < 5580 by omega) (zp_nc hfrt4 m2 rfl (2000 + 5)) (fun hk32 => ?_)
              have hk32b := zp_int (show zk_ok Pt4 (0, 0, (-2147483648), 2147483647) (G rw_ (2000 + 5)) from hk32)
              refine zp_const (pc := 114) hx hb (zd_X12_decade (114, .iconst 1, 1, 0, []) (List.mem_of_getElem? (i := 63) rfl)) rfl rfl ?_
              refine zp_bin (o := 0) (la := -2147483648) (ha := 2147483647) (lb := -2147483648) (hb' := 2147483647) (pc := 115) hx hb (zd_X12_decade (115, .iadd, 1, 0, []) (List.mem_of_getElem? (i := 64) rfl)) rfl (fun h => absurd h (by decide)) (by omega) (by omega) (by omega) (by omega) (fun x33 r_x33 _ _ => ?_)
              have i_x33 := zp_rg0 r_x33
              refine zp_iastR (j := 5) (pc := 116) hx hb hw heff (zd_X12_decade (116, .iastore, 1, 0, []) (List.mem_of_getElem? (i := 65) rfl)) yrw_t4 (by omega) (by omega) (zr_st (lo := (-2147483648)) (hi := 2147483647) (⟨rfl, rfl, rfl⟩) (by omega) (by omega) (by omega) (by omega)) ⟨4318, rfl, zr_pm (lo := 5) (hi := 38) (by omega) (by omega) (by decide) (by decide)⟩ ?_
              refine zp_goto (tgt := 130) (pc := 117) hx hb (zd_X12_decade (117, .goto 13, 3, 0, []) (List.mem_of_getElem? (i := 66) rfl)) rfl ?_
              refine zp_iinc (L' := [(5, 0, ((k : Int) + 1)), (4, 0, v4), (3, 0, v3), (0, 2, (a : Int)), (1, 0, p1), (2, 0, p2)]) (n := ((k : Int) + 1)) (pc := 130) hx hb hnL (zd_X12_decade (130, .iinc 5 1, 3, 0, []) (List.mem_of_getElem? (i := 73) rfl)) (j := 0) rfl (by omega) (zp_r0 (by omega) (by omega)) rfl rfl ?_
              refine zp_goto (tgt := 55) (pc := 133) hx hb (zd_X12_decade (133, .goto (-78), 3, 0, []) (List.mem_of_getElem? (i := 74) rfl)) rfl ?_
              refine zp_drop (L' := [(5, 0, ((k : Int) + 1)), (4, 0, v4), (3, 0, v3), (0, 2, (a : Int)), (1, 0, p1), (2, 0, p2)]) (by simp) ?_
              exact ih (k + 1) v3 v4 _ _ (by omega) (by omega) (by omega) (by omega) (by omega) (by omega) yat4 yrw_t4 ydw_t4 (((zp_set_ne (Or.inl (zp_pne yat4 yrw_t4 (by decide)))).trans (((zp_nf hfrt4 m1 rfl).trans e3)))) (((zp_set_ne (Or.inl (zp_pne yat4 yrw_t4 (by decide)))).trans (((zp_nf hfrt4 m1 rfl).trans e62))))
          · refine zp_load (pc := 82) hx hb (zd_X12_decade (82, .aload_n 0, 1, 0, []) (List.mem_of_getElem? (i := 45) rfl)) rfl (j := 3) rfl ?_
            refine zp_getf (n := (rw_ : Int)) (pc := 83) hx hb hE hw (zd_X12_decade (83, .getfield 13, 3, 0, []) (List.mem_of_getElem? (i := 46) rfl)) (j := 21) rfl rfl rfl yat4 ((zp_nf hfrt4 m1 rfl).trans e3) ?_
            refine zp_const (pc := 86) hx hb (zd_X12_decade (86, .bipush 9, 2, 0, []) (List.mem_of_getElem? (i := 47) rfl)) rfl rfl ?_
            refine zp_ialdT (j := 9) (v := (G rw_ (2000 + 9))) (pc := 88) hx hb hw (zd_X12_decade (88, .iaload, 1, 0, []) (List.mem_of_getElem? (i := 48) rfl)) zl_T59 rfl (zl_kd 9) yrw_t4 (by omega) (show 9 < 5580 by omega) (zp_nc hfrt4 m2 rfl (2000 + 9)) (fun hk34 => ?_)
            have hk34b := zp_int (show zk_ok Pt4 (0, 0, (-2147483648), 2147483647) (G rw_ (2000 + 9)) from hk34)
            refine zp_if (pc := 89) (tgt := 96) hx hb (zd_X12_decade (89, .ifCond .ne 7, 3, 0, []) (List.mem_of_getElem? (i := 49) rfl)) rfl (fun (hc35 : ¬ (G rw_ (2000 + 9)) = 0) => ?_) (fun (hc35 : ¬ (¬ (G rw_ (2000 + 9)) = 0)) => ?_)
            · refine zp_load (pc := 96) hx hb (zd_X12_decade (96, .aload_n 0, 1, 0, []) (List.mem_of_getElem? (i := 52) rfl)) rfl (j := 3) rfl ?_
              refine zp_getf (n := (rw_ : Int)) (pc := 97) hx hb hE hw (zd_X12_decade (97, .getfield 13, 3, 0, []) (List.mem_of_getElem? (i := 53) rfl)) (j := 21) rfl rfl rfl yat4 ((zp_nf hfrt4 m1 rfl).trans e3) ?_
              refine zp_const (pc := 100) hx hb (zd_X12_decade (100, .bipush 10, 2, 0, []) (List.mem_of_getElem? (i := 54) rfl)) rfl rfl ?_
              refine zp_ialdT (j := 10) (v := (G rw_ (2000 + 10))) (pc := 102) hx hb hw (zd_X12_decade (102, .iaload, 1, 0, []) (List.mem_of_getElem? (i := 55) rfl)) zl_T59 rfl (zl_kd 10) yrw_t4 (by omega) (show 10 < 5580 by omega) (zp_nc hfrt4 m2 rfl (2000 + 10)) (fun hk36 => ?_)
              have hk36b := zp_int (show zk_ok Pt4 (0, 0, (-2147483648), 2147483647) (G rw_ (2000 + 10)) from hk36)
              refine zp_const (pc := 103) hx hb (zd_X12_decade (103, .iconst (-1), 1, 0, []) (List.mem_of_getElem? (i := 56) rfl)) rfl rfl ?_
              refine zp_icmp (pc := 104) (tgt := 120) hx hb (zd_X12_decade (104, .if_icmp .ne 16, 3, 0, []) (List.mem_of_getElem? (i := 57) rfl)) rfl (fun (hc37 : ¬ (G rw_ (2000 + 10)) = (-1)) => ?_) (fun (hc37 : ¬ (¬ (G rw_ (2000 + 10)) = (-1))) => ?_)
              · refine zp_load (pc := 120) hx hb (zd_X12_decade (120, .iload_n 3, 1, 0, []) (List.mem_of_getElem? (i := 67) rfl)) rfl (j := 2) rfl ?_
                refine zp_load (pc := 121) hx hb (zd_X12_decade (121, .aload_n 0, 1, 0, []) (List.mem_of_getElem? (i := 68) rfl)) rfl (j := 3) rfl ?_
                refine zp_call (pc := 122) (how := 0) (idx := 511) (mi := 284) (S := [(0, v3)]) hx hb hE hw heff hrm (zp_plain (zq_1125 hW)) rfl (j := 67) rfl rfl (by decide +kernel) (zd_X12_decade (122, .invokevirtual 511, 3, 0, []) (List.mem_of_getElem? (i := 69) rfl)) [(a : Int)] rfl ⟨zp_o2 yat4, trivial⟩ (Nat.le_of_ble_eq_true rfl) trivial (fun al hal rnd6 Pd6 Gd6 hextd6 hfrd6 hokd6 hcsd6 hpsid6 => ?_)
                obtain rfl := List.mem_singleton.mp hal
                have hrd6 := zp_int (hokd6 _ rfl).1
                have yad6 := hextd6 _ _ yat4
                have yrw_d6 := hextd6 _ _ yrw_t4
                have ydw_d6 := hextd6 _ _ ydw_t4
                refine zp_add (n := (v3 + rnd6)) (pc := 125) hx hb (zd_X12_decade (125, .iadd, 1, 0, []) (List.mem_of_getElem? (i := 70) rfl)) (by omega) (zp_r0 (by omega) (by omega)) ?_
                refine zp_store (L' := [(3, 0, (v3 + rnd6)), (5, 0, (k : Int)), (4, 0, v4), (0, 2, (a : Int)), (1, 0, p1), (2, 0, p2)]) (pc := 126) hx hb hnL (zd_X12_decade (126, .istore_n 3, 1, 0, []) (List.mem_of_getElem? (i := 71) rfl)) rfl rfl rfl ?_
                refine zp_iinc (L' := [(4, 0, (v4 + 1)), (3, 0, (v3 + rnd6)), (5, 0, (k : Int)), (0, 2, (a : Int)), (1, 0, p1), (2, 0, p2)]) (n := (v4 + 1)) (pc := 127) hx hb hnL (zd_X12_decade (127, .iinc 4 1, 3, 0, []) (List.mem_of_getElem? (i := 72) rfl)) (j := 2) rfl (by omega) (zp_r0 (by omega) (by omega)) rfl rfl ?_
                refine zp_iinc (L' := [(5, 0, ((k : Int) + 1)), (4, 0, (v4 + 1)), (3, 0, (v3 + rnd6)), (0, 2, (a : Int)), (1, 0, p1), (2, 0, p2)]) (n := ((k : Int) + 1)) (pc := 130) hx hb hnL (zd_X12_decade (130, .iinc 5 1, 3, 0, []) (List.mem_of_getElem? (i := 73) rfl)) (j := 2) rfl (by omega) (zp_r0 (by omega) (by omega)) rfl rfl ?_
                refine zp_goto (tgt := 55) (pc := 133) hx hb (zd_X12_decade (133, .goto (-78), 3, 0, []) (List.mem_of_getElem? (i := 74) rfl)) rfl ?_
                refine zp_drop (L' := [(5, 0, ((k : Int) + 1)), (4, 0, (v4 + 1)), (3, 0, (v3 + rnd6)), (0, 2, (a : Int)), (1, 0, p1), (2, 0, p2)]) (by simp) ?_
                exact ih (k + 1) (v3 + rnd6) (v4 + 1) _ _ (by omega) (by omega) (by omega) (by omega) (by omega) (by omega) yad6 yrw_d6 ydw_d6 (((zp_nf hfrd6 yat4 rfl).trans ((zp_nf hfrt4 m1 rfl).trans e3))) (((zp_nf hfrd6 yat4 rfl).trans ((zp_nf hfrt4 m1 rfl).trans e62)))
              · refine zp_load (pc := 107) hx hb (zd_X12_decade (107, .aload_n 0, 1, 0, []) (List.mem_of_getElem? (i := 58) rfl)) rfl (j := 3) rfl ?_
                refine zp_getf (n := (rw_ : Int)) (pc := 108) hx hb hE hw (zd_X12_decade (108, .getfield 13, 3, 0, []) (List.mem_of_getElem? (i := 59) rfl)) (j := 21) rfl rfl rfl yat4 ((zp_nf hfrt4 m1 rfl).trans e3) ?_
                refine zp_const (pc := 111) hx hb (zd_X12_decade (111, .iconst 5, 1, 0, []) (List.mem_of_getElem? (i := 60) rfl)) rfl rfl ?_
                refine zp_dup2 (pc := 112) hx hb (zd_X12_decade (112, .dup2, 1, 0, []) (List.mem_of_getElem? (i := 61) rfl)) (show (0 : Nat) ≠ 1 by decide) (show (2 : Nat) ≠ 1 by decide) ?_
                refine zp_ialdT (j := 5) (v := (G rw_ (2000 + 5))) (pc := 113) hx hb hw (zd_X12_decade (113, .iaload, 1, 0, []) (List.mem_of_getElem? (i := 62) rfl)) zl_T59 rfl (zl_kd 5) yrw_t4 (by omega) (show 5 < 5580 by omega) (zp_nc hfrt4 m2 rfl (2000 + 5)) (fun hk38 => ?_)
                have hk38b := zp_int (show zk_ok Pt4 (0, 0, (-2147483648), 2147483647) (G rw_ (2000 + 5)) from hk38)
                refine zp_const (pc := 114) hx hb (zd_X12_decade (114, .iconst 1, 1, 0, []) (List.mem_of_getElem? (i := 63) rfl)) rfl rfl ?_
                refine zp_bin (o := 0) (la := -2147483648) (ha := 2147483647) (lb := -2147483648) (hb' := 2147483647) (pc := 115) hx hb (zd_X12_decade (115, .iadd, 1, 0, []) (List.mem_of_getElem? (i := 64) rfl)) rfl (fun h => absurd h (by decide)) (by omega) (by omega) (by omega) (by omega) (fun x39 r_x39 _ _ => ?_)
                have i_x39 := zp_rg0 r_x39
                refine zp_iastR (j := 5) (pc := 116) hx hb hw heff (zd_X12_decade (116, .iastore, 1, 0, []) (List.mem_of_getElem? (i := 65) rfl)) yrw_t4 (by omega) (by omega) (zr_st (lo := (-2147483648)) (hi := 2147483647) (⟨rfl, rfl, rfl⟩) (by omega) (by omega) (by omega) (by omega)) ⟨4318, rfl, zr_pm (lo := 5) (hi := 38) (by omega) (by omega) (by decide) (by decide)⟩ ?_
                refine zp_goto (tgt := 130) (pc := 117) hx hb (zd_X12_decade (117, .goto 13, 3, 0, []) (List.mem_of_getElem? (i := 66) rfl)) rfl ?_
                refine zp_iinc (L' := [(5, 0, ((k : Int) + 1)), (4, 0, v4), (3, 0, v3), (0, 2, (a : Int)), (1, 0, p1), (2, 0, p2)]) (n := ((k : Int) + 1)) (pc := 130) hx hb hnL (zd_X12_decade (130, .iinc 5 1, 3, 0, []) (List.mem_of_getElem? (i := 73) rfl)) (j := 0) rfl (by omega) (zp_r0 (by omega) (by omega)) rfl rfl ?_
                refine zp_goto (tgt := 55) (pc := 133) hx hb (zd_X12_decade (133, .goto (-78), 3, 0, []) (List.mem_of_getElem? (i := 74) rfl)) rfl ?_
                refine zp_drop (L' := [(5, 0, ((k : Int) + 1)), (4, 0, v4), (3, 0, v3), (0, 2, (a : Int)), (1, 0, p1), (2, 0, p2)]) (by simp) ?_
                exact ih (k + 1) v3 v4 _ _ (by omega) (by omega) (by omega) (by omega) (by omega) (by omega) yat4 yrw_t4 ydw_t4 (((zp_set_ne (Or.inl (zp_pne yat4 yrw_t4 (by decide)))).trans (((zp_nf hfrt4 m1 rfl).trans e3)))) (((zp_set_ne (Or.inl (zp_pne yat4 yrw_t4 (by decide)))).trans (((zp_nf hfrt4 m1 rfl).trans e62))))
            · refine zp_load (pc := 92) hx hb (zd_X12_decade (92, .aload_n 0, 1, 0, []) (List.mem_of_getElem? (i := 50) rfl)) rfl (j := 3) rfl ?_
              refine zp_call (pc := 93) (how := 0) (idx := 570) (mi := 295) (S := []) hx hb hE hw heff hrm (zp_plain (zq_1135 hW)) rfl (j := 74) rfl rfl (by decide +kernel) (zd_X12_decade (93, .invokevirtual 570, 3, 0, []) (List.mem_of_getElem? (i := 51) rfl)) [(a : Int)] rfl ⟨zp_o2 yat4, trivial⟩ (Nat.le_of_ble_eq_true rfl) trivial (fun al hal rnm7 Pm7 Gm7 hextm7 hfrm7 hokm7 hcsm7 hpsim7 => ?_)
              obtain rfl := List.mem_singleton.mp hal
              have yam7 := hextm7 _ _ yat4
              have yrw_m7 := hextm7 _ _ yrw_t4
              have ydw_m7 := hextm7 _ _ ydw_t4
              refine zp_load (pc := 96) hx hb (zd_X12_decade (96, .aload_n 0, 1, 0, []) (List.mem_of_getElem? (i := 52) rfl)) rfl (j := 3) rfl ?_
              refine zp_getf (n := (rw_ : Int)) (pc := 97) hx hb hE hw (zd_X12_decade (97, .getfield 13, 3, 0, []) (List.mem_of_getElem? (i := 53) rfl)) (j := 21) rfl rfl rfl yam7 ((zp_nf hfrm7 yat4 rfl).trans ((zp_nf hfrt4 m1 rfl).trans e3)) ?_
              refine zp_const (pc := 100) hx hb (zd_X12_decade (100, .bipush 10, 2, 0, []) (List.mem_of_getElem? (i := 54) rfl)) rfl rfl ?_
              refine zp_ialdT (j := 10) (v := (Gm7 rw_ (2000 + 10))) (pc := 102) hx hb hw (zd_X12_decade (102, .iaload, 1, 0, []) (List.mem_of_getElem? (i := 55) rfl)) zl_T59 rfl (zl_kd 10) yrw_m7 (by omega) (show 10 < 5580 by omega) rfl (fun hk40 => ?_)
              have hk40b := zp_int (show zk_ok Pm7 (0, 0, (-2147483648), 2147483647) (Gm7 rw_ (2000 + 10)) from hk40)
              refine zp_const (pc := 103) hx hb (zd_X12_decade (103, .iconst (-1), 1, 0, []) (List.mem_of_getElem? (i := 56) rfl)) rfl rfl ?_
              refine zp_icmp (pc := 104) (tgt := 120) hx hb (zd_X12_decade (104, .if_icmp .ne 16, 3, 0, []) (List.mem_of_getElem? (i := 57) rfl)) rfl (fun (hc41 : ¬ (Gm7 rw_ (2000 + 10)) = (-1)) => ?_) (fun (hc41 : ¬ (¬ (Gm7 rw_ (2000 + 10)) = (-1))) => ?_)
              · refine zp_load (pc := 120) hx hb (zd_X12_decade (120, .iload_n 3, 1, 0, []) (List.mem_of_getElem? (i := 67) rfl)) rfl (j := 2) rfl ?_
                refine zp_load (pc := 121) hx hb (zd_X12_decade (121, .aload_n 0, 1, 0, []) (List.mem_of_getElem? (i := 68) rfl)) rfl (j := 3) rfl ?_
                refine zp_call (pc := 122) (how := 0) (idx := 511) (mi := 284) (S := [(0, v3)]) hx hb hE hw heff hrm (zp_plain (zq_1125 hW)) rfl (j := 67) rfl rfl (by decide +kernel) (zd_X12_decade (122, .invokevirtual 511, 3, 0, []) (List.mem_of_getElem? (i := 69) rfl)) [(a : Int)] rfl ⟨zp_o2 yam7, trivial⟩ (Nat.le_of_ble_eq_true rfl) trivial (fun al hal rnd8 Pd8 Gd8 hextd8 hfrd8 hokd8 hcsd8 hpsid8 => ?_)
                obtain rfl := List.mem_singleton.mp hal
                have hrd8 := zp_int (hokd8 _ rfl).1
                have yad8 := hextd8 _ _ yam7
                have yrw_d8 := hextd8 _ _ yrw_m7
                have ydw_d8 := hextd8 _ _ ydw_m7
                refine zp_add (n := (v3 + rnd8)) (pc := 125) hx hb (zd_X12_decade (125, .iadd, 1, 0, []) (List.mem_of_getElem? (i := 70) rfl)) (by omega) (zp_r0 (by omega) (by omega)) ?_
                refine zp_store (L' := [(3, 0, (v3 + rnd8)), (5, 0, (k : Int)), (4, 0, v4), (0, 2, (a : Int)), (1, 0, p1), (2, 0, p2)]) (pc := 126) hx hb hnL (zd_X12_decade (126, .istore_n 3, 1, 0, []) (List.mem_of_getElem? (i := 71) rfl)) rfl rfl rfl ?_
                refine zp_iinc (L' := [(4, 0, (v4 + 1)), (3, 0, (v3 + rnd8)), (5, 0, (k : Int)), (0, 2, (a : Int)), (1, 0, p1), (2, 0, p2)]) (n := (v4 + 1)) (pc := 127) hx hb hnL (zd_X12_decade (127, .iinc 4 1, 3, 0, []) (List.mem_of_getElem? (i := 72) rfl)) (j := 2) rfl (by omega) (zp_r0 (by omega) (by omega)) rfl rfl ?_
                refine zp_iinc (L' := [(5, 0, ((k : Int) + 1)), (4, 0, (v4 + 1)), (3, 0, (v3 + rnd8)), (0, 2, (a : Int)), (1, 0, p1), (2, 0, p2)]) (n := ((k : Int) + 1)) (pc := 130) hx hb hnL (zd_X12_decade (130, .iinc 5 1, 3, 0, []) (List.mem_of_getElem? (i := 73) rfl)) (j := 2) rfl (by omega) (zp_r0 (by omega) (by omega)) rfl rfl ?_
                refine zp_goto (tgt := 55) (pc := 133) hx hb (zd_X12_decade (133, .goto (-78), 3, 0, []) (List.mem_of_getElem? (i := 74) rfl)) rfl ?_
                refine zp_drop (L' := [(5, 0, ((k : Int) + 1)), (4, 0, (v4 + 1)), (3, 0, (v3 + rnd8)), (0, 2, (a : Int)), (1, 0, p1), (2, 0, p2)]) (by simp) ?_
                exact ih (k + 1) (v3 + rnd8) (v4 + 1) _ _ (by omega) (by omega) (by omega) (by omega) (by omega) (by omega) yad8 yrw_d8 ydw_d8 (((zp_nf hfrd8 yam7 rfl).trans ((zp_nf hfrm7 yat4 rfl).trans ((zp_nf hfrt4 m1 rfl).trans e3)))) (((zp_nf hfrd8 yam7 rfl).trans ((zp_nf hfrm7 yat4 rfl).trans ((zp_nf hfrt4 m1 rfl).trans e62))))
              · refine zp_load (pc := 107) hx hb (zd_X12_decade (107, .aload_n 0, 1, 0, []) (List.mem_of_getElem? (i := 58) rfl)) rfl (j := 3) rfl ?_
                refine zp_getf (n := (rw_ : Int)) (pc := 108) hx hb hE hw (zd_X12_decade (108, .getfield 13, 3, 0, []) (List.mem_of_getElem? (i := 59) rfl)) (j := 21) rfl rfl rfl yam7 ((zp_nf hfrm7 yat4 rfl).trans ((zp_nf hfrt4 m1 rfl).trans e3)) ?_
                refine zp_const (pc := 111) hx hb (zd_X12_decade (111, .iconst 5, 1, 0, []) (List.mem_of_getElem? (i := 60) rfl)) rfl rfl ?_
                refine zp_dup2 (pc := 112) hx hb (zd_X12_decade (112, .dup2, 1, 0, []) (List.mem_of_getElem? (i := 61) rfl)) (show (0 : Nat) ≠ 1 by decide) (show (2 : Nat) ≠ 1 by decide) ?_
                refine zp_ialdT (j := 5) (v := (G rw_ (2000 + 5))) (pc := 113) hx hb hw (zd_X12_decade (113, .iaload, 1, 0, []) (List.mem_of_getElem? (i := 62) rfl)) zl_T59 rfl (zl_kd 5) yrw_m7 (by omega) (show 5 < 5580 by omega) ((zp_ne hfrm7 yrw_t4 (j := 5) rfl).trans (zp_nc hfrt4 m2 rfl (2000 + 5))) (fun hk42 => ?_)
                have hk42b := zp_int (show zk_ok Pm7 (0, 0, (-2147483648), 2147483647) (G rw_ (2000 + 5)) from hk42)
                refine zp_const (pc := 114) hx hb (zd_X12_decade (114, .iconst 1, 1, 0, []) (List.mem_of_getElem? (i := 63) rfl)) rfl rfl ?_
                refine zp_bin (o := 0) (la := -2147483648) (ha := 2147483647) (lb := -2147483648) (hb' := 2147483647) (pc := 115) hx hb (zd_X12_decade (115, .iadd, 1, 0, []) (List.mem_of_getElem? (i := 64) rfl)) rfl (fun h => absurd h (by decide)) (by omega) (by omega) (by omega) (by omega) (fun x43 r_x43 _ _ => ?_)
                have i_x43 := zp_rg0 r_x43
                refine zp_iastR (j := 5) (pc := 116) hx hb hw heff (zd_X12_decade (116, .iastore, 1, 0, []) (List.mem_of_getElem? (i := 65) rfl)) yrw_m7 (by omega) (by omega) (zr_st (lo := (-2147483648)) (hi := 2147483647) (⟨rfl, rfl, rfl⟩) (by omega) (by omega) (by omega) (by omega)) ⟨4318, rfl, zr_pm (lo := 5) (hi := 38) (by omega) (by omega) (by decide) (by decide)⟩ ?_
                refine zp_goto (tgt := 130) (pc := 117) hx hb (zd_X12_decade (117, .goto 13, 3, 0, []) (List.mem_of_getElem? (i := 66) rfl)) rfl ?_
                refine zp_iinc (L' := [(5, 0, ((k : Int) + 1)), (4, 0, v4), (3, 0, v3), (0, 2, (a : Int)), (1, 0, p1), (2, 0, p2)]) (n := ((k : Int) + 1)) (pc := 130) hx hb hnL (zd_X12_decade (130, .iinc 5 1, 3, 0, []) (List.mem_of_getElem? (i := 73) rfl)) (j := 0) rfl (by omega) (zp_r0 (by omega) (by omega)) rfl rfl ?_
                refine zp_goto (tgt := 55) (pc := 133) hx hb (zd_X12_decade (133, .goto (-78), 3, 0, []) (List.mem_of_getElem? (i := 74) rfl)) rfl ?_
                refine zp_drop (L' := [(5, 0, ((k : Int) + 1)), (4, 0, v4), (3, 0, v3), (0, 2, (a : Int)), (1, 0, p1), (2, 0, p2)]) (by simp) ?_
                exact ih (k + 1) v3 v4 _ _ (by omega) (by omega) (by omega) (by omega) (by omega) (by omega) yam7 yrw_m7 ydw_m7 (((zp_set_ne (Or.inl (zp_pne yam7 yrw_m7 (by decide)))).trans (((zp_nf hfrm7 yat4 rfl).trans ((zp_nf hfrt4 m1 rfl).trans e3))))) (((zp_set_ne (Or.inl (zp_pne yam7 yrw_m7 (by decide)))).trans (((zp_nf hfrm7 yat4 rfl).trans ((zp_nf hfrt4 m1 rfl).trans e62)))))
  refine zp_load (pc := 0) hx hb (zd_X12_decade (0, .aload_n 0, 1, 0, []) (List.mem_of_getElem? (i := 0) rfl)) rfl (j := 0) rfl ?_
  refine zp_const (pc := 1) hx hb (zd_X12_decade (1, .iconst 0, 1, 0, []) (List.mem_of_getElem? (i := 1) rfl)) rfl rfl ?_
  refine zp_putf (pc := 2) hx hb hE hw heff (zd_X12_decade (2, .putfield 161, 3, 0, []) (List.mem_of_getElem? (i := 2) rfl)) (j := 18) rfl rfl rfl hp (zp_o0 (by decide) (by decide) (by decide) (by decide)) ?_
  refine zp_load (pc := 5) hx hb (zd_X12_decade (5, .iload_n 1, 1, 0, []) (List.mem_of_getElem? (i := 3) rfl)) rfl (j := 1) rfl ?_
  refine zp_i2l (pc := 6) hx hb (zd_X12_decade (6, .i2l, 1, 0, []) (List.mem_of_getElem? (i := 4) rfl)) ?_
  refine zp_const (pc := 7) hx hb (zd_X12_decade (7, .lconst 0, 1, 0, []) (List.mem_of_getElem? (i := 5) rfl)) rfl rfl ?_
  refine zp_ldc2 (pc := 8) hx hb hE (zd_X12_decade (8, .ldc2_w 269, 3, 0, []) (List.mem_of_getElem? (i := 6) rfl)) (j := 93) rfl ?_
  refine zp_call (pc := 11) (how := 1) (idx := 181) (mi := 186) (S := []) hx hb hE hw heff hrm (zX_in2 hW) rfl (j := 2) rfl rfl (by decide +kernel) (zd_X12_decade (11, .invokestatic 181, 3, 0, []) (List.mem_of_getElem? (i := 7) rfl)) [p1, 0, 1000000] rfl ⟨zp_o1 (zp_r1 (by omega) (by omega)), zp_o1 (zp_r1 (by omega) (by omega)), zp_o1 (zp_r1 (by omega) (by omega)), trivial⟩ (Nat.le_of_ble_eq_true rfl) trivial (fun al hal rnw9 Pw9 Gw9 hextw9 hfrw9 hokw9 hcsw9 hpsiw9 => ?_)
  obtain rfl := List.mem_singleton.mp hal
  have hrw9 := zp_int (hokw9 _ rfl).1
  obtain ⟨hPew9, hGew9, htw9⟩ := hpsiw9
  have htw9 : rnw9 = 1 ↔ 0 ≤ p1 ∧ p1 ≤ 1000000 := htw9
  rw [hPew9, hGew9]
  refine zp_if (pc := 14) (tgt := 29) hx hb (zd_X12_decade (14, .ifCond .eq 15, 3, 0, []) (List.mem_of_getElem? (i := 8) rfl)) rfl (fun (hc44 : rnw9 = 0) => ?_) (fun (hc44 : ¬ (rnw9 = 0)) => ?_)
  · refine zp_load (pc := 29) hx hb (zd_X12_decade (29, .aload_n 0, 1, 0, []) (List.mem_of_getElem? (i := 15) rfl)) rfl (j := 0) rfl ?_
    refine zp_const (pc := 30) hx hb (zd_X12_decade (30, .iconst (-1), 1, 0, []) (List.mem_of_getElem? (i := 16) rfl)) rfl rfl ?_
    refine zp_call (pc := 31) (how := 0) (idx := 170) (mi := 183) (S := []) hx hb hE hw heff hrm (zX_te13 hW) rfl (j := 0) rfl rfl (by decide +kernel) (zd_X12_decade (31, .invokevirtual 170, 3, 0, []) (List.mem_of_getElem? (i := 17) rfl)) [(a : Int), (-1)] rfl ⟨zp_o2 hp, zp_o0 (by omega) (by omega) (by omega) (by omega), trivial⟩ (Nat.le_of_ble_eq_true rfl) trivial (fun al hal rnr10 Pr10 Gr10 hextr10 hfrr10 hokr10 hcsr10 hpsir10 => ?_)
    obtain rfl := List.mem_singleton.mp hal
    have hrr10 := zp_int (hokr10 _ rfl).1
    have yar10 := hextr10 _ _ hp
    have yrw_r10 := hextr10 _ _ qrw_
    have ydw_r10 := hextr10 _ _ qdw_
    have htr10 : rnr10 = (-1) := hpsir10.2
    refine zp_iret (pc := 34) (n := rnr10) hx hb hE hQ hU5 rfl (by decide) (zd_X12_decade (34, .ireturn, 1, 0, []) (List.mem_of_getElem? (i := 18) rfl)) (j := 0) rfl (zp_o0 (by omega) (by omega) (by omega) (by omega)) ?_
    rw [hps]
    exact trivial
  · refine zp_load (pc := 17) hx hb (zd_X12_decade (17, .iload_n 2, 1, 0, []) (List.mem_of_getElem? (i := 9) rfl)) rfl (j := 2) rfl ?_
    refine zp_i2l (pc := 18) hx hb (zd_X12_decade (18, .i2l, 1, 0, []) (List.mem_of_getElem? (i := 10) rfl)) ?_
    refine zp_const (pc := 19) hx hb (zd_X12_decade (19, .lconst 1, 1, 0, []) (List.mem_of_getElem? (i := 11) rfl)) rfl rfl ?_
    refine zp_ldc2 (pc := 20) hx hb hE (zd_X12_decade (20, .ldc2_w 421, 3, 0, []) (List.mem_of_getElem? (i := 12) rfl)) (j := 108) rfl ?_
    refine zp_call (pc := 23) (how := 1) (idx := 181) (mi := 186) (S := []) hx hb hE hw heff hrm (zX_in2 hW) rfl (j := 2) rfl rfl (by decide +kernel) (zd_X12_decade (23, .invokestatic 181, 3, 0, []) (List.mem_of_getElem? (i := 13) rfl)) [p2, 1, 60] rfl ⟨zp_o1 (zp_r1 (by omega) (by omega)), zp_o1 (zp_r1 (by omega) (by omega)), zp_o1 (zp_r1 (by omega) (by omega)), trivial⟩ (Nat.le_of_ble_eq_true rfl) trivial (fun al hal rnw11 Pw11 Gw11 hextw11 hfrw11 hokw11 hcsw11 hpsiw11 => ?_)
    obtain rfl := List.mem_singleton.mp hal
    have hrw11 := zp_int (hokw11 _ rfl).1
    obtain ⟨hPew11, hGew11, htw11⟩ := hpsiw11
    have htw11 : rnw11 = 1 ↔ 1 ≤ p2 ∧ p2 ≤ 60 := htw11
    rw [hPew11, hGew11]
    refine zp_if (pc := 26) (tgt := 35) hx hb (zd_X12_decade (26, .ifCond .ne 9, 3, 0, []) (List.mem_of_getElem? (i := 14) rfl)) rfl (fun (hc45 : ¬ rnw11 = 0) => ?_) (fun (hc45 : ¬ (¬ rnw11 = 0)) => ?_)
    · refine zp_load (pc := 35) hx hb (zd_X12_decade (35, .aload_n 0, 1, 0, []) (List.mem_of_getElem? (i := 19) rfl)) rfl (j := 0) rfl ?_
      refine zp_const (pc := 36) hx hb (zd_X12_decade (36, .bipush 16, 2, 0, []) (List.mem_of_getElem? (i := 20) rfl)) rfl rfl ?_
      refine zp_call (pc := 38) (how := 0) (idx := 174) (mi := 264) (S := []) hx hb hE hw heff hrm (zp_plain (zq_1101 hW)) rfl (j := 57) rfl rfl (by decide +kernel) (zd_X12_decade (38, .invokevirtual 174, 3, 0, []) (List.mem_of_getElem? (i := 21) rfl)) [(a : Int), 16] rfl ⟨zp_o2 hp, zp_o0 (by decide) (by decide) (by decide) (by decide), trivial⟩ (Nat.le_of_ble_eq_true rfl) trivial (fun al hal rnk12 Pk12 Gk12 hextk12 hfrk12 hokk12 hcsk12 hpsik12 => ?_)
      obtain rfl := List.mem_singleton.mp hal
      have yak12 := hextk12 _ _ hp
      have yrw_k12 := hextk12 _ _ qrw_
      have ydw_k12 := hextk12 _ _ qdw_
      refine zp_load (pc := 41) hx hb (zd_X12_decade (41, .aload_n 0, 1, 0, []) (List.mem_of_getElem? (i := 22) rfl)) rfl (j := 0) rfl ?_
      refine zp_load (pc := 42) hx hb (zd_X12_decade (42, .iload_n 1, 1, 0, []) (List.mem_of_getElem? (i := 23) rfl)) rfl (j := 1) rfl ?_
      refine zp_i2l (pc := 43) hx hb (zd_X12_decade (43, .i2l, 1, 0, []) (List.mem_of_getElem? (i := 24) rfl)) ?_
      refine zp_putf (pc := 44) hx hb hE hw heff (zd_X12_decade (44, .putfield 558, 3, 0, []) (List.mem_of_getElem? (i := 25) rfl)) (j := 79) rfl rfl rfl yak12 (zp_o1 (by first | assumption | exact zp_r1 (by omega) (by omega))) ?_
      refine zp_const (pc := 47) hx hb (zd_X12_decade (47, .iconst 0, 1, 0, []) (List.mem_of_getElem? (i := 26) rfl)) rfl rfl ?_
      refine zp_store (L' := [(3, 0, 0), (0, 2, (a : Int)), (1, 0, p1), (2, 0, p2)]) (pc := 48) hx hb hnL (zd_X12_decade (48, .istore_n 3, 1, 0, []) (List.mem_of_getElem? (i := 27) rfl)) rfl rfl rfl ?_
      refine zp_const (pc := 49) hx hb (zd_X12_decade (49, .iconst 0, 1, 0, []) (List.mem_of_getElem? (i := 28) rfl)) rfl rfl ?_
      refine zp_store (L' := [(4, 0, 0), (3, 0, 0), (0, 2, (a : Int)), (1, 0, p1), (2, 0, p2)]) (pc := 50) hx hb hnL (zd_X12_decade (50, .istore 4, 2, 0, []) (List.mem_of_getElem? (i := 29) rfl)) rfl rfl rfl ?_
      refine zp_const (pc := 52) hx hb (zd_X12_decade (52, .iconst 0, 1, 0, []) (List.mem_of_getElem? (i := 30) rfl)) rfl rfl ?_
      refine zp_store (L' := [(5, 0, 0), (4, 0, 0), (3, 0, 0), (0, 2, (a : Int)), (1, 0, p1), (2, 0, p2)]) (pc := 53) hx hb hnL (zd_X12_decade (53, .istore 5, 2, 0, []) (List.mem_of_getElem? (i := 31) rfl)) rfl rfl rfl ?_
      refine zp_drop (L' := [(5, 0, ((0 : Nat) : Int)), (4, 0, 0), (3, 0, 0), (0, 2, (a : Int)), (1, 0, p1), (2, 0, p2)]) (by simp) ?_
      exact loop (by omega) (by omega) 62 0 0 0 _ _ (by omega) (by omega) (by omega) (by omega) (by omega) (by omega) yak12 yrw_k12 ydw_k12 (((zp_set_ne (Or.inr (by decide))).trans (((zp_nf hfrk12 hp rfl).trans ((zp_set_ne (Or.inr (by decide))).trans (hrw_)))))) (((zp_set_ne (Or.inr (by decide))).trans (((zp_nf hfrk12 hp rfl).trans ((zp_set_ne (Or.inr (by decide))).trans (hdw_))))))
    · refine zp_load (pc := 29) hx hb (zd_X12_decade (29, .aload_n 0, 1, 0, []) (List.mem_of_getElem? (i := 15) rfl)) rfl (j := 0) rfl ?_
      refine zp_const (pc := 30) hx hb (zd_X12_decade (30, .iconst (-1), 1, 0, []) (List.mem_of_getElem? (i := 16) rfl)) rfl rfl ?_
      refine zp_call (pc := 31) (how := 0) (idx := 170) (mi := 183) (S := []) hx hb hE hw heff hrm (zX_te13 hW) rfl (j := 0) rfl rfl (by decide +kernel) (zd_X12_decade (31, .invokevirtual 170, 3, 0, []) (List.mem_of_getElem? (i := 17) rfl)) [(a : Int), (-1)] rfl ⟨zp_o2 hp, zp_o0 (by omega) (by omega) (by omega) (by omega), trivial⟩ (Nat.le_of_ble_eq_true rfl) trivial (fun al hal rnr13 Pr13 Gr13 hextr13 hfrr13 hokr13 hcsr13 hpsir13 => ?_)
      obtain rfl := List.mem_singleton.mp hal
      have hrr13 := zp_int (hokr13 _ rfl).1
      have yar13 := hextr13 _ _ hp
      have yrw_r13 := hextr13 _ _ qrw_
      have ydw_r13 := hextr13 _ _ qdw_
      have htr13 : rnr13 = (-1) := hpsir13.2
      refine zp_iret (pc := 34) (n := rnr13) hx hb hE hQ hU5 rfl (by decide) (zd_X12_decade (34, .ireturn, 1, 0, []) (List.mem_of_getElem? (i := 18) rfl)) (j := 0) rfl (zp_o0 (by omega) (by omega) (by omega) (by omega)) ?_
      rw [hps]
      exact trivial
