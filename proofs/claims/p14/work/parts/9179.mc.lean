/-! part mc: orderly once more: it ends with no orderly -/
noncomputable def zK_odx : zk_K := (zt_mn 259, prog_14_method_86_code, 6, (Option.some Jvm.ClassFile.FieldType.int), 1, 12, [(2, 13, 0, 0), (0, 0, (-2147483648), 2147483647), (0, 0, (-2147483648), 2147483647), (0, 0, (-2147483648), 2147483647)], [(some (0, 0, (-2147483648), 2147483647), [])], [(13, 0, 0), (13, 47, 0), (13, 49, 0), (13, 53, 0), (85, 1001, 0), (86, 1001, 0), (81, 1002, 0), (82, 1002, 0), (78, 1002, 0), (75, 1002, 0), (13, 34, 0), (13, 40, 0), (13, 38, 0), (13, 39, 0), (77, 1001, 0), (79, 1002, 0), (83, 1002, 0), (80, 1002, 0), (80, 1001, 0), (84, 1001, 0), (87, 1001, 0)], (25, 1110, 0, 0))
noncomputable def zφ_odx : (Nat → Option Nat) → (Nat → Nat → Int) → List Int → Prop := fun _ G ps => G (zp_0 ps) 47 = -1
noncomputable def zψ_odx : (Nat → Option Nat) → (Nat → Nat → Int) → List Int → (Nat → Option Nat) → (Nat → Nat → Int) → Int → Prop := fun P G ps P' G' rn => G' (zp_0 ps) 47 = -1
theorem zX_odx {l : Launch} {w : zk_W} (hW : zh_W w) : zk_metX l w zt_dv zt_TB zK_odx (zp_A zφ_odx) (zp_B zψ_odx) ∧ zk_cok w zt_TB zK_odx := by
  refine zp_meth hW (pl := 1888) rfl (by decide +kernel) (fun p e R s m args below meth c Q u hx hb hE hQ hU5 heff hnL hok hφ => ?_)
  have hw := hW.1
  obtain ⟨p0, p1, p2, p3, hps, k0, k1, k2, k3⟩ := zp_ps4 hok
  obtain ⟨a, rfl, hp⟩ := zp_this k0
  have hrm : zk_Kr (zk_ev (zp_E zK_odx)) = zk_Kr zK_odx := rfl
  rw [hps] at hφ ⊢
  have hi1 := zp_int k1
  have hi2 := zp_int k2
  have hi3 := zp_int k3
  have h47 : zp_n u.2.1 a 47 = -1 := hφ
  show zp_J p l e R s m args below meth c Q w u [] 0 [(0, 2, (a : Int)), (1, 0, p1), (2, 0, p2), (3, 0, p3)] [] u.1 (zp_n u.2.1)
  refine zp_kn (k := 3) (a := a) hw (show zp_fd 13 3 = some (12, 2, 59, 0, 0) from rfl) rfl hp (fun hk3 => ?_)
  obtain ⟨b3, hb3, hq3⟩ := zp_this hk3
  refine zp_kn (k := 50) (a := a) hw (show zp_fd 13 50 = some (12, 2, 85, 0, 0) from rfl) rfl hp (fun hk50 => ?_)
  obtain ⟨b50, hb50, hq50⟩ := zp_this hk50
  refine zp_kn (k := 51) (a := a) hw (show zp_fd 13 51 = some (12, 2, 86, 0, 0) from rfl) rfl hp (fun hk51 => ?_)
  obtain ⟨b51, hb51, hq51⟩ := zp_this hk51
  refine zp_kn (k := 52) (a := a) hw (show zp_fd 13 52 = some (12, 2, 87, 0, 0) from rfl) rfl hp (fun hk52 => ?_)
  obtain ⟨b52, hb52, hq52⟩ := zp_this hk52
  have hsr : sr_I a b3 b50 b51 b52 u.1 (zp_n u.2.1) := ⟨hp, hq3, hq50, hq51, hq52, hb3, hb50, hb51, hb52⟩
  have h214 : ∀ (n : Nat) (j : Int) (P : Nat → Option Nat) (G : Nat → Nat → Int), n ≤ 6 → -1 ≤ p3 → p3 ≤ (n : Int) - 1 → sr_I a b3 b50 b51 b52 P G → zp_J p l e R s m args below meth c Q w u [] 214 [(5, 0, j), (4, 0, (n : Int)), (0, 2, (a : Int)), (1, 0, p1), (2, 0, p2), (3, 0, p3)] [] P G := by
    intro n j P G hn h31 h32 hsr
    refine zp_kn (k := 53) (a := a) (G := G) hw (show zp_fd 13 53 = some (12, 0, 0, (-2147483648), 2147483647) from rfl) rfl hsr.1 (fun hk53 => ?_)
    have hx53 := zp_int hk53
    refine zp_load (pc := 214) hx hb (zd_X12_orderly (214, .aload_n 0, 1, 0, []) (List.mem_of_getElem? (i := 115) rfl)) rfl (j := 2) rfl ?_
    refine zp_const (pc := 215) hx hb (zd_X12_orderly (215, .iconst (-1), 1, 0, []) (List.mem_of_getElem? (i := 116) rfl)) rfl rfl ?_
    refine zp_putf (pc := 216) hx hb hE hw heff (zd_X12_orderly (216, .putfield 128, 3, 0, []) (List.mem_of_getElem? (i := 117) rfl)) (j := 65) rfl rfl rfl hsr.1 (zp_o0 (by decide) (by decide) (by decide) (by decide)) ?_
    refine zp_load (pc := 219) hx hb (zd_X12_orderly (219, .iload_n 3, 1, 0, []) (List.mem_of_getElem? (i := 118) rfl)) rfl (j := 5) rfl ?_
    refine zp_const (pc := 220) hx hb (zd_X12_orderly (220, .iconst (-1), 1, 0, []) (List.mem_of_getElem? (i := 119) rfl)) rfl rfl ?_
    refine zp_icmp (pc := 221) (tgt := 231) hx hb (zd_X12_orderly (221, .if_icmp .ne 10, 3, 0, []) (List.mem_of_getElem? (i := 120) rfl)) rfl (fun (hc214 : ¬ p3 = (-1)) => ?_) (fun (hc214 : ¬ (¬ p3 = (-1))) => ?_)
    · refine zp_load (pc := 231) hx hb (zd_X12_orderly (231, .aload_n 0, 1, 0, []) (List.mem_of_getElem? (i := 124) rfl)) rfl (j := 2) rfl ?_
      refine zp_getf (n := (b52 : Int)) (pc := 232) hx hb hE hw (zd_X12_orderly (232, .getfield 140, 3, 0, []) (List.mem_of_getElem? (i := 125) rfl)) (j := 70) rfl rfl rfl hsr.1 ((zp_set_ne (Or.inr (by decide))).trans (hsr.2.2.2.2.2.2.2.2)) ?_
      refine zp_load (pc := 235) hx hb (zd_X12_orderly (235, .iload_n 3, 1, 0, []) (List.mem_of_getElem? (i := 126) rfl)) rfl (j := 5) rfl ?_
      obtain ⟨i3, hi3⟩ := zp_nat (n := p3) (by omega)
      subst hi3
      refine zp_iald (j := i3) (v := (G b52 (2000 + i3))) (pc := 236) hx hb hw (zd_X12_orderly (236, .iaload, 1, 0, []) (List.mem_of_getElem? (i := 127) rfl)) (show zp_ia 1 87 = some (7, 0, 0, (-2147483648), 2147483647) from rfl) hsr.2.2.2.2.1 (by omega) (by omega) ((zp_set_ne (Or.inl (zp_pne hsr.2.2.2.2.1 hsr.1 (by decide))))) (fun hk215 => ?_)
      have hk215b := zp_int hk215
      refine zp_iret (pc := 237) (n := (G b52 (2000 + i3))) hx hb hE hQ hU5 rfl (by decide) (zd_X12_orderly (237, .ireturn, 1, 0, []) (List.mem_of_getElem? (i := 128) rfl)) (j := 0) rfl (zp_o0 (by omega) (by omega) (by omega) (by omega)) ?_
      rw [hps]
      show (zp_set G a 47 (-1)) a 47 = -1
      exact zp_set_self
    · refine zp_load (pc := 224) hx hb (zd_X12_orderly (224, .aload_n 0, 1, 0, []) (List.mem_of_getElem? (i := 121) rfl)) rfl (j := 2) rfl ?_
      refine zp_getf (n := (G a 53)) (pc := 225) hx hb hE hw (zd_X12_orderly (225, .getfield 472, 3, 0, []) (List.mem_of_getElem? (i := 122) rfl)) (j := 71) rfl rfl rfl hsr.1 ((zp_set_ne (Or.inr (by decide)))) ?_
      refine zp_goto (tgt := 237) (pc := 228) hx hb (zd_X12_orderly (228, .goto 9, 3, 0, []) (List.mem_of_getElem? (i := 123) rfl)) rfl ?_
      refine zp_iret (pc := 237) (n := (G a 53)) hx hb hE hQ hU5 rfl (by decide) (zd_X12_orderly (237, .ireturn, 1, 0, []) (List.mem_of_getElem? (i := 128) rfl)) (j := 0) rfl (zp_o0 (by omega) (by omega) (by omega) (by omega)) ?_
      rw [hps]
      show (zp_set G a 47 (-1)) a 47 = -1
      exact zp_set_self
  have search : ∀ (n : Nat), n ≤ 6 → ∀ (d lv : Nat) (T : Nat → Int) (v j : Int) (P : Nat → Option Nat) (G : Nat → Nat → Int), j = (lv : Int) → lv + d + 1 = n → sr_I a b3 b50 b51 b52 P G → G a 49 = (n : Int) → sr_M a n 9 G → (∀ q, q < lv → zv G a 51 q = T q) → (∀ q, q < lv → 0 ≤ T q ∧ T q < (n : Int)) → zv G a 51 lv = v → -1 ≤ v → v < (n : Int) → (∀ (j : Int) (P : Nat → Option Nat) (G : Nat → Nat → Int), j = (lv : Int) - 1 → sr_I a b3 b50 b51 b52 P G → G a 49 = (n : Int) → sr_M a n 9 G → (∀ q, q < lv → zv G a 51 q = T q) → zp_J p l e R s m args below meth c Q w u [] 140 [(5, 0, j), (4, 0, (n : Int)), (0, 2, (a : Int)), (1, 0, p1), (2, 0, p2), (3, 0, p3)] [] P G) → zp_J p l e R s m args below meth c Q w u [] 140 [(5, 0, j), (4, 0, (n : Int)), (0, 2, (a : Int)), (1, 0, p1), (2, 0, p2), (3, 0, p3)] [] P G := by
    clear h214
    intro n hn6 d
    induction d using Nat.strongRecOn with
    | _ d ihd =>
      intro lv T v j P G hj hd hsr h49 hM hT hTb hv hv1 hv2 hH
      have inner : ∀ (m0 : Nat) (v j : Int) (P : Nat → Option Nat) (G : Nat → Nat → Int), ((n : Int) - v).toNat < m0 → j = (lv : Int) → sr_I a b3 b50 b51 b52 P G → G a 49 = (n : Int) → sr_M a n 9 G → (∀ q, q < lv → zv G a 51 q = T q) → zv G a 51 lv = v → -1 ≤ v → v < (n : Int) → zp_J p l e R s m args below meth c Q w u [] 140 [(5, 0, j), (4, 0, (n : Int)), (0, 2, (a : Int)), (1, 0, p1), (2, 0, p2), (3, 0, p3)] [] P G := by
        intro m0
        induction m0 with
        | zero => intro v j P G h; exact absurd h (Nat.not_lt_zero _)
        | succ m0 ih =>
          intro v j P G hm hj hsr h49 hM hT hv hv1 hv2
          subst hj
          rw [zv_eq hsr.2.2.2.2.2.2.2.1] at hv
          refine zp_load (pc := 140) hx hb (zd_X12_orderly (140, .iload 5, 2, 0, []) (List.mem_of_getElem? (i := 77) rfl)) rfl (j := 0) rfl ?_
          refine zp_if (pc := 142) (tgt := 214) hx hb (zd_X12_orderly (142, .ifCond .lt 72, 3, 0, []) (List.mem_of_getElem? (i := 78) rfl)) rfl (fun (hc216 : (lv : Int) < 0) => ?_) (fun (hc216 : ¬ ((lv : Int) < 0)) => ?_)
          · exfalso
            omega
          · refine zp_load (pc := 145) hx hb (zd_X12_orderly (145, .aload_n 0, 1, 0, []) (List.mem_of_getElem? (i := 79) rfl)) rfl (j := 2) rfl ?_
            refine zp_getf (n := (b51 : Int)) (pc := 146) hx hb hE hw (zd_X12_orderly (146, .getfield 137, 3, 0, []) (List.mem_of_getElem? (i := 80) rfl)) (j := 69) rfl rfl rfl hsr.1 hsr.2.2.2.2.2.2.2.1 ?_
            refine zp_load (pc := 149) hx hb (zd_X12_orderly (149, .iload 5, 2, 0, []) (List.mem_of_getElem? (i := 81) rfl)) rfl (j := 0) rfl ?_
            refine zp_dup2 (pc := 151) hx hb (zd_X12_orderly (151, .dup2, 1, 0, []) (List.mem_of_getElem? (i := 82) rfl)) (show (0 : Nat) ≠ 1 by decide) (show (2 : Nat) ≠ 1 by decide) ?_
            refine zp_iald (j := lv) (v := v) (pc := 152) hx hb hw (zd_X12_orderly (152, .iaload, 1, 0, []) (List.mem_of_getElem? (i := 83) rfl)) (show zp_ia 1 86 = some (7, 0, 0, (-1), 7) from rfl) hsr.2.2.2.1 (by omega) (by omega) hv (fun hk217 => ?_)
            have hk217b := zp_int hk217
            refine zp_const (pc := 153) hx hb (zd_X12_orderly (153, .iconst 1, 1, 0, []) (List.mem_of_getElem? (i := 84) rfl)) rfl rfl ?_
            refine zp_add (n := (v + 1)) (pc := 154) hx hb (zd_X12_orderly (154, .iadd, 1, 0, []) (List.mem_of_getElem? (i := 85) rfl)) (by omega) (zp_r0 (by omega) (by omega)) ?_
            refine zp_iast (j := lv) (pc := 155) hx hb hw heff (zd_X12_orderly (155, .iastore, 1, 0, []) (List.mem_of_getElem? (i := 86) rfl)) (show zp_ia 1 86 = some (7, 0, 0, (-1), 7) from rfl) hsr.2.2.2.1 (by omega) (by omega) (zp_o0 (by omega) (by omega) (by omega) (by omega)) rfl ?_
            refine zp_load (pc := 156) hx hb (zd_X12_orderly (156, .aload_n 0, 1, 0, []) (List.mem_of_getElem? (i := 87) rfl)) rfl (j := 2) rfl ?_
            refine zp_getf (n := (b51 : Int)) (pc := 157) hx hb hE hw (zd_X12_orderly (157, .getfield 137, 3, 0, []) (List.mem_of_getElem? (i := 88) rfl)) (j := 69) rfl rfl rfl hsr.1 ((zp_set_ne (Or.inl (zp_pne hsr.1 hsr.2.2.2.1 (by decide)))).trans (hsr.2.2.2.2.2.2.2.1)) ?_
            refine zp_load (pc := 160) hx hb (zd_X12_orderly (160, .iload 5, 2, 0, []) (List.mem_of_getElem? (i := 89) rfl)) rfl (j := 0) rfl ?_
            refine zp_iald (j := lv) (v := (v + 1)) (pc := 162) hx hb hw (zd_X12_orderly (162, .iaload, 1, 0, []) (List.mem_of_getElem? (i := 90) rfl)) (show zp_ia 1 86 = some (7, 0, 0, (-1), 7) from rfl) hsr.2.2.2.1 (by omega) (by omega) zp_set_self (fun hk218 => ?_)
            have hk218b := zp_int hk218
            refine zp_load (pc := 163) hx hb (zd_X12_orderly (163, .iload 4, 2, 0, []) (List.mem_of_getElem? (i := 91) rfl)) rfl (j := 1) rfl ?_
            refine zp_icmp (pc := 165) (tgt := 174) hx hb (zd_X12_orderly (165, .if_icmp .ne 9, 3, 0, []) (List.mem_of_getElem? (i := 92) rfl)) rfl (fun (hc219 : ¬ (v + 1) = (n : Int)) => ?_) (fun (hc219 : ¬ (¬ (v + 1) = (n : Int))) => ?_)
            · refine zp_load (pc := 174) hx hb (zd_X12_orderly (174, .aload_n 0, 1, 0, []) (List.mem_of_getElem? (i := 95) rfl)) rfl (j := 2) rfl ?_
              refine zp_load (pc := 175) hx hb (zd_X12_orderly (175, .iload 5, 2, 0, []) (List.mem_of_getElem? (i := 96) rfl)) rfl (j := 0) rfl ?_
              refine zp_call (pc := 177) (how := 0) (idx := 475) (mi := 260) (S := []) hx hb hE hw heff hrm (zX_if hW) rfl (j := 55) rfl rfl (by decide +kernel) (zd_X12_orderly (177, .invokevirtual 475, 3, 0, []) (List.mem_of_getElem? (i := 97) rfl)) [(a : Int), (lv : Int)] rfl ⟨zp_o2 hsr.1, zp_o0 (by omega) (by omega) (by omega) (by omega), trivial⟩ (Nat.le_of_ble_eq_true rfl) trivial (fun al hal rnf Pf Gf hextf hfrf hokf hcsf hpsif => ?_)
              obtain rfl := List.mem_singleton.mp hal
              have hrf := zp_int (hokf _ rfl).1
              obtain ⟨hPef, hGef, htf⟩ := hpsif
              rw [hPef, hGef]
              refine zp_if (pc := 180) (tgt := 140) hx hb (zd_X12_orderly (180, .ifCond .eq (-40), 3, 0, []) (List.mem_of_getElem? (i := 98) rfl)) rfl (fun (hc220 : rnf = 0) => ?_) (fun (hc220 : ¬ (rnf = 0)) => ?_)
              · have srk221 : sr_I a b3 b50 b51 b52 P (zp_set G b51 (2000 + lv) (v + 1)) := (sr_set (k := 2000 + lv) (v := (v + 1)) hsr hsr.2.2.2.1 rfl)
                have nk221 : (zp_set G b51 (2000 + lv) (v + 1)) a 49 = (n : Int) := ((zp_set_ne (Or.inl (zp_pne hsr.1 hsr.2.2.2.1 (by decide)))).trans (h49))
                have mk221 : sr_M a n 9 (zp_set G b51 (2000 + lv) (v + 1)) := sr_zv hM hsr.2.2.2.2.2.2.1 srk221.2.2.2.2.2.2.1 (fun q _ => zp_set_ne (Or.inl (zp_pne hsr.2.2.1 hsr.2.2.2.1 (by decide))))
                have tk221 : ∀ q, q < lv → zv (zp_set G b51 (2000 + lv) (v + 1)) a 51 q = T q := fun q hq => by rw [← hT q hq, zv_eq srk221.2.2.2.2.2.2.2.1, zv_eq hsr.2.2.2.2.2.2.2.1]; exact zp_set_ne (Or.inr (by omega))
                exact ih (v + 1) _ _ _ (by omega) rfl srk221 nk221 mk221 tk221 (by rw [zv_eq srk221.2.2.2.2.2.2.2.1]; exact zp_set_self) (by omega) (by omega)
              · refine zp_load (pc := 183) hx hb (zd_X12_orderly (183, .iload 5, 2, 0, []) (List.mem_of_getElem? (i := 99) rfl)) rfl (j := 0) rfl ?_
                refine zp_load (pc := 185) hx hb (zd_X12_orderly (185, .iload 4, 2, 0, []) (List.mem_of_getElem? (i := 100) rfl)) rfl (j := 1) rfl ?_
                refine zp_const (pc := 187) hx hb (zd_X12_orderly (187, .iconst 1, 1, 0, []) (List.mem_of_getElem? (i := 101) rfl)) rfl rfl ?_
                refine zp_sub (n := ((n : Int) - 1)) (pc := 188) hx hb (zd_X12_orderly (188, .isub, 1, 0, []) (List.mem_of_getElem? (i := 102) rfl)) (by omega) (zp_r0 (by omega) (by omega)) ?_
                refine zp_icmp (pc := 189) (tgt := 200) hx hb (zd_X12_orderly (189, .if_icmp .ne 11, 3, 0, []) (List.mem_of_getElem? (i := 103) rfl)) rfl (fun (hc222 : ¬ (lv : Int) = ((n : Int) - 1)) => ?_) (fun (hc222 : ¬ (¬ (lv : Int) = ((n : Int) - 1))) => ?_)
                · refine zp_iinc (L' := [(5, 0, ((lv : Int) + 1)), (4, 0, (n : Int)), (0, 2, (a : Int)), (1, 0, p1), (2, 0, p2), (3, 0, p3)]) (n := ((lv : Int) + 1)) (pc := 200) hx hb hnL (zd_X12_orderly (200, .iinc 5 1, 3, 0, []) (List.mem_of_getElem? (i := 108) rfl)) (j := 0) rfl (by omega) (zp_r0 (by omega) (by omega)) rfl rfl ?_
                  refine zp_load (pc := 203) hx hb (zd_X12_orderly (203, .aload_n 0, 1, 0, []) (List.mem_of_getElem? (i := 109) rfl)) rfl (j := 2) rfl ?_
                  refine zp_getf (n := (b51 : Int)) (pc := 204) hx hb hE hw (zd_X12_orderly (204, .getfield 137, 3, 0, []) (List.mem_of_getElem? (i := 110) rfl)) (j := 69) rfl rfl rfl hsr.1 ((zp_set_ne (Or.inl (zp_pne hsr.1 hsr.2.2.2.1 (by decide)))).trans (hsr.2.2.2.2.2.2.2.1)) ?_
                  refine zp_load (pc := 207) hx hb (zd_X12_orderly (207, .iload 5, 2, 0, []) (List.mem_of_getElem? (i := 111) rfl)) rfl (j := 0) rfl ?_
                  refine zp_const (pc := 209) hx hb (zd_X12_orderly (209, .iconst (-1), 1, 0, []) (List.mem_of_getElem? (i := 112) rfl)) rfl rfl ?_
                  refine zp_iast (j := (lv + 1)) (pc := 210) hx hb hw heff (zd_X12_orderly (210, .iastore, 1, 0, []) (List.mem_of_getElem? (i := 113) rfl)) (show zp_ia 1 86 = some (7, 0, 0, (-1), 7) from rfl) hsr.2.2.2.1 (by omega) (by omega) (zp_o0 (by omega) (by omega) (by omega) (by omega)) rfl ?_
                  refine zp_goto (tgt := 140) (pc := 211) hx hb (zd_X12_orderly (211, .goto (-71), 3, 0, []) (List.mem_of_getElem? (i := 114) rfl)) rfl ?_
                  have srk223 : sr_I a b3 b50 b51 b52 P (zp_set (zp_set G b51 (2000 + lv) (v + 1)) b51 (2000 + (lv + 1)) (-1)) := (sr_set (k := 2000 + (lv + 1)) (v := (-1)) (sr_set (k := 2000 + lv) (v := (v + 1)) hsr hsr.2.2.2.1 rfl) hsr.2.2.2.1 rfl)
                  have nk223 : (zp_set (zp_set G b51 (2000 + lv) (v + 1)) b51 (2000 + (lv + 1)) (-1)) a 49 = (n : Int) := ((zp_set_ne (Or.inl (zp_pne hsr.1 hsr.2.2.2.1 (by decide)))).trans ((zp_set_ne (Or.inl (zp_pne hsr.1 hsr.2.2.2.1 (by decide)))).trans (h49)))
                  have mk223 : sr_M a n 9 (zp_set (zp_set G b51 (2000 + lv) (v + 1)) b51 (2000 + (lv + 1)) (-1)) := sr_zv hM hsr.2.2.2.2.2.2.1 srk223.2.2.2.2.2.2.1 (fun q _ => (zp_set_ne (Or.inl (zp_pne hsr.2.2.1 hsr.2.2.2.1 (by decide)))).trans (zp_set_ne (Or.inl (zp_pne hsr.2.2.1 hsr.2.2.2.1 (by decide)))))
                  refine ihd (d - 1) (by omega) (lv + 1) (fun q => if q = lv then v + 1 else T q) (-1) _ _ _ (by omega) (by omega) srk223 nk223 mk223 (fun q hq => ?_) (fun q hq => ?_) (by rw [zv_eq srk223.2.2.2.2.2.2.2.1]; exact zp_set_eq rfl (by omega)) (by omega) (by omega) (fun j P G hj hsr2 h492 hM2 hT2 => ?_)
                  · show _ = if q = lv then v + 1 else T q
                    rw [zv_eq srk223.2.2.2.2.2.2.2.1]
                    by_cases hql : q = lv
                    · subst hql; rw [if_pos rfl]; exact (zp_set_ne (Or.inr (by omega))).trans zp_set_self
                    · rw [if_neg hql, ← hT q (by omega), zv_eq hsr.2.2.2.2.2.2.2.1]; exact (zp_set_ne (Or.inr (by omega))).trans (zp_set_ne (Or.inr (by omega)))
                  · show 0 ≤ (if q = lv then v + 1 else T q) ∧ (if q = lv then v + 1 else T q) < (n : Int)
                    by_cases hql : q = lv
                    · rw [if_pos hql]; omega
                    · rw [if_neg hql]; exact hTb q (by omega)
                  · refine ih (v + 1) j P G (by omega) (by omega) hsr2 h492 hM2 (fun q hq => ?_) ?_ (by omega) (by omega)
                    · have h := hT2 q (by omega)
                      have h2 : (if q = lv then v + 1 else T q) = T q := if_neg (by omega)
                      exact h.trans h2
                    · have h := hT2 lv (by omega)
                      have h2 : (if lv = lv then v + 1 else T lv) = v + 1 := if_pos rfl
                      exact h.trans h2
                · refine zp_load (pc := 192) hx hb (zd_X12_orderly (192, .aload_n 0, 1, 0, []) (List.mem_of_getElem? (i := 104) rfl)) rfl (j := 2) rfl ?_
                  refine zp_load (pc := 193) hx hb (zd_X12_orderly (193, .iload_n 2, 1, 0, []) (List.mem_of_getElem? (i := 105) rfl)) rfl (j := 4) rfl ?_
                  have srk224 : sr_I a b3 b50 b51 b52 P (zp_set G b51 (2000 + lv) (v + 1)) := (sr_set (k := 2000 + lv) (v := (v + 1)) hsr hsr.2.2.2.1 rfl)
                  have nk224 : (zp_set G b51 (2000 + lv) (v + 1)) a 49 = (n : Int) := ((zp_set_ne (Or.inl (zp_pne hsr.1 hsr.2.2.2.1 (by decide)))).trans (h49))
                  have mk224 : sr_M a n 9 (zp_set G b51 (2000 + lv) (v + 1)) := sr_zv hM hsr.2.2.2.2.2.2.1 srk224.2.2.2.2.2.2.1 (fun q _ => zp_set_ne (Or.inl (zp_pne hsr.2.2.1 hsr.2.2.2.1 (by decide))))
                  have tk224 : ∀ q, q < lv → zv (zp_set G b51 (2000 + lv) (v + 1)) a 51 q = T q := fun q hq => by rw [← hT q hq, zv_eq srk224.2.2.2.2.2.2.2.1, zv_eq hsr.2.2.2.2.2.2.2.1]; exact zp_set_ne (Or.inr (by omega))
                  have hphi : ∃ n : Nat, n ≤ 6 ∧ (zp_set G b51 (2000 + lv) (v + 1)) a 49 = (n : Int) ∧ ∀ k : Nat, k < n → 0 ≤ zv (zp_set G b51 (2000 + lv) (v + 1)) a 51 k ∧ 0 ≤ zv (zp_set G b51 (2000 + lv) (v + 1)) a 50 (zv (zp_set G b51 (2000 + lv) (v + 1)) a 51 k).toNat ∧ zv (zp_set G b51 (2000 + lv) (v + 1)) a 50 (zv (zp_set G b51 (2000 + lv) (v + 1)) a 51 k).toNat ≤ 9 := ⟨n, hn6, nk224, fun k hk => by
                    have h1 : 0 ≤ zv (zp_set G b51 (2000 + lv) (v + 1)) a 51 k ∧ zv (zp_set G b51 (2000 + lv) (v + 1)) a 51 k < (n : Int) := by
                      by_cases hkl : k = lv
                      · have h2 : zv (zp_set G b51 (2000 + lv) (v + 1)) a 51 k = v + 1 := by rw [hkl, zv_eq srk224.2.2.2.2.2.2.2.1]; exact zp_set_self
                        omega
                      · rw [tk224 k (by omega)]
                        exact hTb k (by omega)
                    have h3 := mk224 (zv (zp_set G b51 (2000 + lv) (v + 1)) a 51 k).toNat (by omega)
                    exact ⟨h1.1, h3.1, h3.2⟩⟩
                  refine zp_call (pc := 194) (how := 0) (idx := 478) (mi := 261) (S := []) hx hb hE hw heff hrm (zX_wg hW) rfl (j := 56) rfl rfl (by decide +kernel) (zd_X12_orderly (194, .invokevirtual 478, 3, 0, []) (List.mem_of_getElem? (i := 106) rfl)) [(a : Int), p2] rfl ⟨zp_o2 hsr.1, k2, trivial⟩ (Nat.le_of_ble_eq_true rfl) hphi (fun al hal rng Pg Gg hextg hfrg hokg hcsg hpsig => ?_)
                  obtain rfl := List.mem_singleton.mp hal
                  have ng : Gg a 49 = (n : Int) := (zp_nf hfrg hsr.1 rfl).trans nk224
                  have vg0 : (zp_set G b51 (2000 + lv) (v + 1)) a 51 = (b51 : Int) := srk224.2.2.2.2.2.2.2.1
                  have vv0 : (zp_set G b51 (2000 + lv) (v + 1)) b51 (2000 + lv) = v + 1 := zp_set_self
                  have srbg := srk224
                  obtain ⟨srg, z50g, z51g⟩ := sr_fr srbg hextg hfrg (by decide +kernel)
                  have mg : sr_M a n 9 Gg := sr_zv mk224 srk224.2.2.2.2.2.2.1 srg.2.2.2.2.2.2.1 (fun q _ => z50g _)
                  have tg : ∀ q, q < lv → zv Gg a 51 q = T q := fun q hq => by rw [← tk224 q hq, zv_eq srg.2.2.2.2.2.2.2.1, zv_eq vg0, z51g]
                  have vg : zv Gg a 51 lv = v + 1 := by rw [zv_eq srg.2.2.2.2.2.2.2.1, z51g]; exact vv0
                  refine zp_goto (tgt := 140) (pc := 197) hx hb (zd_X12_orderly (197, .goto (-57), 3, 0, []) (List.mem_of_getElem? (i := 107) rfl)) rfl ?_
                  exact ih (v + 1) _ Pg Gg (by omega) rfl srg ng mg tg vg (by omega) (by omega)
            · refine zp_iinc (L' := [(5, 0, ((lv : Int) - 1)), (4, 0, (n : Int)), (0, 2, (a : Int)), (1, 0, p1), (2, 0, p2), (3, 0, p3)]) (n := ((lv : Int) - 1)) (pc := 168) hx hb hnL (zd_X12_orderly (168, .iinc 5 (-1), 3, 0, []) (List.mem_of_getElem? (i := 93) rfl)) (j := 0) rfl (by omega) (zp_r0 (by omega) (by omega)) rfl rfl ?_
              refine zp_goto (tgt := 140) (pc := 171) hx hb (zd_X12_orderly (171, .goto (-31), 3, 0, []) (List.mem_of_getElem? (i := 94) rfl)) rfl ?_
              have srk225 : sr_I a b3 b50 b51 b52 P (zp_set G b51 (2000 + lv) (v + 1)) := (sr_set (k := 2000 + lv) (v := (v + 1)) hsr hsr.2.2.2.1 rfl)
              have nk225 : (zp_set G b51 (2000 + lv) (v + 1)) a 49 = (n : Int) := ((zp_set_ne (Or.inl (zp_pne hsr.1 hsr.2.2.2.1 (by decide)))).trans (h49))
              have mk225 : sr_M a n 9 (zp_set G b51 (2000 + lv) (v + 1)) := sr_zv hM hsr.2.2.2.2.2.2.1 srk225.2.2.2.2.2.2.1 (fun q _ => zp_set_ne (Or.inl (zp_pne hsr.2.2.1 hsr.2.2.2.1 (by decide))))
              have tk225 : ∀ q, q < lv → zv (zp_set G b51 (2000 + lv) (v + 1)) a 51 q = T q := fun q hq => by rw [← hT q hq, zv_eq srk225.2.2.2.2.2.2.2.1, zv_eq hsr.2.2.2.2.2.2.2.1]; exact zp_set_ne (Or.inr (by omega))
              exact hH _ _ _ (by omega) srk225 nk225 mk225 tk225
      exact inner _ v j P G (Nat.lt_succ_self _) hj hsr h49 hM hT hv hv1 hv2
  have h82 : ∀ (n i : Nat) (P : Nat → Option Nat) (G : Nat → Nat → Int), n ≤ 10 → sr_I a b3 b50 b51 b52 P G → sr_M a n 9 G → G a 47 = -1 → zp_J p l e R s m args below meth c Q w u [] 82 [(5, 0, (i : Int)), (4, 0, (n : Int)), (0, 2, (a : Int)), (1, 0, p1), (2, 0, p2), (3, 0, p3)] [] P G := by
    intro n i P G hn10 hsr hM e47
    refine zp_load (pc := 82) hx hb (zd_X12_orderly (82, .iload 4, 2, 0, []) (List.mem_of_getElem? (i := 43) rfl)) rfl (j := 1) rfl ?_
    refine zp_const (pc := 84) hx hb (zd_X12_orderly (84, .bipush 6, 2, 0, []) (List.mem_of_getElem? (i := 44) rfl)) rfl rfl ?_
    refine zp_icmp (pc := 86) (tgt := 105) hx hb (zd_X12_orderly (86, .if_icmp .gt 19, 3, 0, []) (List.mem_of_getElem? (i := 45) rfl)) rfl (fun (hc226 : 6 < (n : Int)) => ?_) (fun (hc226 : ¬ (6 < (n : Int))) => ?_)
    · refine zp_const (pc := 105) hx hb (zd_X12_orderly (105, .iconst (-1), 1, 0, []) (List.mem_of_getElem? (i := 55) rfl)) rfl rfl ?_
      refine zp_iret (pc := 106) (n := (-1)) hx hb hE hQ hU5 rfl (by decide) (zd_X12_orderly (106, .ireturn, 1, 0, []) (List.mem_of_getElem? (i := 56) rfl)) (j := 0) rfl (zp_o0 (by omega) (by omega) (by omega) (by omega)) ?_
      rw [hps]
      show G a 47 = -1
      exact e47
    · refine zp_load (pc := 89) hx hb (zd_X12_orderly (89, .iload_n 3, 1, 0, []) (List.mem_of_getElem? (i := 46) rfl)) rfl (j := 5) rfl ?_
      refine zp_i2l (pc := 90) hx hb (zd_X12_orderly (90, .i2l, 1, 0, []) (List.mem_of_getElem? (i := 47) rfl)) ?_
      refine zp_ldc2 (pc := 91) hx hb hE (zd_X12_orderly (91, .ldc2_w 267, 3, 0, []) (List.mem_of_getElem? (i := 48) rfl)) (j := 92) rfl ?_
      refine zp_load (pc := 94) hx hb (zd_X12_orderly (94, .iload 4, 2, 0, []) (List.mem_of_getElem? (i := 49) rfl)) rfl (j := 1) rfl ?_
      refine zp_i2l (pc := 96) hx hb (zd_X12_orderly (96, .i2l, 1, 0, []) (List.mem_of_getElem? (i := 50) rfl)) ?_
      refine zp_const (pc := 97) hx hb (zd_X12_orderly (97, .lconst 1, 1, 0, []) (List.mem_of_getElem? (i := 51) rfl)) rfl rfl ?_
      refine zp_lsub (n := ((n : Int) - 1)) (pc := 98) hx hb (zd_X12_orderly (98, .lsub, 1, 0, []) (List.mem_of_getElem? (i := 52) rfl)) (by omega) (zp_r1 (by omega) (by omega)) ?_
      refine zp_call (pc := 99) (how := 1) (idx := 181) (mi := 186) (S := []) hx hb hE hw heff hrm (zX_in hW) rfl (j := 2) rfl rfl (by decide +kernel) (zd_X12_orderly (99, .invokestatic 181, 3, 0, []) (List.mem_of_getElem? (i := 53) rfl)) [p3, (-1), ((n : Int) - 1)] rfl ⟨zp_o1 (zp_r1 (by omega) (by omega)), zp_o1 (zp_r1 (by omega) (by omega)), zp_o1 (zp_r1 (by omega) (by omega)), trivial⟩ (Nat.le_of_ble_eq_true rfl) trivial (fun al hal rni Pi Gi hexti hfri hoki hcsi hpsii => ?_)
      obtain rfl := List.mem_singleton.mp hal
      have hri := zp_int (hoki _ rfl).1
      obtain ⟨hPei, hGei, hti⟩ := hpsii
      rw [hPei, hGei]
      have hti : rni = 1 → (-1) ≤ p3 ∧ p3 ≤ ((n : Int) - 1) := hti
      refine zp_if (pc := 102) (tgt := 107) hx hb (zd_X12_orderly (102, .ifCond .ne 5, 3, 0, []) (List.mem_of_getElem? (i := 54) rfl)) rfl (fun (hc227 : ¬ rni = 0) => ?_) (fun (hc227 : ¬ (¬ rni = 0)) => ?_)
      · refine zp_load (pc := 107) hx hb (zd_X12_orderly (107, .iload 4, 2, 0, []) (List.mem_of_getElem? (i := 57) rfl)) rfl (j := 1) rfl ?_
        refine zp_if (pc := 109) (tgt := 114) hx hb (zd_X12_orderly (109, .ifCond .ne 5, 3, 0, []) (List.mem_of_getElem? (i := 58) rfl)) rfl (fun (hc228 : ¬ (n : Int) = 0) => ?_) (fun (hc228 : ¬ (¬ (n : Int) = 0)) => ?_)
        · refine zp_load (pc := 114) hx hb (zd_X12_orderly (114, .aload_n 0, 1, 0, []) (List.mem_of_getElem? (i := 61) rfl)) rfl (j := 2) rfl ?_
          refine zp_load (pc := 115) hx hb (zd_X12_orderly (115, .iload_n 1, 1, 0, []) (List.mem_of_getElem? (i := 62) rfl)) rfl (j := 3) rfl ?_
          refine zp_putf (pc := 116) hx hb hE hw heff (zd_X12_orderly (116, .putfield 128, 3, 0, []) (List.mem_of_getElem? (i := 63) rfl)) (j := 65) rfl rfl rfl hsr.1 (zp_o0 (by omega) (by omega) (by omega) (by omega)) ?_
          refine zp_load (pc := 119) hx hb (zd_X12_orderly (119, .aload_n 0, 1, 0, []) (List.mem_of_getElem? (i := 64) rfl)) rfl (j := 2) rfl ?_
          refine zp_load (pc := 120) hx hb (zd_X12_orderly (120, .iload 4, 2, 0, []) (List.mem_of_getElem? (i := 65) rfl)) rfl (j := 1) rfl ?_
          refine zp_putf (pc := 122) hx hb hE hw heff (zd_X12_orderly (122, .putfield 439, 3, 0, []) (List.mem_of_getElem? (i := 66) rfl)) (j := 67) rfl rfl rfl hsr.1 (zp_o0 (by omega) (by omega) (by omega) (by omega)) ?_
          refine zp_load (pc := 125) hx hb (zd_X12_orderly (125, .aload_n 0, 1, 0, []) (List.mem_of_getElem? (i := 67) rfl)) rfl (j := 2) rfl ?_
          refine zp_const (pc := 126) hx hb (zd_X12_orderly (126, .iconst (-1), 1, 0, []) (List.mem_of_getElem? (i := 68) rfl)) rfl rfl ?_
          refine zp_putf (pc := 127) hx hb hE hw heff (zd_X12_orderly (127, .putfield 472, 3, 0, []) (List.mem_of_getElem? (i := 69) rfl)) (j := 71) rfl rfl rfl hsr.1 (zp_o0 (by decide) (by decide) (by decide) (by decide)) ?_
          refine zp_const (pc := 130) hx hb (zd_X12_orderly (130, .iconst 0, 1, 0, []) (List.mem_of_getElem? (i := 70) rfl)) rfl rfl ?_
          refine zp_store (L' := [(5, 0, 0), (4, 0, (n : Int)), (0, 2, (a : Int)), (1, 0, p1), (2, 0, p2), (3, 0, p3)]) (pc := 131) hx hb hnL (zd_X12_orderly (131, .istore 5, 2, 0, []) (List.mem_of_getElem? (i := 71) rfl)) rfl rfl rfl ?_
          refine zp_load (pc := 133) hx hb (zd_X12_orderly (133, .aload_n 0, 1, 0, []) (List.mem_of_getElem? (i := 72) rfl)) rfl (j := 2) rfl ?_
          refine zp_getf (n := (b51 : Int)) (pc := 134) hx hb hE hw (zd_X12_orderly (134, .getfield 137, 3, 0, []) (List.mem_of_getElem? (i := 73) rfl)) (j := 69) rfl rfl rfl hsr.1 ((zp_set_ne (Or.inr (by decide))).trans ((zp_set_ne (Or.inr (by decide))).trans ((zp_set_ne (Or.inr (by decide))).trans (hsr.2.2.2.2.2.2.2.1)))) ?_
          refine zp_const (pc := 137) hx hb (zd_X12_orderly (137, .iconst 0, 1, 0, []) (List.mem_of_getElem? (i := 74) rfl)) rfl rfl ?_
          refine zp_const (pc := 138) hx hb (zd_X12_orderly (138, .iconst (-1), 1, 0, []) (List.mem_of_getElem? (i := 75) rfl)) rfl rfl ?_
          refine zp_iast (j := 0) (pc := 139) hx hb hw heff (zd_X12_orderly (139, .iastore, 1, 0, []) (List.mem_of_getElem? (i := 76) rfl)) (show zp_ia 1 86 = some (7, 0, 0, (-1), 7) from rfl) hsr.2.2.2.1 (by omega) (by omega) (zp_o0 (by omega) (by omega) (by omega) (by omega)) rfl ?_
          have srz : sr_I a b3 b50 b51 b52 P (zp_set (zp_set (zp_set (zp_set G a 47 p1) a 49 (n : Int)) a 53 (-1)) b51 (2000 + 0) (-1)) := (sr_set (k := 2000 + 0) (v := (-1)) (sr_set (k := 53) (v := (-1)) (sr_set (k := 49) (v := (n : Int)) (sr_set (k := 47) (v := p1) hsr hsr.1 rfl) hsr.1 rfl) hsr.1 rfl) hsr.2.2.2.1 rfl)
          have nz : (zp_set (zp_set (zp_set (zp_set G a 47 p1) a 49 (n : Int)) a 53 (-1)) b51 (2000 + 0) (-1)) a 49 = (n : Int) := ((zp_set_ne (Or.inl (zp_pne hsr.1 hsr.2.2.2.1 (by decide)))).trans ((zp_set_ne (Or.inr (by decide))).trans (zp_set_self)))
          have mz : sr_M a n 9 (zp_set (zp_set (zp_set (zp_set G a 47 p1) a 49 (n : Int)) a 53 (-1)) b51 (2000 + 0) (-1)) := sr_zv hM hsr.2.2.2.2.2.2.1 srz.2.2.2.2.2.2.1 (fun q _ => ((zp_set_ne (Or.inl (zp_pne hsr.2.2.1 hsr.2.2.2.1 (by decide)))).trans ((zp_set_ne (Or.inl (zp_pne hsr.2.2.1 hsr.1 (by decide)))).trans ((zp_set_ne (Or.inl (zp_pne hsr.2.2.1 hsr.1 (by decide)))).trans ((zp_set_ne (Or.inl (zp_pne hsr.2.2.1 hsr.1 (by decide)))))))))
          have hti2 := hti (by omega)
          refine zp_drop (L' := [(5, 0, 0), (4, 0, (n : Int)), (0, 2, (a : Int)), (1, 0, p1), (2, 0, p2), (3, 0, p3)]) (by simp) ?_
          refine search n (by omega) (n - 1) 0 (fun _ => 0) (-1) 0 _ _ rfl (by omega) srz nz mz (fun q hq => absurd hq (Nat.not_lt_zero q)) (fun q hq => absurd hq (Nat.not_lt_zero q)) (by rw [zv_eq srz.2.2.2.2.2.2.2.1]; exact zp_set_self) (by omega) (by omega) (fun j P G hj hsr2 h492 hM2 hT2 => ?_)
          have hjn : j < 0 := by omega
          refine zp_load (pc := 140) hx hb (zd_X12_orderly (140, .iload 5, 2, 0, []) (List.mem_of_getElem? (i := 77) rfl)) rfl (j := 0) rfl ?_
          refine zp_if (pc := 142) (tgt := 214) hx hb (zd_X12_orderly (142, .ifCond .lt 72, 3, 0, []) (List.mem_of_getElem? (i := 78) rfl)) rfl (fun (hc229 : j < 0) => ?_) (fun (hc229 : ¬ (j < 0)) => ?_)
          · exact h214 n j P G (by omega) (by omega) (by omega) hsr2
          · exfalso
            omega
        · refine zp_const (pc := 112) hx hb (zd_X12_orderly (112, .iconst 0, 1, 0, []) (List.mem_of_getElem? (i := 59) rfl)) rfl rfl ?_
          refine zp_iret (pc := 113) (n := 0) hx hb hE hQ hU5 rfl (by decide) (zd_X12_orderly (113, .ireturn, 1, 0, []) (List.mem_of_getElem? (i := 60) rfl)) (j := 0) rfl (zp_o0 (by omega) (by omega) (by omega) (by omega)) ?_
          rw [hps]
          show G a 47 = -1
          exact e47
      · refine zp_const (pc := 105) hx hb (zd_X12_orderly (105, .iconst (-1), 1, 0, []) (List.mem_of_getElem? (i := 55) rfl)) rfl rfl ?_
        refine zp_iret (pc := 106) (n := (-1)) hx hb hE hQ hU5 rfl (by decide) (zd_X12_orderly (106, .ireturn, 1, 0, []) (List.mem_of_getElem? (i := 56) rfl)) (j := 0) rfl (zp_o0 (by omega) (by omega) (by omega) (by omega)) ?_
        rw [hps]
        show G a 47 = -1
        exact e47
  have loopA : ∀ (m0 i n : Nat) (P : Nat → Option Nat) (G : Nat → Nat → Int), 10 - i < m0 → i ≤ 10 → n ≤ i → sr_I a b3 b50 b51 b52 P G → sr_M a n 9 G → G a 47 = -1 → zp_J p l e R s m args below meth c Q w u [] 33 [(5, 0, (i : Int)), (4, 0, (n : Int)), (0, 2, (a : Int)), (1, 0, p1), (2, 0, p2), (3, 0, p3)] [] P G := by
    clear h214 search
    intro m0
    induction m0 with
    | zero => intro i n P G h; exact absurd h (Nat.not_lt_zero _)
    | succ m0 ih =>
      intro i n P G hm hi hni hsr hM e47
      refine zp_load (pc := 33) hx hb (zd_X12_orderly (33, .iload 5, 2, 0, []) (List.mem_of_getElem? (i := 19) rfl)) rfl (j := 0) rfl ?_
      refine zp_load (pc := 35) hx hb (zd_X12_orderly (35, .aload_n 0, 1, 0, []) (List.mem_of_getElem? (i := 20) rfl)) rfl (j := 2) rfl ?_
      refine zp_getf (n := (b3 : Int)) (pc := 36) hx hb hE hw (zd_X12_orderly (36, .getfield 13, 3, 0, []) (List.mem_of_getElem? (i := 21) rfl)) (j := 21) rfl rfl rfl hsr.1 hsr.2.2.2.2.2.1 ?_
      refine zp_const (pc := 39) hx hb (zd_X12_orderly (39, .iconst 1, 1, 0, []) (List.mem_of_getElem? (i := 22) rfl)) rfl rfl ?_
      refine zp_ialdT (j := 1) (v := (G b3 (2000 + 1))) (pc := 40) hx hb hw (zd_X12_orderly (40, .iaload, 1, 0, []) (List.mem_of_getElem? (i := 23) rfl)) zl_T59 rfl (zl_kd 1) hsr.2.1 rfl (show 1 < 5580 by decide) rfl (fun hk230 => ?_)
      rw [zl_f1] at hk230
      have hk230b := zp_int hk230
      refine zp_icmp (pc := 41) (tgt := 82) hx hb (zd_X12_orderly (41, .if_icmp .ge 41, 3, 0, []) (List.mem_of_getElem? (i := 24) rfl)) rfl (fun (hc231 : (G b3 (2000 + 1)) ≤ (i : Int)) => ?_) (fun (hc231 : ¬ ((G b3 (2000 + 1)) ≤ (i : Int))) => ?_)
      · exact h82 n i P G (by omega) hsr hM e47
      · refine zp_load (pc := 44) hx hb (zd_X12_orderly (44, .aload_n 0, 1, 0, []) (List.mem_of_getElem? (i := 25) rfl)) rfl (j := 2) rfl ?_
        refine zp_load (pc := 45) hx hb (zd_X12_orderly (45, .iload 5, 2, 0, []) (List.mem_of_getElem? (i := 26) rfl)) rfl (j := 0) rfl ?_
        refine zp_const (pc := 47) hx hb (zd_X12_orderly (47, .iconst 0, 1, 0, []) (List.mem_of_getElem? (i := 27) rfl)) rfl rfl ?_
        refine zp_call (pc := 48) (how := 0) (idx := 188) (mi := 196) (S := []) hx hb hE hw heff hrm (zp_plain (zq_1022 hW)) rfl (j := 7) rfl rfl (by decide +kernel) (zd_X12_orderly (48, .invokevirtual 188, 3, 0, []) (List.mem_of_getElem? (i := 28) rfl)) [(a : Int), (i : Int), 0] rfl ⟨zp_o2 hsr.1, zp_o0 (by omega) (by omega) (by omega) (by omega), zp_o0 (by omega) (by omega) (by omega) (by omega), trivial⟩ (Nat.le_of_ble_eq_true rfl) trivial (fun al hal rnw Pw Gw hextw hfrw hokw hcsw hpsiw => ?_)
        obtain rfl := List.mem_singleton.mp hal
        have hrw := zp_int (hokw _ rfl).1
        have srbw := hsr
        obtain ⟨srw, z50w, z51w⟩ := sr_fr srbw hextw hfrw (by decide +kernel)
        have e47w : Gw a 47 = -1 := (zp_nf hfrw hsr.1 rfl).trans e47
        have mw : sr_M a n 9 Gw := sr_zv hM hsr.2.2.2.2.2.2.1 srw.2.2.2.2.2.2.1 (fun q _ => z50w _)
        refine zp_load (pc := 51) hx hb (zd_X12_orderly (51, .iload_n 1, 1, 0, []) (List.mem_of_getElem? (i := 29) rfl)) rfl (j := 3) rfl ?_
        refine zp_icmp (pc := 52) (tgt := 76) hx hb (zd_X12_orderly (52, .if_icmp .ne 24, 3, 0, []) (List.mem_of_getElem? (i := 30) rfl)) rfl (fun (hc232 : ¬ rnw = p1) => ?_) (fun (hc232 : ¬ (¬ rnw = p1)) => ?_)
        · refine zp_iinc (L' := [(5, 0, ((i : Int) + 1)), (4, 0, (n : Int)), (0, 2, (a : Int)), (1, 0, p1), (2, 0, p2), (3, 0, p3)]) (n := ((i : Int) + 1)) (pc := 76) hx hb hnL (zd_X12_orderly (76, .iinc 5 1, 3, 0, []) (List.mem_of_getElem? (i := 41) rfl)) (j := 0) rfl (by omega) (zp_r0 (by omega) (by omega)) rfl rfl ?_
          refine zp_goto (tgt := 33) (pc := 79) hx hb (zd_X12_orderly (79, .goto (-46), 3, 0, []) (List.mem_of_getElem? (i := 42) rfl)) rfl ?_
          refine zp_drop (L' := [(5, 0, ((i : Int) + 1)), (4, 0, (n : Int)), (0, 2, (a : Int)), (1, 0, p1), (2, 0, p2), (3, 0, p3)]) (by simp) ?_
          exact ih (i + 1) n _ _ (by omega) (by omega) (by omega) srw mw (e47w)
        · refine zp_load (pc := 55) hx hb (zd_X12_orderly (55, .aload_n 0, 1, 0, []) (List.mem_of_getElem? (i := 31) rfl)) rfl (j := 2) rfl ?_
          refine zp_load (pc := 56) hx hb (zd_X12_orderly (56, .iload 5, 2, 0, []) (List.mem_of_getElem? (i := 32) rfl)) rfl (j := 0) rfl ?_
          refine zp_call (pc := 58) (how := 0) (idx := 210) (mi := 197) (S := []) hx hb hE hw heff hrm (zp_plain (zq_1024 hW)) rfl (j := 8) rfl rfl (by decide +kernel) (zd_X12_orderly (58, .invokevirtual 210, 3, 0, []) (List.mem_of_getElem? (i := 33) rfl)) [(a : Int), (i : Int)] rfl ⟨zp_o2 srw.1, zp_o0 (by omega) (by omega) (by omega) (by omega), trivial⟩ (Nat.le_of_ble_eq_true rfl) trivial (fun al hal rno Po Go hexto hfro hoko hcso hpsio => ?_)
          have hrno : 0 ≤ rno ∧ rno ≤ 1 ∧ ∃ f, al.1 = some f ∧ f.1 = 0 := by
            rcases List.mem_cons.mp hal with rfl | hal
            · have h := zp_int (hoko _ rfl).1
              exact ⟨by omega, by omega, _, rfl, rfl⟩
            · obtain rfl := List.mem_singleton.mp hal
              have h := zp_int (hoko _ rfl).1
              exact ⟨by omega, by omega, _, rfl, rfl⟩
          obtain ⟨h0o, h1o, fo, hfo, hf0o⟩ := hrno
          rw [hfo]
          dsimp only
          rw [hf0o]
          have srbo := srw
          obtain ⟨sro, z50o, z51o⟩ := sr_fr srbo hexto hfro (by decide +kernel)
          have e47o : Go a 47 = -1 := (zp_nf hfro srw.1 rfl).trans e47w
          have mo : sr_M a n 9 Go := sr_zv mw srw.2.2.2.2.2.2.1 sro.2.2.2.2.2.2.1 (fun q _ => z50o _)
          refine zp_if (pc := 61) (tgt := 76) hx hb (zd_X12_orderly (61, .ifCond .ne 15, 3, 0, []) (List.mem_of_getElem? (i := 34) rfl)) rfl (fun (hc233 : ¬ rno = 0) => ?_) (fun (hc233 : ¬ (¬ rno = 0)) => ?_)
          · refine zp_iinc (L' := [(5, 0, ((i : Int) + 1)), (4, 0, (n : Int)), (0, 2, (a : Int)), (1, 0, p1), (2, 0, p2), (3, 0, p3)]) (n := ((i : Int) + 1)) (pc := 76) hx hb hnL (zd_X12_orderly (76, .iinc 5 1, 3, 0, []) (List.mem_of_getElem? (i := 41) rfl)) (j := 0) rfl (by omega) (zp_r0 (by omega) (by omega)) rfl rfl ?_
            refine zp_goto (tgt := 33) (pc := 79) hx hb (zd_X12_orderly (79, .goto (-46), 3, 0, []) (List.mem_of_getElem? (i := 42) rfl)) rfl ?_
            refine zp_drop (L' := [(5, 0, ((i : Int) + 1)), (4, 0, (n : Int)), (0, 2, (a : Int)), (1, 0, p1), (2, 0, p2), (3, 0, p3)]) (by simp) ?_
            exact ih (i + 1) n _ _ (by omega) (by omega) (by omega) sro mo (e47o)
          · refine zp_load (pc := 64) hx hb (zd_X12_orderly (64, .aload_n 0, 1, 0, []) (List.mem_of_getElem? (i := 35) rfl)) rfl (j := 2) rfl ?_
            refine zp_getf (n := (b50 : Int)) (pc := 65) hx hb hE hw (zd_X12_orderly (65, .getfield 134, 3, 0, []) (List.mem_of_getElem? (i := 36) rfl)) (j := 68) rfl rfl rfl sro.1 sro.2.2.2.2.2.2.1 ?_
            refine zp_load (pc := 68) hx hb (zd_X12_orderly (68, .iload 4, 2, 0, []) (List.mem_of_getElem? (i := 37) rfl)) rfl (j := 1) rfl ?_
            refine zp_load (pc := 70) hx hb (zd_X12_orderly (70, .iload 5, 2, 0, []) (List.mem_of_getElem? (i := 38) rfl)) rfl (j := 0) rfl ?_
            refine zp_iast (j := n) (pc := 72) hx hb hw heff (zd_X12_orderly (72, .iastore, 1, 0, []) (List.mem_of_getElem? (i := 39) rfl)) (show zp_ia 1 85 = some (10, 0, 0, 0, 10) from rfl) sro.2.2.1 (by omega) (by omega) (zp_o0 (by omega) (by omega) (by omega) (by omega)) rfl ?_
            refine zp_iinc (L' := [(4, 0, ((n : Int) + 1)), (5, 0, (i : Int)), (0, 2, (a : Int)), (1, 0, p1), (2, 0, p2), (3, 0, p3)]) (n := ((n : Int) + 1)) (pc := 73) hx hb hnL (zd_X12_orderly (73, .iinc 4 1, 3, 0, []) (List.mem_of_getElem? (i := 40) rfl)) (j := 1) rfl (by omega) (zp_r0 (by omega) (by omega)) rfl rfl ?_
            refine zp_iinc (L' := [(5, 0, ((i : Int) + 1)), (4, 0, ((n : Int) + 1)), (0, 2, (a : Int)), (1, 0, p1), (2, 0, p2), (3, 0, p3)]) (n := ((i : Int) + 1)) (pc := 76) hx hb hnL (zd_X12_orderly (76, .iinc 5 1, 3, 0, []) (List.mem_of_getElem? (i := 41) rfl)) (j := 1) rfl (by omega) (zp_r0 (by omega) (by omega)) rfl rfl ?_
            refine zp_goto (tgt := 33) (pc := 79) hx hb (zd_X12_orderly (79, .goto (-46), 3, 0, []) (List.mem_of_getElem? (i := 42) rfl)) rfl ?_
            have srz : sr_I a b3 b50 b51 b52 Po (zp_set Go b50 (2000 + n) (i : Int)) := (sr_set (k := 2000 + n) (v := (i : Int)) sro sro.2.2.1 rfl)
            have mz : sr_M a (n + 1) 9 (zp_set Go b50 (2000 + n) (i : Int)) := fun q hq => by
              rw [zv_eq srz.2.2.2.2.2.2.1]
              by_cases hqn : q = n
              · subst hqn; rw [zp_set_self]; omega
              · rw [zp_set_ne (Or.inr (by omega)), ← zv_eq sro.2.2.2.2.2.2.1]; exact mo q (by omega)
            refine zp_drop (L' := [(5, 0, ((i : Int) + 1)), (4, 0, ((n : Int) + 1)), (0, 2, (a : Int)), (1, 0, p1), (2, 0, p2), (3, 0, p3)]) (by simp) ?_
            exact ih (i + 1) (n + 1) _ _ (by omega) (by omega) (by omega) srz mz (((zp_set_ne (Or.inl (zp_pne sro.1 sro.2.2.1 (by decide)))).trans (e47o)))
  refine zp_load (pc := 0) hx hb (zd_X12_orderly (0, .aload_n 0, 1, 0, []) (List.mem_of_getElem? (i := 0) rfl)) rfl (j := 0) rfl ?_
  refine zp_const (pc := 1) hx hb (zd_X12_orderly (1, .iconst 0, 1, 0, []) (List.mem_of_getElem? (i := 1) rfl)) rfl rfl ?_
  refine zp_putf (pc := 2) hx hb hE hw heff (zd_X12_orderly (2, .putfield 161, 3, 0, []) (List.mem_of_getElem? (i := 2) rfl)) (j := 18) rfl rfl rfl hsr.1 (zp_o0 (by decide) (by decide) (by decide) (by decide)) ?_
  refine zp_load (pc := 5) hx hb (zd_X12_orderly (5, .aload_n 0, 1, 0, []) (List.mem_of_getElem? (i := 3) rfl)) rfl (j := 0) rfl ?_
  refine zp_load (pc := 6) hx hb (zd_X12_orderly (6, .iload_n 1, 1, 0, []) (List.mem_of_getElem? (i := 4) rfl)) rfl (j := 1) rfl ?_
  refine zp_call (pc := 7) (how := 0) (idx := 201) (mi := 193) (S := []) hx hb hE hw heff hrm (zp_plain (zq_1012 hW)) rfl (j := 5) rfl rfl (by decide +kernel) (zd_X12_orderly (7, .invokevirtual 201, 3, 0, []) (List.mem_of_getElem? (i := 5) rfl)) [(a : Int), p1] rfl ⟨zp_o2 hp, k1, trivial⟩ (Nat.le_of_ble_eq_true rfl) trivial (fun al hal rnp Pp Gp hextp hfrp hokp hcsp hpsip => ?_)
  have hrnp : 0 ≤ rnp ∧ rnp ≤ 1 ∧ ∃ f, al.1 = some f ∧ f.1 = 0 := by
    rcases List.mem_cons.mp hal with rfl | hal
    · have h := zp_int (hokp _ rfl).1
      exact ⟨by omega, by omega, _, rfl, rfl⟩
    · obtain rfl := List.mem_singleton.mp hal
      have h := zp_int (hokp _ rfl).1
      exact ⟨by omega, by omega, _, rfl, rfl⟩
  obtain ⟨h0p, h1p, fp, hfp, hf0p⟩ := hrnp
  rw [hfp]
  dsimp only
  rw [hf0p]
  have srbp := (sr_set (k := 0) (v := 0) hsr hsr.1 rfl)
  obtain ⟨srp, z50p, z51p⟩ := sr_fr srbp hextp hfrp (by decide +kernel)
  have e47p : Gp a 47 = -1 := (zp_nf hfrp hsr.1 rfl).trans ((zp_set_ne (Or.inr (by decide))).trans (h47))
  refine zp_if (pc := 10) (tgt := 25) hx hb (zd_X12_orderly (10, .ifCond .eq 15, 3, 0, []) (List.mem_of_getElem? (i := 6) rfl)) rfl (fun (hc234 : rnp = 0) => ?_) (fun (hc234 : ¬ (rnp = 0)) => ?_)
  · refine zp_const (pc := 25) hx hb (zd_X12_orderly (25, .iconst (-1), 1, 0, []) (List.mem_of_getElem? (i := 13) rfl)) rfl rfl ?_
    refine zp_iret (pc := 26) (n := (-1)) hx hb hE hQ hU5 rfl (by decide) (zd_X12_orderly (26, .ireturn, 1, 0, []) (List.mem_of_getElem? (i := 14) rfl)) (j := 0) rfl (zp_o0 (by omega) (by omega) (by omega) (by omega)) ?_
    rw [hps]
    show Gp a 47 = -1
    exact e47p
  · refine zp_load (pc := 13) hx hb (zd_X12_orderly (13, .iload_n 2, 1, 0, []) (List.mem_of_getElem? (i := 7) rfl)) rfl (j := 2) rfl ?_
    refine zp_i2l (pc := 14) hx hb (zd_X12_orderly (14, .i2l, 1, 0, []) (List.mem_of_getElem? (i := 8) rfl)) ?_
    refine zp_const (pc := 15) hx hb (zd_X12_orderly (15, .lconst 0, 1, 0, []) (List.mem_of_getElem? (i := 9) rfl)) rfl rfl ?_
    refine zp_ldc2 (pc := 16) hx hb hE (zd_X12_orderly (16, .ldc2_w 431, 3, 0, []) (List.mem_of_getElem? (i := 10) rfl)) (j := 105) rfl ?_
    refine zp_call (pc := 19) (how := 1) (idx := 181) (mi := 186) (S := []) hx hb hE hw heff hrm (zX_in hW) rfl (j := 2) rfl rfl (by decide +kernel) (zd_X12_orderly (19, .invokestatic 181, 3, 0, []) (List.mem_of_getElem? (i := 11) rfl)) [p2, 0, 12] rfl ⟨zp_o1 (zp_r1 (by omega) (by omega)), zp_o1 (zp_r1 (by omega) (by omega)), zp_o1 (zp_r1 (by omega) (by omega)), trivial⟩ (Nat.le_of_ble_eq_true rfl) trivial (fun al hal rni Pi Gi hexti hfri hoki hcsi hpsii => ?_)
    obtain rfl := List.mem_singleton.mp hal
    have hri := zp_int (hoki _ rfl).1
    obtain ⟨hPei, hGei, hti⟩ := hpsii
    rw [hPei, hGei]
    have hti : rni = 1 → 0 ≤ p2 ∧ p2 ≤ 12 := hti
    refine zp_if (pc := 22) (tgt := 27) hx hb (zd_X12_orderly (22, .ifCond .ne 5, 3, 0, []) (List.mem_of_getElem? (i := 12) rfl)) rfl (fun (hc235 : ¬ rni = 0) => ?_) (fun (hc235 : ¬ (¬ rni = 0)) => ?_)
    · refine zp_const (pc := 27) hx hb (zd_X12_orderly (27, .iconst 0, 1, 0, []) (List.mem_of_getElem? (i := 15) rfl)) rfl rfl ?_
      refine zp_store (L' := [(4, 0, 0), (0, 2, (a : Int)), (1, 0, p1), (2, 0, p2), (3, 0, p3)]) (pc := 28) hx hb hnL (zd_X12_orderly (28, .istore 4, 2, 0, []) (List.mem_of_getElem? (i := 16) rfl)) rfl rfl rfl ?_
      refine zp_const (pc := 30) hx hb (zd_X12_orderly (30, .iconst 0, 1, 0, []) (List.mem_of_getElem? (i := 17) rfl)) rfl rfl ?_
      refine zp_store (L' := [(5, 0, 0), (4, 0, 0), (0, 2, (a : Int)), (1, 0, p1), (2, 0, p2), (3, 0, p3)]) (pc := 31) hx hb hnL (zd_X12_orderly (31, .istore 5, 2, 0, []) (List.mem_of_getElem? (i := 18) rfl)) rfl rfl rfl ?_
      refine zp_drop (L' := [(5, 0, ((0 : Nat) : Int)), (4, 0, ((0 : Nat) : Int)), (0, 2, (a : Int)), (1, 0, p1), (2, 0, p2), (3, 0, p3)]) (by simp) ?_
      exact loopA 11 0 0 _ _ (by omega) (by omega) (by omega) srp (fun q hq => absurd hq (Nat.not_lt_zero q)) (e47p)
    · refine zp_const (pc := 25) hx hb (zd_X12_orderly (25, .iconst (-1), 1, 0, []) (List.mem_of_getElem? (i := 13) rfl)) rfl rfl ?_
      refine zp_iret (pc := 26) (n := (-1)) hx hb hE hQ hU5 rfl (by decide) (zd_X12_orderly (26, .ireturn, 1, 0, []) (List.mem_of_getElem? (i := 14) rfl)) (j := 0) rfl (zp_o0 (by omega) (by omega) (by omega) (by omega)) ?_
      rw [hps]
      show Gp a 47 = -1
      exact e47p
