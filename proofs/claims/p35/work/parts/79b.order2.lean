/-! part 79b: number and readOrder once more: how often -/
def zo_ct (a : Nat) (G : Nat → Nat → Int) (i : Nat) : Prop := G a 19 = 0 → zv G a 56 i ≤ 20
def zo_in2 (a : Nat) (G : Nat → Nat → Int) : Prop := zo_in a G ∧ ∀ c : Nat, (c : Int) < G a 21 → zo_ct a G (8 * c + 7)
theorem zo_ct_keep {a i : Nat} {G G' : Nat → Nat → Int} (h : zo_ct a G i) (he : zo_ext a G G') (h1 : zv G' a 56 i = zv G a 56 i) : zo_ct a G' i := fun z => by
  rw [h1]
  exact h (he.2.2.1 z)
def zK_nu2 : zk_K := (zt_mn 228, prog_14_method_42_code, 6, (Option.some Jvm.ClassFile.FieldType.int), 1, 12, [(2, 92, 0, 0), (1, 0, (-9223372036854775808), 9223372036854775807), (1, 0, (-9223372036854775808), 9223372036854775807)], [(some (0, 0, (-2147483648), 2147483647), [])], [(92, 14, 0), (92, 15, 0), (92, 16, 0), (92, 17, 0), (92, 18, 0), (92, 19, 0)], (3, 130, 0, 0))
def zφ_nu2 : (Nat → Option Nat) → (Nat → Nat → Int) → List Int → Prop := fun _ G ps => zs_tk (zp_0 ps) G
def zψ_nu2 : (Nat → Option Nat) → (Nat → Nat → Int) → List Int → (Nat → Option Nat) → (Nat → Nat → Int) → Int → Prop := fun P G ps P' G' rn => P' = P ∧ zs_tk (zp_0 ps) G' ∧ ∃ is : Int, (is = 1 → ps.getD 1 0 ≤ G (zp_0 ps) 17 ∧ G (zp_0 ps) 17 ≤ ps.getD 2 0 ∧ (zk_rg 0 (G (zp_0 ps) 17) → rn = G (zp_0 ps) 17)) ∧ zs_mu (zp_0 ps) is G G'
theorem zX_nu2 {l : Launch} {w : zk_W} (hW : zh_W w) : zk_metX l w zt_dv zt_TB zK_nu2 (zp_A zφ_nu2) (zp_B zψ_nu2) ∧ zk_cok w zt_TB zK_nu2 := by
  refine zp_meth hW (pl := 1754) rfl (by decide +kernel) (fun p e R s m args below meth c Q u hx hb hE hQ hU5 heff hnL hok hφ => ?_)
  have hw := hW.1
  obtain ⟨p0, p1, p2, hps, k0, k1, k2⟩ := zp_ps3 hok
  obtain ⟨a, rfl, hp⟩ := zp_this k0
  have hrm : zk_Kr (zk_ev (zp_E zK_nu2)) = zk_Kr zK_nu2 := rfl
  rw [hps] at hφ ⊢
  have hφ : zs_tk a (zp_n u.2.1) := hφ
  show zp_J p l e R s m args below meth c Q w u [] 0 [(0, 2, (a : Int)), (1, 1, p1), (3, 1, p2)] [] u.1 (zp_n u.2.1)
  refine zp_kn (k := 17) (a := a) hw (show zp_fd 92 17 = some (12, 1, 0, (-9223372036854775808), 9223372036854775807) from rfl) rfl hp (fun hk17 => ?_)
  refine zp_load (pc := 0) hx hb (zd_X12_number (0, .aload_n 0, 1, 0, []) (List.mem_of_getElem? (i := 0) rfl)) rfl (j := 0) rfl ?_
  refine zp_getf (n := ((zp_n u.2.1) a 17)) (pc := 1) hx hb hE hw (zd_X12_number (1, .getfield 250, 3, 0, []) (List.mem_of_getElem? (i := 1) rfl)) (j := 35) rfl rfl rfl hp rfl ?_
  refine zp_l2i (pc := 4) hx hb (zd_X12_number (4, .l2i, 1, 0, []) (List.mem_of_getElem? (i := 2) rfl)) (fun x203 r_x203 e_x203 => ?_)
  have i_x203 := zp_rg0 r_x203
  refine zp_store (L' := [(5, 0, x203), (0, 2, (a : Int)), (1, 1, p1), (3, 1, p2)]) (pc := 5) hx hb hnL (zd_X12_number (5, .istore 5, 2, 0, []) (List.mem_of_getElem? (i := 3) rfl)) rfl rfl rfl ?_
  refine zp_load (pc := 7) hx hb (zd_X12_number (7, .aload_n 0, 1, 0, []) (List.mem_of_getElem? (i := 4) rfl)) rfl (j := 1) rfl ?_
  refine zp_load (pc := 8) hx hb (zd_X12_number (8, .aload_n 0, 1, 0, []) (List.mem_of_getElem? (i := 5) rfl)) rfl (j := 1) rfl ?_
  refine zp_getf (n := ((zp_n u.2.1) a 16)) (pc := 9) hx hb hE hw (zd_X12_number (9, .getfield 260, 3, 0, []) (List.mem_of_getElem? (i := 6) rfl)) (j := 34) rfl rfl rfl hp rfl ?_
  refine zp_const (pc := 12) hx hb (zd_X12_number (12, .iconst 2, 1, 0, []) (List.mem_of_getElem? (i := 7) rfl)) rfl rfl ?_
  refine zp_icmp (pc := 13) (tgt := 32) hx hb (zd_X12_number (13, .if_icmp .ne 19, 3, 0, []) (List.mem_of_getElem? (i := 8) rfl)) rfl (fun (hc204 : ¬ ((zp_n u.2.1) a 16) = 2) => ?_) (fun (hc204 : ¬ (¬ ((zp_n u.2.1) a 16) = 2)) => ?_)
  · refine zp_const (pc := 32) hx hb (zd_X12_number (32, .iconst 0, 1, 0, []) (List.mem_of_getElem? (i := 17) rfl)) rfl rfl ?_
    refine zp_call (pc := 33) (how := 0) (idx := 275) (mi := 217) (S := []) hx hb hE hw heff hrm (zX_mu hW) rfl (j := 19) rfl rfl (by decide +kernel) (zd_X12_number (33, .invokevirtual 275, 3, 0, []) (List.mem_of_getElem? (i := 18) rfl)) [(a : Int), 0] rfl ⟨zp_o2 hp, zp_o0 (by decide) (by decide) (by decide) (by decide), trivial⟩ (Nat.le_of_ble_eq_true rfl) hφ (fun al hal rnm Pm Gm hextm hfrm hokm hcsm hpsim => ?_)
    obtain rfl := List.mem_singleton.mp hal
    obtain ⟨rfl, htm, hmm⟩ := hpsim
    refine zp_load (pc := 36) hx hb (zd_X12_number (36, .iload 5, 2, 0, []) (List.mem_of_getElem? (i := 19) rfl)) rfl (j := 0) rfl ?_
    refine zp_iret (pc := 38) (n := x203) hx hb hE hQ hU5 rfl (by decide) (zd_X12_number (38, .ireturn, 1, 0, []) (List.mem_of_getElem? (i := 20) rfl)) (j := 0) rfl (zp_o0 (by omega) (by omega) (by omega) (by omega)) ?_
    rw [hps]
    refine ⟨rfl, htm, 0, ?_, hmm⟩
    intro hz
    show p1 ≤ zp_n u.2.1 a 17 ∧ zp_n u.2.1 a 17 ≤ p2 ∧ (zk_rg 0 (zp_n u.2.1 a 17) → x203 = zp_n u.2.1 a 17)
    exact absurd hz (by decide)
  · refine zp_load (pc := 16) hx hb (zd_X12_number (16, .aload_n 0, 1, 0, []) (List.mem_of_getElem? (i := 9) rfl)) rfl (j := 1) rfl ?_
    refine zp_getf (n := ((zp_n u.2.1) a 17)) (pc := 17) hx hb hE hw (zd_X12_number (17, .getfield 250, 3, 0, []) (List.mem_of_getElem? (i := 10) rfl)) (j := 35) rfl rfl rfl hp rfl ?_
    refine zp_load (pc := 20) hx hb (zd_X12_number (20, .lload_n 1, 1, 0, []) (List.mem_of_getElem? (i := 11) rfl)) rfl (j := 2) rfl ?_
    refine zp_load (pc := 21) hx hb (zd_X12_number (21, .lload_n 3, 1, 0, []) (List.mem_of_getElem? (i := 12) rfl)) rfl (j := 3) rfl ?_
    refine zp_call (pc := 22) (how := 1) (idx := 181) (mi := 186) (S := [(2, (a : Int))]) hx hb hE hw heff hrm (zX_in hW) rfl (j := 2) rfl rfl (by decide +kernel) (zd_X12_number (22, .invokestatic 181, 3, 0, []) (List.mem_of_getElem? (i := 13) rfl)) [((zp_n u.2.1) a 17), p1, p2] rfl ⟨zp_o1 (by first | assumption | exact hk17.2.2), k1, k2, trivial⟩ (Nat.le_of_ble_eq_true rfl) trivial (fun al hal rni Pi Gi hexti hfri hoki hcsi hpsii => ?_)
    obtain rfl := List.mem_singleton.mp hal
    have hri := zp_int (hoki _ rfl).1
    obtain ⟨hPei, hGei, hti⟩ := hpsii
    rw [hPei, hGei]
    have hti : rni = 1 → p1 ≤ zp_n u.2.1 a 17 ∧ zp_n u.2.1 a 17 ≤ p2 := hti
    refine zp_if (pc := 25) (tgt := 32) hx hb (zd_X12_number (25, .ifCond .eq 7, 3, 0, []) (List.mem_of_getElem? (i := 14) rfl)) rfl (fun (hc205 : rni = 0) => ?_) (fun (hc205 : ¬ (rni = 0)) => ?_)
    · refine zp_const (pc := 32) hx hb (zd_X12_number (32, .iconst 0, 1, 0, []) (List.mem_of_getElem? (i := 17) rfl)) rfl rfl ?_
      refine zp_call (pc := 33) (how := 0) (idx := 275) (mi := 217) (S := []) hx hb hE hw heff hrm (zX_mu hW) rfl (j := 19) rfl rfl (by decide +kernel) (zd_X12_number (33, .invokevirtual 275, 3, 0, []) (List.mem_of_getElem? (i := 18) rfl)) [(a : Int), 0] rfl ⟨zp_o2 hp, zp_o0 (by decide) (by decide) (by decide) (by decide), trivial⟩ (Nat.le_of_ble_eq_true rfl) hφ (fun al hal rnm Pm Gm hextm hfrm hokm hcsm hpsim => ?_)
      obtain rfl := List.mem_singleton.mp hal
      obtain ⟨rfl, htm, hmm⟩ := hpsim
      refine zp_load (pc := 36) hx hb (zd_X12_number (36, .iload 5, 2, 0, []) (List.mem_of_getElem? (i := 19) rfl)) rfl (j := 0) rfl ?_
      refine zp_iret (pc := 38) (n := x203) hx hb hE hQ hU5 rfl (by decide) (zd_X12_number (38, .ireturn, 1, 0, []) (List.mem_of_getElem? (i := 20) rfl)) (j := 0) rfl (zp_o0 (by omega) (by omega) (by omega) (by omega)) ?_
      rw [hps]
      refine ⟨rfl, htm, 0, ?_, hmm⟩
      intro hz
      show p1 ≤ zp_n u.2.1 a 17 ∧ zp_n u.2.1 a 17 ≤ p2 ∧ (zk_rg 0 (zp_n u.2.1 a 17) → x203 = zp_n u.2.1 a 17)
      exact absurd hz (by decide)
    · refine zp_const (pc := 28) hx hb (zd_X12_number (28, .iconst 1, 1, 0, []) (List.mem_of_getElem? (i := 15) rfl)) rfl rfl ?_
      refine zp_goto (tgt := 33) (pc := 29) hx hb (zd_X12_number (29, .goto 4, 3, 0, []) (List.mem_of_getElem? (i := 16) rfl)) rfl ?_
      refine zp_call (pc := 33) (how := 0) (idx := 275) (mi := 217) (S := []) hx hb hE hw heff hrm (zX_mu hW) rfl (j := 19) rfl rfl (by decide +kernel) (zd_X12_number (33, .invokevirtual 275, 3, 0, []) (List.mem_of_getElem? (i := 18) rfl)) [(a : Int), 1] rfl ⟨zp_o2 hp, zp_o0 (by decide) (by decide) (by decide) (by decide), trivial⟩ (Nat.le_of_ble_eq_true rfl) hφ (fun al hal rnm Pm Gm hextm hfrm hokm hcsm hpsim => ?_)
      obtain rfl := List.mem_singleton.mp hal
      obtain ⟨rfl, htm, hmm⟩ := hpsim
      refine zp_load (pc := 36) hx hb (zd_X12_number (36, .iload 5, 2, 0, []) (List.mem_of_getElem? (i := 19) rfl)) rfl (j := 0) rfl ?_
      refine zp_iret (pc := 38) (n := x203) hx hb hE hQ hU5 rfl (by decide) (zd_X12_number (38, .ireturn, 1, 0, []) (List.mem_of_getElem? (i := 20) rfl)) (j := 0) rfl (zp_o0 (by omega) (by omega) (by omega) (by omega)) ?_
      rw [hps]
      refine ⟨rfl, htm, 1, ?_, hmm⟩
      intro hz
      show p1 ≤ zp_n u.2.1 a 17 ∧ zp_n u.2.1 a 17 ≤ p2 ∧ (zk_rg 0 (zp_n u.2.1 a 17) → x203 = zp_n u.2.1 a 17)
      exact ⟨(hti (by omega)).1, (hti (by omega)).2, e_x203⟩
def zK_ro2 : zk_K := (zt_mn 288, prog_14_method_109_code, 4, (Option.none : Option Jvm.ClassFile.FieldType), 1, 12, [(2, 92, 0, 0)], [(none, [])], [(92, 14, 0), (92, 15, 0), (92, 16, 0), (92, 17, 0), (92, 18, 0), (92, 19, 0), (92, 30, 0), (92, 29, 0), (92, 23, 0), (68, 1001, 0), (69, 1001, 0), (70, 1001, 0), (71, 1001, 0), (92, 26, 0), (90, 1001, 0), (92, 21, 0)], (8, 380, 0, 0))
def zφ_ro2 : (Nat → Option Nat) → (Nat → Nat → Int) → List Int → Prop := fun _ G ps => zo_in2 (zp_0 ps) G
def zψ_ro2 : (Nat → Option Nat) → (Nat → Nat → Int) → List Int → (Nat → Option Nat) → (Nat → Nat → Int) → Int → Prop := fun P G ps P' G' rn => P' = P ∧ zo_in2 (zp_0 ps) G' ∧ G (zp_0 ps) 14 ≤ G' (zp_0 ps) 14 ∧ (G' (zp_0 ps) 19 = 0 → G (zp_0 ps) 19 = 0)
theorem zX_ro2 {l : Launch} {w : zk_W} (hW : zh_W w) : zk_metX l w zt_dv zt_TB zK_ro2 (zp_A zφ_ro2) (zp_B zψ_ro2) ∧ zk_cok w zt_TB zK_ro2 := by
  refine zp_meth hW (pl := 2007) rfl (by decide +kernel) (fun p e R s m args below meth c Q u hx hb hE hQ hU5 heff hnL hok hφ => ?_)
  have hw := hW.1
  obtain ⟨p0, hps, k0⟩ := zp_ps1 hok
  obtain ⟨a, rfl, hp⟩ := zp_this k0
  have hrm : zk_Kr (zk_ev (zp_E zK_ro2)) = zk_Kr zK_ro2 := rfl
  rw [hps] at hφ ⊢
  have hφ : zo_in2 a (zp_n u.2.1) := hφ
  obtain ⟨⟨htk, hc0, hc1, hn0, hn1, hok0⟩, hct0⟩ := hφ
  show zp_J p l e R s m args below meth c Q w u [] 0 [(0, 2, (a : Int))] [] u.1 (zp_n u.2.1)
  refine zp_kn (k := 24) (a := a) hw (show zp_fd 92 24 = some (12, 2, 68, 0, 0) from rfl) rfl hp (fun hk24 => ?_)
  obtain ⟨b24, hb24, hq24⟩ := zp_this hk24
  refine zp_kn (k := 25) (a := a) hw (show zp_fd 92 25 = some (12, 2, 69, 0, 0) from rfl) rfl hp (fun hk25 => ?_)
  obtain ⟨b25, hb25, hq25⟩ := zp_this hk25
  refine zp_kn (k := 56) (a := a) hw (show zp_fd 92 56 = some (12, 2, 90, 0, 0) from rfl) rfl hp (fun hk56 => ?_)
  obtain ⟨b56, hb56, hq56⟩ := zp_this hk56
  refine zp_kn (k := 21) (a := a) hw (show zp_fd 92 21 = some (12, 0, 0, 0, 12) from rfl) rfl hp (fun hk21 => ?_)
  obtain ⟨n0, hn0⟩ := zp_nat (zp_int hk21).1
  have hn0b := zp_int hk21
  rw [hn0] at hn0b
  refine zp_kn (k := 23) (a := a) hw (show zp_fd 92 23 = some (12, 0, 0, 0, 400) from rfl) rfl hp (fun hk23 => ?_)
  obtain ⟨q0, hq0⟩ := zp_nat (zp_int hk23).1
  have hq0b := zp_int hk23
  rw [hq0] at hq0b
  refine zp_kn (k := 19) (a := a) hw (show zp_fd 92 19 = some (12, 0, 0, 0, 1) from rfl) rfl hp (fun hk19 => ?_)
  have hxb := zp_int hk19
  refine zp_kn (k := 13) (a := a) hw (show zp_fd 92 13 = some (12, 0, 0, 0, 400) from rfl) rfl hp (fun hk13 => ?_)
  have hxb := zp_int hk13
  have htk2 := htk
  obtain ⟨t1, t2, t3, -, -, -⟩ := htk2
  have h265 : ∀ (k3 act : Int) (G : Nat → Nat → Int), n0 < 12 → zo_ext a (zp_n u.2.1) G → G a 21 = (n0 : Int) + 1 → (∀ j, j < 8 * n0 → zv G a 56 j = zv (zp_n u.2.1) a 56 j) → zo_pr a G (8 * n0 + 1) → zo_pr a G (8 * n0 + 3) → G a 24 = (b24 : Int) → G a 25 = (b25 : Int) → G a 56 = (b56 : Int) → zo_ct a G (8 * n0 + 7) → 0 ≤ zv G a 56 (8 * n0 + 5) → zv G a 56 (8 * n0 + 5) ≤ G a 23 → (G a 19 = 0 → zv G a 56 (8 * n0 + 5) < G a 23 → zk_cr (zv G a 24) (zv G a 25) (zv G a 56 (8 * n0 + 5)).toNat (G a 23).toNat) → zp_J p l e R s m args below meth c Q w u [] 265 [(3, 0, k3), (2, 0, (8 * (n0 : Int))), (1, 0, act), (0, 2, (a : Int))] [] u.1 G := by
    intro k3 act G hn12 hext0 g21 z56 pr1 pr3 g24 g25 g56 ct7 p50 p51 p5c
    have hext1 := hext0
    obtain ⟨gtk, gle, gbad, gnc, gncf, gcode⟩ := hext1
    have gtk2 := gtk
    obtain ⟨q1, q2, q3, -, -, -⟩ := gtk2
    refine zp_kn (k := 13) (a := a) (G := G) hw (show zp_fd 92 13 = some (12, 0, 0, 0, 400) from rfl) rfl hp (fun hk13 => ?_)
    have hx13 := zp_int hk13
    refine zp_kn (k := 23) (a := a) (G := G) hw (show zp_fd 92 23 = some (12, 0, 0, 0, 400) from rfl) rfl hp (fun hk23 => ?_)
    have hx23 := zp_int hk23
    refine zp_kn (k := 19) (a := a) (G := G) hw (show zp_fd 92 19 = some (12, 0, 0, 0, 1) from rfl) rfl hp (fun hk19 => ?_)
    have hx19 := zp_int hk19
    obtain ⟨n2, hn2⟩ := zp_nat (n := G a 23) (by omega)
    refine zp_load (pc := 265) hx hb (zd_X12_readOrder (265, .aload_n 0, 1, 0, []) (List.mem_of_getElem? (i := 142) rfl)) rfl (j := 3) rfl ?_
    refine zp_getf (n := (b56 : Int)) (pc := 266) hx hb hE hw (zd_X12_readOrder (266, .getfield 149, 3, 0, []) (List.mem_of_getElem? (i := 143) rfl)) (j := 74) rfl rfl rfl hp g56 ?_
    refine zp_load (pc := 269) hx hb (zd_X12_readOrder (269, .iload_n 2, 1, 0, []) (List.mem_of_getElem? (i := 144) rfl)) rfl (j := 1) rfl ?_
    refine zp_const (pc := 270) hx hb (zd_X12_readOrder (270, .bipush 6, 2, 0, []) (List.mem_of_getElem? (i := 145) rfl)) rfl rfl ?_
    refine zp_add (n := (8 * (n0 : Int) + 6)) (pc := 272) hx hb (zd_X12_readOrder (272, .iadd, 1, 0, []) (List.mem_of_getElem? (i := 146) rfl)) (by omega) (zp_r0 (by omega) (by omega)) ?_
    refine zp_load (pc := 273) hx hb (zd_X12_readOrder (273, .aload_n 0, 1, 0, []) (List.mem_of_getElem? (i := 147) rfl)) rfl (j := 3) rfl ?_
    refine zp_getf (n := (n2 : Int)) (pc := 274) hx hb hE hw (zd_X12_readOrder (274, .getfield 279, 3, 0, []) (List.mem_of_getElem? (i := 148) rfl)) (j := 41) rfl rfl rfl hp hn2 ?_
    refine zp_iast (j := (8 * n0 + 6)) (pc := 277) hx hb hw heff (zd_X12_readOrder (277, .iastore, 1, 0, []) (List.mem_of_getElem? (i := 149) rfl)) (show zp_ia 1 90 = some (96, 0, 0, (-2147483648), 2147483647) from rfl) hq56 (by omega) (by omega) (zp_o0 (by omega) (by omega) (by omega) (by omega)) rfl ?_
    have yg24 : (zp_set G b56 (2000 + (8 * n0 + 6)) (n2 : Int)) a 24 = (b24 : Int) := ((zp_set_ne (Or.inl (zp_pne hp hq56 (by decide)))).trans (g24))
    have yg25 : (zp_set G b56 (2000 + (8 * n0 + 6)) (n2 : Int)) a 25 = (b25 : Int) := ((zp_set_ne (Or.inl (zp_pne hp hq56 (by decide)))).trans (g25))
    have yg56 : (zp_set G b56 (2000 + (8 * n0 + 6)) (n2 : Int)) a 56 = (b56 : Int) := ((zp_set_ne (Or.inl (zp_pne hp hq56 (by decide)))).trans (g56))
    have yv24 : ∀ j, zv (zp_set G b56 (2000 + (8 * n0 + 6)) (n2 : Int)) a 24 j = zv G a 24 j := fun j => by rw [zv_eq yg24, zv_eq (g24)]; rw [zp_set_ne (Or.inl (zp_pne hq24 hq56 (by decide)))]
    have yv25 : ∀ j, zv (zp_set G b56 (2000 + (8 * n0 + 6)) (n2 : Int)) a 25 j = zv G a 25 j := fun j => by rw [zv_eq yg25, zv_eq (g25)]; rw [zp_set_ne (Or.inl (zp_pne hq25 hq56 (by decide)))]
    have yxs : zo_ext a G (zp_set G b56 (2000 + (8 * n0 + 6)) (n2 : Int)) := zo_ext_same gtk gncf ((zp_set_ne (Or.inl (zp_pne hp hq56 (by decide))))) ((zp_set_ne (Or.inl (zp_pne hp hq56 (by decide))))) ((zp_set_ne (Or.inl (zp_pne hp hq56 (by decide))))) ((zp_set_ne (Or.inl (zp_pne hp hq56 (by decide))))) ((zp_set_ne (Or.inl (zp_pne hp hq56 (by decide))))) ((zp_set_ne (Or.inl (zp_pne hp hq56 (by decide))))) yv24 yv25
    have y14 : (zp_set G b56 (2000 + (8 * n0 + 6)) (n2 : Int)) a 14 = G a 14 := ((zp_set_ne (Or.inl (zp_pne hp hq56 (by decide)))))
    have y19 : (zp_set G b56 (2000 + (8 * n0 + 6)) (n2 : Int)) a 19 = G a 19 := ((zp_set_ne (Or.inl (zp_pne hp hq56 (by decide)))))
    have y21 : (zp_set G b56 (2000 + (8 * n0 + 6)) (n2 : Int)) a 21 = G a 21 := ((zp_set_ne (Or.inl (zp_pne hp hq56 (by decide)))))
    have y23 : (zp_set G b56 (2000 + (8 * n0 + 6)) (n2 : Int)) a 23 = G a 23 := ((zp_set_ne (Or.inl (zp_pne hp hq56 (by decide)))))
    have yo : ∀ j, j ≠ 8 * n0 + 6 → zv (zp_set G b56 (2000 + (8 * n0 + 6)) (n2 : Int)) a 56 j = zv G a 56 j := fun j hj => by rw [zv_eq yg56, zv_eq g56]; exact zp_set_ne (Or.inr (by omega))
    have yo6 : zv (zp_set G b56 (2000 + (8 * n0 + 6)) (n2 : Int)) a 56 (8 * n0 + 6) = (n2 : Int) := by rw [zv_eq yg56]; exact zp_set_self
    refine zp_vret (pc := 278) hx hb hE hQ hU5 rfl (by decide) (zd_X12_readOrder (278, .return_, 1, 0, []) (List.mem_of_getElem? (i := 150) rfl)) (j := 0) rfl ?_
    rw [hps]
    refine ⟨rfl, ?_⟩
    show zo_in2 a (zp_set G b56 (2000 + (8 * n0 + 6)) (n2 : Int)) ∧ zp_n u.2.1 a 14 ≤ (zp_set G b56 (2000 + (8 * n0 + 6)) (n2 : Int)) a 14 ∧ ((zp_set G b56 (2000 + (8 * n0 + 6)) (n2 : Int)) a 19 = 0 → zp_n u.2.1 a 19 = 0)
    refine ⟨⟨⟨yxs.1, by omega, by omega, by omega, by omega, fun c hc => ?_⟩, fun c hc => ?_⟩, by omega, fun z => gbad (by omega)⟩
    by_cases hcn : n0 = c
    · subst hcn
      refine ⟨zo_pr_keep pr1 yxs (yo _ (by omega)) (yo _ (by omega)), zo_pr_keep pr3 yxs (yo _ (by omega)) (yo _ (by omega)), ?_⟩
      unfold zo_pr
      rw [yo (8 * n0 + 5) (by omega), show 8 * n0 + 5 + 1 = 8 * n0 + 6 by omega, yo6]
      refine ⟨p50, by omega, by omega, by omega, fun z z2 => ?_⟩
      have h9 := p5c (by omega) (by omega)
      rw [hn2] at h9
      exact zh_crc h9 (fun q _ _ => ⟨(yv24 q).symm, (yv25 q).symm⟩)
    · have hcl := hok0 c (by omega)
      have hE := zo_ext_tr hext0 yxs
      have hz : ∀ j, j < 8 * n0 → zv (zp_set G b56 (2000 + (8 * n0 + 6)) (n2 : Int)) a 56 j = zv (zp_n u.2.1) a 56 j := fun j hj => (yo j (by omega)).trans (z56 j hj)
      exact ⟨zo_pr_keep hcl.1 hE (hz _ (by omega)) (hz _ (by omega)), zo_pr_keep hcl.2.1 hE (hz _ (by omega)) (hz _ (by omega)), zo_pr_keep hcl.2.2 hE (hz _ (by omega)) (hz _ (by omega))⟩
    · by_cases hcn : n0 = c
      · subst hcn
        exact zo_ct_keep ct7 yxs (yo _ (by omega))
      · exact zo_ct_keep (hct0 c (by omega)) (zo_ext_tr hext0 yxs) ((yo _ (by omega)).trans (z56 _ (by omega)))
  have h227 : ∀ (k3 act : Int) (G : Nat → Nat → Int), n0 < 12 → zo_ext a (zp_n u.2.1) G → G a 21 = (n0 : Int) + 1 → (∀ j, j < 8 * n0 → zv G a 56 j = zv (zp_n u.2.1) a 56 j) → zo_pr a G (8 * n0 + 1) → zo_pr a G (8 * n0 + 3) → G a 24 = (b24 : Int) → G a 25 = (b25 : Int) → G a 56 = (b56 : Int) → zo_ct a G (8 * n0 + 7) → zp_J p l e R s m args below meth c Q w u [] 227 [(3, 0, k3), (2, 0, (8 * (n0 : Int))), (1, 0, act), (0, 2, (a : Int))] [] u.1 G := by
    intro k3 act G hn12 hext0 g21 z56 pr1 pr3 g24 g25 g56 ct7
    have hext1 := hext0
    obtain ⟨gtk, gle, gbad, gnc, gncf, gcode⟩ := hext1
    have gtk2 := gtk
    obtain ⟨q1, q2, q3, -, -, -⟩ := gtk2
    refine zp_kn (k := 13) (a := a) (G := G) hw (show zp_fd 92 13 = some (12, 0, 0, 0, 400) from rfl) rfl hp (fun hk13 => ?_)
    have hx13 := zp_int hk13
    refine zp_kn (k := 23) (a := a) (G := G) hw (show zp_fd 92 23 = some (12, 0, 0, 0, 400) from rfl) rfl hp (fun hk23 => ?_)
    have hx23 := zp_int hk23
    refine zp_kn (k := 19) (a := a) (G := G) hw (show zp_fd 92 19 = some (12, 0, 0, 0, 1) from rfl) rfl hp (fun hk19 => ?_)
    have hx19 := zp_int hk19
    obtain ⟨n2, hn2⟩ := zp_nat (n := G a 23) (by omega)
    refine zp_load (pc := 227) hx hb (zd_X12_readOrder (227, .aload_n 0, 1, 0, []) (List.mem_of_getElem? (i := 122) rfl)) rfl (j := 3) rfl ?_
    refine zp_getf (n := (b56 : Int)) (pc := 228) hx hb hE hw (zd_X12_readOrder (228, .getfield 149, 3, 0, []) (List.mem_of_getElem? (i := 123) rfl)) (j := 74) rfl rfl rfl hp g56 ?_
    refine zp_load (pc := 231) hx hb (zd_X12_readOrder (231, .iload_n 2, 1, 0, []) (List.mem_of_getElem? (i := 124) rfl)) rfl (j := 1) rfl ?_
    refine zp_const (pc := 232) hx hb (zd_X12_readOrder (232, .iconst 5, 1, 0, []) (List.mem_of_getElem? (i := 125) rfl)) rfl rfl ?_
    refine zp_add (n := (8 * (n0 : Int) + 5)) (pc := 233) hx hb (zd_X12_readOrder (233, .iadd, 1, 0, []) (List.mem_of_getElem? (i := 126) rfl)) (by omega) (zp_r0 (by omega) (by omega)) ?_
    refine zp_load (pc := 234) hx hb (zd_X12_readOrder (234, .aload_n 0, 1, 0, []) (List.mem_of_getElem? (i := 127) rfl)) rfl (j := 3) rfl ?_
    refine zp_getf (n := (n2 : Int)) (pc := 235) hx hb hE hw (zd_X12_readOrder (235, .getfield 279, 3, 0, []) (List.mem_of_getElem? (i := 128) rfl)) (j := 41) rfl rfl rfl hp hn2 ?_
    refine zp_iast (j := (8 * n0 + 5)) (pc := 238) hx hb hw heff (zd_X12_readOrder (238, .iastore, 1, 0, []) (List.mem_of_getElem? (i := 129) rfl)) (show zp_ia 1 90 = some (96, 0, 0, (-2147483648), 2147483647) from rfl) hq56 (by omega) (by omega) (zp_o0 (by omega) (by omega) (by omega) (by omega)) rfl ?_
    have yg24 : (zp_set G b56 (2000 + (8 * n0 + 5)) (n2 : Int)) a 24 = (b24 : Int) := ((zp_set_ne (Or.inl (zp_pne hp hq56 (by decide)))).trans (g24))
    have yg25 : (zp_set G b56 (2000 + (8 * n0 + 5)) (n2 : Int)) a 25 = (b25 : Int) := ((zp_set_ne (Or.inl (zp_pne hp hq56 (by decide)))).trans (g25))
    have yg56 : (zp_set G b56 (2000 + (8 * n0 + 5)) (n2 : Int)) a 56 = (b56 : Int) := ((zp_set_ne (Or.inl (zp_pne hp hq56 (by decide)))).trans (g56))
    have yv24 : ∀ j, zv (zp_set G b56 (2000 + (8 * n0 + 5)) (n2 : Int)) a 24 j = zv G a 24 j := fun j => by rw [zv_eq yg24, zv_eq (g24)]; rw [zp_set_ne (Or.inl (zp_pne hq24 hq56 (by decide)))]
    have yv25 : ∀ j, zv (zp_set G b56 (2000 + (8 * n0 + 5)) (n2 : Int)) a 25 j = zv G a 25 j := fun j => by rw [zv_eq yg25, zv_eq (g25)]; rw [zp_set_ne (Or.inl (zp_pne hq25 hq56 (by decide)))]
    have yxs : zo_ext a G (zp_set G b56 (2000 + (8 * n0 + 5)) (n2 : Int)) := zo_ext_same gtk gncf ((zp_set_ne (Or.inl (zp_pne hp hq56 (by decide))))) ((zp_set_ne (Or.inl (zp_pne hp hq56 (by decide))))) ((zp_set_ne (Or.inl (zp_pne hp hq56 (by decide))))) ((zp_set_ne (Or.inl (zp_pne hp hq56 (by decide))))) ((zp_set_ne (Or.inl (zp_pne hp hq56 (by decide))))) ((zp_set_ne (Or.inl (zp_pne hp hq56 (by decide))))) yv24 yv25
    have y13 : (zp_set G b56 (2000 + (8 * n0 + 5)) (n2 : Int)) a 13 = G a 13 := ((zp_set_ne (Or.inl (zp_pne hp hq56 (by decide)))))
    have y14 : (zp_set G b56 (2000 + (8 * n0 + 5)) (n2 : Int)) a 14 = G a 14 := ((zp_set_ne (Or.inl (zp_pne hp hq56 (by decide)))))
    have y15 : (zp_set G b56 (2000 + (8 * n0 + 5)) (n2 : Int)) a 15 = G a 15 := ((zp_set_ne (Or.inl (zp_pne hp hq56 (by decide)))))
    have y16 : (zp_set G b56 (2000 + (8 * n0 + 5)) (n2 : Int)) a 16 = G a 16 := ((zp_set_ne (Or.inl (zp_pne hp hq56 (by decide)))))
    have y19 : (zp_set G b56 (2000 + (8 * n0 + 5)) (n2 : Int)) a 19 = G a 19 := ((zp_set_ne (Or.inl (zp_pne hp hq56 (by decide)))))
    have y21 : (zp_set G b56 (2000 + (8 * n0 + 5)) (n2 : Int)) a 21 = G a 21 := ((zp_set_ne (Or.inl (zp_pne hp hq56 (by decide)))))
    have y23 : (zp_set G b56 (2000 + (8 * n0 + 5)) (n2 : Int)) a 23 = G a 23 := ((zp_set_ne (Or.inl (zp_pne hp hq56 (by decide)))))
    have yo : ∀ j, j ≠ 8 * n0 + 5 → zv (zp_set G b56 (2000 + (8 * n0 + 5)) (n2 : Int)) a 56 j = zv G a 56 j := fun j hj => by rw [zv_eq yg56, zv_eq g56]; exact zp_set_ne (Or.inr (by omega))
    have yo5 : zv (zp_set G b56 (2000 + (8 * n0 + 5)) (n2 : Int)) a 56 (8 * n0 + 5) = (n2 : Int) := by rw [zv_eq yg56]; exact zp_set_self
    have ytk := yxs.1
    refine zp_load (pc := 239) hx hb (zd_X12_readOrder (239, .aload_n 0, 1, 0, []) (List.mem_of_getElem? (i := 130) rfl)) rfl (j := 3) rfl ?_
    refine zp_getf (n := (G a 19)) (pc := 240) hx hb hE hw (zd_X12_readOrder (240, .getfield 240, 3, 0, []) (List.mem_of_getElem? (i := 131) rfl)) (j := 37) rfl rfl rfl hp ((zp_set_ne (Or.inl (zp_pne hp hq56 (by decide))))) ?_
    refine zp_if (pc := 243) (tgt := 265) hx hb (zd_X12_readOrder (243, .ifCond .ne 22, 3, 0, []) (List.mem_of_getElem? (i := 132) rfl)) rfl (fun (hc206 : ¬ (G a 19) = 0) => ?_) (fun (hc206 : ¬ (¬ (G a 19) = 0)) => ?_)
    · exact h265 _ _ _ hn12 (zo_ext_tr hext0 yxs) (y21.trans g21) (fun j hj => (yo j (by omega)).trans (z56 j hj)) (zo_pr_keep pr1 yxs (yo _ (by omega)) (yo _ (by omega))) (zo_pr_keep pr3 yxs (yo _ (by omega)) (yo _ (by omega))) yg24 yg25 yg56 (zo_ct_keep ct7 yxs (yo _ (by omega))) (by omega) (by omega) (fun _ z => by omega)
    · refine zp_load (pc := 246) hx hb (zd_X12_readOrder (246, .aload_n 0, 1, 0, []) (List.mem_of_getElem? (i := 133) rfl)) rfl (j := 3) rfl ?_
      refine zp_ldc2 (pc := 247) hx hb hE (zd_X12_readOrder (247, .ldc2_w 377, 3, 0, []) (List.mem_of_getElem? (i := 134) rfl)) (j := 104) rfl ?_
      refine zp_call (pc := 250) (how := 0) (idx := 300) (mi := 216) (S := []) hx hb hE hw heff hrm (zX_wo hW) rfl (j := 18) rfl rfl (by decide +kernel) (zd_X12_readOrder (250, .invokevirtual 300, 3, 0, []) (List.mem_of_getElem? (i := 135) rfl)) [(a : Int), 294] rfl ⟨zp_o2 hp, zp_o1 ⟨by decide, by decide⟩, trivial⟩ (Nat.le_of_ble_eq_true rfl) trivial (fun al hal rnw Pw Gw hextw hfrw hokw hcsw hpsiw => ?_)
      obtain rfl := List.mem_singleton.mp hal
      have hrw := zp_int (hokw _ rfl).1
      obtain ⟨hPew, hGew, htw⟩ := hpsiw
      rw [hPew, hGew]
      refine zp_if (pc := 253) (tgt := 265) hx hb (zd_X12_readOrder (253, .ifCond .eq 12, 3, 0, []) (List.mem_of_getElem? (i := 136) rfl)) rfl (fun (hc207 : rnw = 0) => ?_) (fun (hc207 : ¬ (rnw = 0)) => ?_)
      · exact h265 _ _ _ hn12 (zo_ext_tr hext0 yxs) (y21.trans g21) (fun j hj => (yo j (by omega)).trans (z56 j hj)) (zo_pr_keep pr1 yxs (yo _ (by omega)) (yo _ (by omega))) (zo_pr_keep pr3 yxs (yo _ (by omega)) (yo _ (by omega))) yg24 yg25 yg56 (zo_ct_keep ct7 yxs (yo _ (by omega))) (by omega) (by omega) (fun _ z => by omega)
      · refine zp_load (pc := 256) hx hb (zd_X12_readOrder (256, .aload_n 0, 1, 0, []) (List.mem_of_getElem? (i := 137) rfl)) rfl (j := 3) rfl ?_
        refine zp_call (pc := 257) (how := 0) (idx := 244) (mi := 212) (S := []) hx hb hE hw heff hrm (zX_nx hW) rfl (j := 14) rfl rfl (by decide +kernel) (zd_X12_readOrder (257, .invokevirtual 244, 3, 0, []) (List.mem_of_getElem? (i := 138) rfl)) [(a : Int)] rfl ⟨zp_o2 hp, trivial⟩ (Nat.le_of_ble_eq_true rfl) (show 0 ≤ (zp_set G b56 (2000 + (8 * n0 + 5)) (n2 : Int)) a 15 ∧ (zp_set G b56 (2000 + (8 * n0 + 5)) (n2 : Int)) a 15 ≤ (zp_set G b56 (2000 + (8 * n0 + 5)) (n2 : Int)) a 13 by omega) (fun al hal rnn Pn Gn hextn hfrn hokn hcsn hpsin => ?_)
        obtain rfl := List.mem_singleton.mp hal
        obtain ⟨rfl, hxn⟩ := hpsin
        have hxn : (zp_set G b56 (2000 + (8 * n0 + 5)) (n2 : Int)) a 15 ≤ Gn a 14 ∧ Gn a 14 ≤ Gn a 15 ∧ Gn a 15 ≤ (zp_set G b56 (2000 + (8 * n0 + 5)) (n2 : Int)) a 13 ∧ 0 ≤ Gn a 16 ∧ Gn a 16 ≤ 3 ∧ (Gn a 16 ≠ 0 → Gn a 14 < Gn a 15) := hxn
        have n13 : Gn a 13 = (zp_set G b56 (2000 + (8 * n0 + 5)) (n2 : Int)) a 13 := zp_nf hfrn hp rfl
        have n19 : Gn a 19 = (zp_set G b56 (2000 + (8 * n0 + 5)) (n2 : Int)) a 19 := zp_nf hfrn hp rfl
        have n21 : Gn a 21 = (zp_set G b56 (2000 + (8 * n0 + 5)) (n2 : Int)) a 21 := zp_nf hfrn hp rfl
        have n23 : Gn a 23 = (zp_set G b56 (2000 + (8 * n0 + 5)) (n2 : Int)) a 23 := zp_nf hfrn hp rfl
        have n24 : Gn a 24 = (b24 : Int) := (zp_nf hfrn hp rfl).trans yg24
        have n25 : Gn a 25 = (b25 : Int) := (zp_nf hfrn hp rfl).trans yg25
        have n56 : Gn a 56 = (b56 : Int) := (zp_nf hfrn hp rfl).trans yg56
        have ntk : zs_tk a Gn := by unfold zs_tk; omega
        have nv24 : ∀ j, zv Gn a 24 j = zv (zp_set G b56 (2000 + (8 * n0 + 5)) (n2 : Int)) a 24 j := fun j => by rw [zv_eq n24, zv_eq yg24, zp_nc hfrn hq24 rfl]
        have nv25 : ∀ j, zv Gn a 25 j = zv (zp_set G b56 (2000 + (8 * n0 + 5)) (n2 : Int)) a 25 j := fun j => by rw [zv_eq n25, zv_eq yg25, zp_nc hfrn hq25 rfl]
        have nv56 : ∀ j, zv Gn a 56 j = zv (zp_set G b56 (2000 + (8 * n0 + 5)) (n2 : Int)) a 56 j := fun j => by rw [zv_eq n56, zv_eq yg56, zp_nc hfrn hq56 rfl]
        have nxs : zo_ext a (zp_set G b56 (2000 + (8 * n0 + 5)) (n2 : Int)) Gn := ⟨ntk, by omega, fun z => by omega, by omega, by omega, fun q _ => ⟨nv24 q, nv25 q⟩⟩
        refine zp_load (pc := 260) hx hb (zd_X12_readOrder (260, .aload_n 0, 1, 0, []) (List.mem_of_getElem? (i := 139) rfl)) rfl (j := 3) rfl ?_
        refine zp_const (pc := 261) hx hb (zd_X12_readOrder (261, .iconst 1, 1, 0, []) (List.mem_of_getElem? (i := 140) rfl)) rfl rfl ?_
        refine zp_call (pc := 262) (how := 0) (idx := 374) (mi := 218) (S := []) hx hb hE hw heff hrm (zX_ex hW) rfl (j := 20) rfl rfl (by decide +kernel) (zd_X12_readOrder (262, .invokevirtual 374, 3, 0, []) (List.mem_of_getElem? (i := 141) rfl)) [(a : Int), 1] rfl ⟨zp_o2 hp, zp_o0 (by decide) (by decide) (by decide) (by decide), trivial⟩ (Nat.le_of_ble_eq_true rfl) (show zs_tk a Gn ∧ Gn a 23 ≤ Gn a 14 from ⟨ntk, by omega⟩) (fun al hal rne Pe Ge hexte hfre hoke hcse hpsie => ?_)
        obtain rfl := List.mem_singleton.mp hal
        obtain ⟨rfl, hxe⟩ := hpsie
        have hxe : zx_tells a Gn Ge := hxe
        obtain ⟨x1, x2, x3, x4, x5, x6, x7⟩ := hxe
        have e24 : Ge a 24 = (b24 : Int) := (zp_nf hfre hp rfl).trans n24
        have e25 : Ge a 25 = (b25 : Int) := (zp_nf hfre hp rfl).trans n25
        have e56 : Ge a 56 = (b56 : Int) := (zp_nf hfre hp rfl).trans n56
        have exs : zo_ext a Gn Ge := ⟨x1, x2, x3, x4, x5, x6⟩
        have ev56 : ∀ j, zv Ge a 56 j = zv Gn a 56 j := fun j => by rw [zv_eq e56, zv_eq n56, zp_nc hfre hq56 rfl]
        have e21 : Ge a 21 = Gn a 21 := zp_nf hfre hp rfl
        have oo : ∀ j, j ≠ 8 * n0 + 5 → zv Ge a 56 j = zv G a 56 j := fun j hj => (ev56 j).trans ((nv56 j).trans (yo j hj))
        have o5 : zv Ge a 56 (8 * n0 + 5) = (n2 : Int) := (ev56 _).trans ((nv56 _).trans yo5)
        have hE := zo_ext_tr yxs (zo_ext_tr nxs exs)
        exact h265 _ _ Ge hn12 (zo_ext_tr hext0 hE) (by omega) (fun j hj => (oo j (by omega)).trans (z56 j hj)) (zo_pr_keep pr1 hE (oo _ (by omega)) (oo _ (by omega))) (zo_pr_keep pr3 hE (oo _ (by omega)) (oo _ (by omega))) e24 e25 e56 (zo_ct_keep ct7 hE (oo _ (by omega))) (by omega) (by omega) (fun z _ => by rw [o5]; have h9 := x7 z; rw [n23, y23, hn2] at h9; exact h9)
  have h179 : ∀ (k3 act : Int) (G : Nat → Nat → Int), n0 < 12 → zo_ext a (zp_n u.2.1) G → G a 21 = (n0 : Int) + 1 → (∀ j, j < 8 * n0 → zv G a 56 j = zv (zp_n u.2.1) a 56 j) → zo_pr a G (8 * n0 + 1) → zo_pr a G (8 * n0 + 3) → G a 24 = (b24 : Int) → G a 25 = (b25 : Int) → G a 56 = (b56 : Int) → zp_J p l e R s m args below meth c Q w u [] 179 [(3, 0, k3), (2, 0, (8 * (n0 : Int))), (1, 0, act), (0, 2, (a : Int))] [] u.1 G := by
    intro k3 act G hn12 hext0 g21 z56 pr1 pr3 g24 g25 g56
    have hext1 := hext0
    obtain ⟨gtk, gle, gbad, gnc, gncf, gcode⟩ := hext1
    have gtk2 := gtk
    obtain ⟨q1, q2, q3, -, -, -⟩ := gtk2
    refine zp_kn (k := 13) (a := a) (G := G) hw (show zp_fd 92 13 = some (12, 0, 0, 0, 400) from rfl) rfl hp (fun hk13 => ?_)
    have hx13 := zp_int hk13
    refine zp_kn (k := 23) (a := a) (G := G) hw (show zp_fd 92 23 = some (12, 0, 0, 0, 400) from rfl) rfl hp (fun hk23 => ?_)
    have hx23 := zp_int hk23
    refine zp_kn (k := 19) (a := a) (G := G) hw (show zp_fd 92 19 = some (12, 0, 0, 0, 1) from rfl) rfl hp (fun hk19 => ?_)
    have hx19 := zp_int hk19
    refine zp_load (pc := 179) hx hb (zd_X12_readOrder (179, .aload_n 0, 1, 0, []) (List.mem_of_getElem? (i := 96) rfl)) rfl (j := 3) rfl ?_
    refine zp_getf (n := (b56 : Int)) (pc := 180) hx hb hE hw (zd_X12_readOrder (180, .getfield 149, 3, 0, []) (List.mem_of_getElem? (i := 97) rfl)) (j := 74) rfl rfl rfl hp g56 ?_
    refine zp_load (pc := 183) hx hb (zd_X12_readOrder (183, .iload_n 2, 1, 0, []) (List.mem_of_getElem? (i := 98) rfl)) rfl (j := 1) rfl ?_
    refine zp_const (pc := 184) hx hb (zd_X12_readOrder (184, .bipush 7, 2, 0, []) (List.mem_of_getElem? (i := 99) rfl)) rfl rfl ?_
    refine zp_add (n := (8 * (n0 : Int) + 7)) (pc := 186) hx hb (zd_X12_readOrder (186, .iadd, 1, 0, []) (List.mem_of_getElem? (i := 100) rfl)) (by omega) (zp_r0 (by omega) (by omega)) ?_
    refine zp_const (pc := 187) hx hb (zd_X12_readOrder (187, .iconst 1, 1, 0, []) (List.mem_of_getElem? (i := 101) rfl)) rfl rfl ?_
    refine zp_iast (j := (8 * n0 + 7)) (pc := 188) hx hb hw heff (zd_X12_readOrder (188, .iastore, 1, 0, []) (List.mem_of_getElem? (i := 102) rfl)) (show zp_ia 1 90 = some (96, 0, 0, (-2147483648), 2147483647) from rfl) hq56 (by omega) (by omega) (zp_o0 (by omega) (by omega) (by omega) (by omega)) rfl ?_
    have yg24 : (zp_set G b56 (2000 + (8 * n0 + 7)) 1) a 24 = (b24 : Int) := ((zp_set_ne (Or.inl (zp_pne hp hq56 (by decide)))).trans (g24))
    have yg25 : (zp_set G b56 (2000 + (8 * n0 + 7)) 1) a 25 = (b25 : Int) := ((zp_set_ne (Or.inl (zp_pne hp hq56 (by decide)))).trans (g25))
    have yg56 : (zp_set G b56 (2000 + (8 * n0 + 7)) 1) a 56 = (b56 : Int) := ((zp_set_ne (Or.inl (zp_pne hp hq56 (by decide)))).trans (g56))
    have yv24 : ∀ j, zv (zp_set G b56 (2000 + (8 * n0 + 7)) 1) a 24 j = zv G a 24 j := fun j => by rw [zv_eq yg24, zv_eq (g24)]; rw [zp_set_ne (Or.inl (zp_pne hq24 hq56 (by decide)))]
    have yv25 : ∀ j, zv (zp_set G b56 (2000 + (8 * n0 + 7)) 1) a 25 j = zv G a 25 j := fun j => by rw [zv_eq yg25, zv_eq (g25)]; rw [zp_set_ne (Or.inl (zp_pne hq25 hq56 (by decide)))]
    have yxs : zo_ext a G (zp_set G b56 (2000 + (8 * n0 + 7)) 1) := zo_ext_same gtk gncf ((zp_set_ne (Or.inl (zp_pne hp hq56 (by decide))))) ((zp_set_ne (Or.inl (zp_pne hp hq56 (by decide))))) ((zp_set_ne (Or.inl (zp_pne hp hq56 (by decide))))) ((zp_set_ne (Or.inl (zp_pne hp hq56 (by decide))))) ((zp_set_ne (Or.inl (zp_pne hp hq56 (by decide))))) ((zp_set_ne (Or.inl (zp_pne hp hq56 (by decide))))) yv24 yv25
    have y13 : (zp_set G b56 (2000 + (8 * n0 + 7)) 1) a 13 = G a 13 := ((zp_set_ne (Or.inl (zp_pne hp hq56 (by decide)))))
    have y14 : (zp_set G b56 (2000 + (8 * n0 + 7)) 1) a 14 = G a 14 := ((zp_set_ne (Or.inl (zp_pne hp hq56 (by decide)))))
    have y15 : (zp_set G b56 (2000 + (8 * n0 + 7)) 1) a 15 = G a 15 := ((zp_set_ne (Or.inl (zp_pne hp hq56 (by decide)))))
    have y16 : (zp_set G b56 (2000 + (8 * n0 + 7)) 1) a 16 = G a 16 := ((zp_set_ne (Or.inl (zp_pne hp hq56 (by decide)))))
    have y19 : (zp_set G b56 (2000 + (8 * n0 + 7)) 1) a 19 = G a 19 := ((zp_set_ne (Or.inl (zp_pne hp hq56 (by decide)))))
    have y21 : (zp_set G b56 (2000 + (8 * n0 + 7)) 1) a 21 = G a 21 := ((zp_set_ne (Or.inl (zp_pne hp hq56 (by decide)))))
    have y23 : (zp_set G b56 (2000 + (8 * n0 + 7)) 1) a 23 = G a 23 := ((zp_set_ne (Or.inl (zp_pne hp hq56 (by decide)))))
    have yo : ∀ j, j ≠ 8 * n0 + 7 → zv (zp_set G b56 (2000 + (8 * n0 + 7)) 1) a 56 j = zv G a 56 j := fun j hj => by rw [zv_eq yg56, zv_eq g56]; exact zp_set_ne (Or.inr (by omega))
    refine zp_load (pc := 189) hx hb (zd_X12_readOrder (189, .aload_n 0, 1, 0, []) (List.mem_of_getElem? (i := 103) rfl)) rfl (j := 3) rfl ?_
    refine zp_getf (n := (G a 19)) (pc := 190) hx hb hE hw (zd_X12_readOrder (190, .getfield 240, 3, 0, []) (List.mem_of_getElem? (i := 104) rfl)) (j := 37) rfl rfl rfl hp ((zp_set_ne (Or.inl (zp_pne hp hq56 (by decide))))) ?_
    refine zp_if (pc := 193) (tgt := 227) hx hb (zd_X12_readOrder (193, .ifCond .ne 34, 3, 0, []) (List.mem_of_getElem? (i := 105) rfl)) rfl (fun (hc208 : ¬ (G a 19) = 0) => ?_) (fun (hc208 : ¬ (¬ (G a 19) = 0)) => ?_)
    · exact h227 _ _ _ hn12 (zo_ext_tr hext0 yxs) (y21.trans g21) (fun j hj => (yo j (by omega)).trans (z56 j hj)) (zo_pr_keep pr1 yxs (yo _ (by omega)) (yo _ (by omega))) (zo_pr_keep pr3 yxs (yo _ (by omega)) (yo _ (by omega))) yg24 yg25 yg56 (fun _ => by rw [zv_eq yg56, zp_set_self]; decide)
    · refine zp_load (pc := 196) hx hb (zd_X12_readOrder (196, .aload_n 0, 1, 0, []) (List.mem_of_getElem? (i := 106) rfl)) rfl (j := 3) rfl ?_
      refine zp_ldc2 (pc := 197) hx hb hE (zd_X12_readOrder (197, .ldc2_w 535, 3, 0, []) (List.mem_of_getElem? (i := 107) rfl)) (j := 120) rfl ?_
      refine zp_call (pc := 200) (how := 0) (idx := 300) (mi := 216) (S := []) hx hb hE hw heff hrm (zX_wo hW) rfl (j := 18) rfl rfl (by decide +kernel) (zd_X12_readOrder (200, .invokevirtual 300, 3, 0, []) (List.mem_of_getElem? (i := 108) rfl)) [(a : Int), 21279923] rfl ⟨zp_o2 hp, zp_o1 ⟨by decide, by decide⟩, trivial⟩ (Nat.le_of_ble_eq_true rfl) trivial (fun al hal rnw Pw Gw hextw hfrw hokw hcsw hpsiw => ?_)
      obtain rfl := List.mem_singleton.mp hal
      have hrw := zp_int (hokw _ rfl).1
      obtain ⟨hPew, hGew, htw⟩ := hpsiw
      rw [hPew, hGew]
      refine zp_if (pc := 203) (tgt := 227) hx hb (zd_X12_readOrder (203, .ifCond .eq 24, 3, 0, []) (List.mem_of_getElem? (i := 109) rfl)) rfl (fun (hc209 : rnw = 0) => ?_) (fun (hc209 : ¬ (rnw = 0)) => ?_)
      · exact h227 _ _ _ hn12 (zo_ext_tr hext0 yxs) (y21.trans g21) (fun j hj => (yo j (by omega)).trans (z56 j hj)) (zo_pr_keep pr1 yxs (yo _ (by omega)) (yo _ (by omega))) (zo_pr_keep pr3 yxs (yo _ (by omega)) (yo _ (by omega))) yg24 yg25 yg56 (fun _ => by rw [zv_eq yg56, zp_set_self]; decide)
      · refine zp_load (pc := 206) hx hb (zd_X12_readOrder (206, .aload_n 0, 1, 0, []) (List.mem_of_getElem? (i := 110) rfl)) rfl (j := 3) rfl ?_
        refine zp_call (pc := 207) (how := 0) (idx := 244) (mi := 212) (S := []) hx hb hE hw heff hrm (zX_nx hW) rfl (j := 14) rfl rfl (by decide +kernel) (zd_X12_readOrder (207, .invokevirtual 244, 3, 0, []) (List.mem_of_getElem? (i := 111) rfl)) [(a : Int)] rfl ⟨zp_o2 hp, trivial⟩ (Nat.le_of_ble_eq_true rfl) (show 0 ≤ (zp_set G b56 (2000 + (8 * n0 + 7)) 1) a 15 ∧ (zp_set G b56 (2000 + (8 * n0 + 7)) 1) a 15 ≤ (zp_set G b56 (2000 + (8 * n0 + 7)) 1) a 13 by omega) (fun al hal rnn Pn Gn hextn hfrn hokn hcsn hpsin => ?_)
        obtain rfl := List.mem_singleton.mp hal
        obtain ⟨rfl, hxn⟩ := hpsin
        have hxn : (zp_set G b56 (2000 + (8 * n0 + 7)) 1) a 15 ≤ Gn a 14 ∧ Gn a 14 ≤ Gn a 15 ∧ Gn a 15 ≤ (zp_set G b56 (2000 + (8 * n0 + 7)) 1) a 13 ∧ 0 ≤ Gn a 16 ∧ Gn a 16 ≤ 3 ∧ (Gn a 16 ≠ 0 → Gn a 14 < Gn a 15) := hxn
        have n13 : Gn a 13 = (zp_set G b56 (2000 + (8 * n0 + 7)) 1) a 13 := zp_nf hfrn hp rfl
        have n19 : Gn a 19 = (zp_set G b56 (2000 + (8 * n0 + 7)) 1) a 19 := zp_nf hfrn hp rfl
        have n21 : Gn a 21 = (zp_set G b56 (2000 + (8 * n0 + 7)) 1) a 21 := zp_nf hfrn hp rfl
        have n23 : Gn a 23 = (zp_set G b56 (2000 + (8 * n0 + 7)) 1) a 23 := zp_nf hfrn hp rfl
        have n24 : Gn a 24 = (b24 : Int) := (zp_nf hfrn hp rfl).trans yg24
        have n25 : Gn a 25 = (b25 : Int) := (zp_nf hfrn hp rfl).trans yg25
        have n56 : Gn a 56 = (b56 : Int) := (zp_nf hfrn hp rfl).trans yg56
        have ntk : zs_tk a Gn := by unfold zs_tk; omega
        have nv24 : ∀ j, zv Gn a 24 j = zv (zp_set G b56 (2000 + (8 * n0 + 7)) 1) a 24 j := fun j => by rw [zv_eq n24, zv_eq yg24, zp_nc hfrn hq24 rfl]
        have nv25 : ∀ j, zv Gn a 25 j = zv (zp_set G b56 (2000 + (8 * n0 + 7)) 1) a 25 j := fun j => by rw [zv_eq n25, zv_eq yg25, zp_nc hfrn hq25 rfl]
        have nv56 : ∀ j, zv Gn a 56 j = zv (zp_set G b56 (2000 + (8 * n0 + 7)) 1) a 56 j := fun j => by rw [zv_eq n56, zv_eq yg56, zp_nc hfrn hq56 rfl]
        have nxs : zo_ext a (zp_set G b56 (2000 + (8 * n0 + 7)) 1) Gn := ⟨ntk, by omega, fun z => by omega, by omega, by omega, fun q _ => ⟨nv24 q, nv25 q⟩⟩
        refine zp_load (pc := 210) hx hb (zd_X12_readOrder (210, .aload_n 0, 1, 0, []) (List.mem_of_getElem? (i := 112) rfl)) rfl (j := 3) rfl ?_
        refine zp_getf (n := (b56 : Int)) (pc := 211) hx hb hE hw (zd_X12_readOrder (211, .getfield 149, 3, 0, []) (List.mem_of_getElem? (i := 113) rfl)) (j := 74) rfl rfl rfl hp n56 ?_
        refine zp_load (pc := 214) hx hb (zd_X12_readOrder (214, .iload_n 2, 1, 0, []) (List.mem_of_getElem? (i := 114) rfl)) rfl (j := 1) rfl ?_
        refine zp_const (pc := 215) hx hb (zd_X12_readOrder (215, .bipush 7, 2, 0, []) (List.mem_of_getElem? (i := 115) rfl)) rfl rfl ?_
        refine zp_add (n := (8 * (n0 : Int) + 7)) (pc := 217) hx hb (zd_X12_readOrder (217, .iadd, 1, 0, []) (List.mem_of_getElem? (i := 116) rfl)) (by omega) (zp_r0 (by omega) (by omega)) ?_
        refine zp_load (pc := 218) hx hb (zd_X12_readOrder (218, .aload_n 0, 1, 0, []) (List.mem_of_getElem? (i := 117) rfl)) rfl (j := 3) rfl ?_
        refine zp_const (pc := 219) hx hb (zd_X12_readOrder (219, .lconst 1, 1, 0, []) (List.mem_of_getElem? (i := 118) rfl)) rfl rfl ?_
        refine zp_ldc2 (pc := 220) hx hb hE (zd_X12_readOrder (220, .ldc2_w 292, 3, 0, []) (List.mem_of_getElem? (i := 119) rfl)) (j := 98) rfl ?_
        refine zp_call (pc := 223) (how := 0) (idx := 335) (mi := 228) (S := [(0, (8 * (n0 : Int) + 7)), (2, (b56 : Int))]) hx hb hE hw heff hrm (zX_nu2 hW) rfl (j := 30) rfl rfl (by decide +kernel) (zd_X12_readOrder (223, .invokevirtual 335, 3, 0, []) (List.mem_of_getElem? (i := 120) rfl)) [(a : Int), 1, 20] rfl ⟨zp_o2 hp, zp_o1 ⟨by decide, by decide⟩, zp_o1 ⟨by decide, by decide⟩, trivial⟩ (Nat.le_of_ble_eq_true rfl) ntk (fun al hal rnm Pm Gm hextm hfrm hokm hcsm hpsim => ?_)
        obtain rfl := List.mem_singleton.mp hal
        have hrm := zp_int (hokm _ rfl).1
        obtain ⟨rfl, htm, is, hnb, hmm⟩ := hpsim
        have hmm : zs_mu a is Gn Gm := hmm
        have hnb : is = 1 → 1 ≤ Gn a 17 ∧ Gn a 17 ≤ 20 ∧ (zk_rg 0 (Gn a 17) → rnm = Gn a 17) := hnb
        have m24 : Gm a 24 = (b24 : Int) := (zp_nf hfrm hp rfl).trans n24
        have m25 : Gm a 25 = (b25 : Int) := (zp_nf hfrm hp rfl).trans n25
        have m56 : Gm a 56 = (b56 : Int) := (zp_nf hfrm hp rfl).trans n56
        have m21 : Gm a 21 = Gn a 21 := zp_nf hfrm hp rfl
        have m23 : Gm a 23 = Gn a 23 := zp_nf hfrm hp rfl
        have mv24 : ∀ j, zv Gm a 24 j = zv Gn a 24 j := fun j => by rw [zv_eq m24, zv_eq n24, zp_nc hfrm hq24 rfl]
        have mv25 : ∀ j, zv Gm a 25 j = zv Gn a 25 j := fun j => by rw [zv_eq m25, zv_eq n25, zp_nc hfrm hq25 rfl]
        have mv56 : ∀ j, zv Gm a 56 j = zv Gn a 56 j := fun j => by rw [zv_eq m56, zv_eq n56, zp_nc hfrm hq56 rfl]
        have mxs : zo_ext a Gn Gm := zo_ext_mu ntk htm hmm (by omega) m23 mv24 mv25
        have m14 : Gm a 23 ≤ Gm a 14 := mxs.2.2.2.2.1
        refine zp_iast (j := (8 * n0 + 7)) (pc := 226) hx hb hw heff (zd_X12_readOrder (226, .iastore, 1, 0, []) (List.mem_of_getElem? (i := 121) rfl)) (show zp_ia 1 90 = some (96, 0, 0, (-2147483648), 2147483647) from rfl) hq56 (by omega) (by omega) (zp_o0 (by omega) (by omega) (by omega) (by omega)) rfl ?_
        have kg24 : (zp_set Gm b56 (2000 + (8 * n0 + 7)) rnm) a 24 = (b24 : Int) := ((zp_set_ne (Or.inl (zp_pne hp hq56 (by decide)))).trans (m24))
        have kg25 : (zp_set Gm b56 (2000 + (8 * n0 + 7)) rnm) a 25 = (b25 : Int) := ((zp_set_ne (Or.inl (zp_pne hp hq56 (by decide)))).trans (m25))
        have kg56 : (zp_set Gm b56 (2000 + (8 * n0 + 7)) rnm) a 56 = (b56 : Int) := ((zp_set_ne (Or.inl (zp_pne hp hq56 (by decide)))).trans (m56))
        have kv24 : ∀ j, zv (zp_set Gm b56 (2000 + (8 * n0 + 7)) rnm) a 24 j = zv Gm a 24 j := fun j => by rw [zv_eq kg24, zv_eq (m24)]; rw [zp_set_ne (Or.inl (zp_pne hq24 hq56 (by decide)))]
        have kv25 : ∀ j, zv (zp_set Gm b56 (2000 + (8 * n0 + 7)) rnm) a 25 j = zv Gm a 25 j := fun j => by rw [zv_eq kg25, zv_eq (m25)]; rw [zp_set_ne (Or.inl (zp_pne hq25 hq56 (by decide)))]
        have kxs : zo_ext a Gm (zp_set Gm b56 (2000 + (8 * n0 + 7)) rnm) := zo_ext_same htm m14 ((zp_set_ne (Or.inl (zp_pne hp hq56 (by decide))))) ((zp_set_ne (Or.inl (zp_pne hp hq56 (by decide))))) ((zp_set_ne (Or.inl (zp_pne hp hq56 (by decide))))) ((zp_set_ne (Or.inl (zp_pne hp hq56 (by decide))))) ((zp_set_ne (Or.inl (zp_pne hp hq56 (by decide))))) ((zp_set_ne (Or.inl (zp_pne hp hq56 (by decide))))) kv24 kv25
        have k21 : (zp_set Gm b56 (2000 + (8 * n0 + 7)) rnm) a 21 = Gm a 21 := ((zp_set_ne (Or.inl (zp_pne hp hq56 (by decide)))))
        have oo : ∀ j, j ≠ 8 * n0 + 7 → zv (zp_set Gm b56 (2000 + (8 * n0 + 7)) rnm) a 56 j = zv G a 56 j := fun j hj => by
          rw [← yo j hj, ← nv56, ← mv56, zv_eq kg56, zv_eq m56]
          exact zp_set_ne (Or.inr (by omega))
        have hE := zo_ext_tr yxs (zo_ext_tr nxs (zo_ext_tr mxs kxs))
        have k19 : (zp_set Gm b56 (2000 + (8 * n0 + 7)) rnm) a 19 = Gm a 19 := ((zp_set_ne (Or.inl (zp_pne hp hq56 (by decide)))))
        have ct7 : zo_ct a (zp_set Gm b56 (2000 + (8 * n0 + 7)) rnm) (8 * n0 + 7) := fun z => by
          rw [k19] at z
          have h1 : is = 1 := by rcases hmm with hmm | hmm <;> omega
          obtain ⟨b1, b2, b3⟩ := hnb h1
          have b4 := b3 (zp_r0 (by omega) (by omega))
          rw [zv_eq kg56, zp_set_self]
          omega
        exact h227 _ _ _ hn12 (zo_ext_tr hext0 hE) (by omega) (fun j hj => (oo j (by omega)).trans (z56 j hj)) (zo_pr_keep pr1 hE (oo _ (by omega)) (oo _ (by omega))) (zo_pr_keep pr3 hE (oo _ (by omega)) (oo _ (by omega))) kg24 kg25 kg56 ct7
  have h149 : ∀ (k3 act : Int) (G : Nat → Nat → Int), n0 < 12 → zo_ext a (zp_n u.2.1) G → G a 21 = (n0 : Int) + 1 → (∀ j, j < 8 * n0 → zv G a 56 j = zv (zp_n u.2.1) a 56 j) → zo_pr a G (8 * n0 + 1) → zo_pr a G (8 * n0 + 3) → G a 24 = (b24 : Int) → G a 25 = (b25 : Int) → G a 56 = (b56 : Int) → zp_J p l e R s m args below meth c Q w u [] 149 [(3, 0, k3), (2, 0, (8 * (n0 : Int))), (1, 0, act), (0, 2, (a : Int))] [] u.1 G := by
    intro k3 act G hn12 hext0 g21 z56 pr1 pr3 g24 g25 g56
    have hext1 := hext0
    obtain ⟨gtk, gle, gbad, gnc, gncf, gcode⟩ := hext1
    have gtk2 := gtk
    obtain ⟨q1, q2, q3, -, -, -⟩ := gtk2
    refine zp_kn (k := 13) (a := a) (G := G) hw (show zp_fd 92 13 = some (12, 0, 0, 0, 400) from rfl) rfl hp (fun hk13 => ?_)
    have hx13 := zp_int hk13
    refine zp_kn (k := 23) (a := a) (G := G) hw (show zp_fd 92 23 = some (12, 0, 0, 0, 400) from rfl) rfl hp (fun hk23 => ?_)
    have hx23 := zp_int hk23
    refine zp_kn (k := 19) (a := a) (G := G) hw (show zp_fd 92 19 = some (12, 0, 0, 0, 1) from rfl) rfl hp (fun hk19 => ?_)
    have hx19 := zp_int hk19
    refine zp_load (pc := 149) hx hb (zd_X12_readOrder (149, .iload_n 1, 1, 0, []) (List.mem_of_getElem? (i := 80) rfl)) rfl (j := 2) rfl ?_
    refine zp_const (pc := 150) hx hb (zd_X12_readOrder (150, .iconst 1, 1, 0, []) (List.mem_of_getElem? (i := 81) rfl)) rfl rfl ?_
    refine zp_icmp (pc := 151) (tgt := 179) hx hb (zd_X12_readOrder (151, .if_icmp .ne 28, 3, 0, []) (List.mem_of_getElem? (i := 82) rfl)) rfl (fun (hc210 : ¬ act = 1) => ?_) (fun (hc210 : ¬ (¬ act = 1)) => ?_)
    · exact h179 _ _ G hn12 hext0 g21 z56 pr1 pr3 g24 g25 g56
    · refine zp_load (pc := 154) hx hb (zd_X12_readOrder (154, .aload_n 0, 1, 0, []) (List.mem_of_getElem? (i := 83) rfl)) rfl (j := 3) rfl ?_
      refine zp_getf (n := (G a 19)) (pc := 155) hx hb hE hw (zd_X12_readOrder (155, .getfield 240, 3, 0, []) (List.mem_of_getElem? (i := 84) rfl)) (j := 37) rfl rfl rfl hp rfl ?_
      refine zp_if (pc := 158) (tgt := 172) hx hb (zd_X12_readOrder (158, .ifCond .ne 14, 3, 0, []) (List.mem_of_getElem? (i := 85) rfl)) rfl (fun (hc211 : ¬ (G a 19) = 0) => ?_) (fun (hc211 : ¬ (¬ (G a 19) = 0)) => ?_)
      · refine zp_load (pc := 172) hx hb (zd_X12_readOrder (172, .aload_n 0, 1, 0, []) (List.mem_of_getElem? (i := 91) rfl)) rfl (j := 3) rfl ?_
        refine zp_load (pc := 173) hx hb (zd_X12_readOrder (173, .iload_n 2, 1, 0, []) (List.mem_of_getElem? (i := 92) rfl)) rfl (j := 1) rfl ?_
        refine zp_const (pc := 174) hx hb (zd_X12_readOrder (174, .iconst 3, 1, 0, []) (List.mem_of_getElem? (i := 93) rfl)) rfl rfl ?_
        refine zp_add (n := (8 * (n0 : Int) + 3)) (pc := 175) hx hb (zd_X12_readOrder (175, .iadd, 1, 0, []) (List.mem_of_getElem? (i := 94) rfl)) (by omega) (zp_r0 (by omega) (by omega)) ?_
        refine zp_call (pc := 176) (how := 0) (idx := 530) (mi := 289) (S := []) hx hb hE hw heff hrm (zX_rs hW) rfl (j := 70) rfl rfl (by decide +kernel) (zd_X12_readOrder (176, .invokevirtual 530, 3, 0, []) (List.mem_of_getElem? (i := 95) rfl)) [(a : Int), (8 * (n0 : Int) + 3)] rfl ⟨zp_o2 hp, zp_o0 (by omega) (by omega) (by omega) (by omega), trivial⟩ (Nat.le_of_ble_eq_true rfl) (show zs_tk a G ∧ G a 23 ≤ G a 14 from ⟨gtk, gncf⟩) (fun al hal rnr Pr Gr hextr hfrr hokr hcsr hpsir => ?_)
        obtain rfl := List.mem_singleton.mp hal
        obtain ⟨rfl, r1, r2, r3⟩ := hpsir
        have r1 : zo_ext a G Gr := r1
        have r2 : zo_pr a Gr (8 * (n0 : Int) + 3).toNat := r2
        rw [show (8 * (n0 : Int) + 3).toNat = 8 * n0 + 3 by omega] at r2
        have r3 : ∀ j : Nat, j ≠ (8 * (n0 : Int) + 3).toNat → j ≠ (8 * (n0 : Int) + 3).toNat + 1 → zv Gr a 56 j = zv G a 56 j := r3
        have r4 : ∀ j : Nat, j ≠ 8 * n0 + 3 → j ≠ 8 * n0 + 4 → zv Gr a 56 j = zv G a 56 j := fun j j1 j2 => r3 j (by omega) (by omega)
        have r24 : Gr a 24 = (b24 : Int) := ((zp_nf hfrr hp rfl).trans g24)
        have r25 : Gr a 25 = (b25 : Int) := ((zp_nf hfrr hp rfl).trans g25)
        have r56 : Gr a 56 = (b56 : Int) := ((zp_nf hfrr hp rfl).trans g56)
        have rr21 : Gr a 21 = (n0 : Int) + 1 := ((zp_nf hfrr hp rfl).trans g21)
        exact h179 _ _ Gr hn12 (zo_ext_tr hext0 r1) rr21 (fun j hj => (r4 j (by omega) (by omega)).trans (z56 j hj)) (zo_pr_keep pr1 r1 (r4 _ (by omega) (by omega)) (r4 _ (by omega) (by omega))) r2 r24 r25 r56
      · refine zp_load (pc := 161) hx hb (zd_X12_readOrder (161, .aload_n 0, 1, 0, []) (List.mem_of_getElem? (i := 86) rfl)) rfl (j := 3) rfl ?_
        refine zp_load (pc := 162) hx hb (zd_X12_readOrder (162, .aload_n 0, 1, 0, []) (List.mem_of_getElem? (i := 87) rfl)) rfl (j := 3) rfl ?_
        refine zp_ldc2 (pc := 163) hx hb hE (zd_X12_readOrder (163, .ldc2_w 533, 3, 0, []) (List.mem_of_getElem? (i := 88) rfl)) (j := 119) rfl ?_
        refine zp_call (pc := 166) (how := 0) (idx := 300) (mi := 216) (S := [(2, (a : Int))]) hx hb hE hw heff hrm (zX_wo hW) rfl (j := 18) rfl rfl (by decide +kernel) (zd_X12_readOrder (166, .invokevirtual 300, 3, 0, []) (List.mem_of_getElem? (i := 89) rfl)) [(a : Int), 89] rfl ⟨zp_o2 hp, zp_o1 ⟨by decide, by decide⟩, trivial⟩ (Nat.le_of_ble_eq_true rfl) trivial (fun al hal rnw Pw Gw hextw hfrw hokw hcsw hpsiw => ?_)
        obtain rfl := List.mem_singleton.mp hal
        have hrw := zp_int (hokw _ rfl).1
        obtain ⟨hPew, hGew, htw⟩ := hpsiw
        rw [hPew, hGew]
        refine zp_call (pc := 169) (how := 0) (idx := 275) (mi := 217) (S := []) hx hb hE hw heff hrm (zX_mu hW) rfl (j := 19) rfl rfl (by decide +kernel) (zd_X12_readOrder (169, .invokevirtual 275, 3, 0, []) (List.mem_of_getElem? (i := 90) rfl)) [(a : Int), rnw] rfl ⟨zp_o2 hp, zp_o0 (by omega) (by omega) (by omega) (by omega), trivial⟩ (Nat.le_of_ble_eq_true rfl) gtk (fun al hal rnm Pm Gm hextm hfrm hokm hcsm hpsim => ?_)
        obtain rfl := List.mem_singleton.mp hal
        obtain ⟨rfl, htm, hmm⟩ := hpsim
        have hmm : zs_mu a rnw G Gm := hmm
        have htm : zs_tk a Gm := htm
        have m24 : Gm a 24 = (b24 : Int) := (zp_nf hfrm hp rfl).trans g24
        have m25 : Gm a 25 = (b25 : Int) := (zp_nf hfrm hp rfl).trans g25
        have m56 : Gm a 56 = (b56 : Int) := (zp_nf hfrm hp rfl).trans g56
        have m21 : Gm a 21 = (n0 : Int) + 1 := (zp_nf hfrm hp rfl).trans g21
        have m23 : Gm a 23 = G a 23 := zp_nf hfrm hp rfl
        have mv24 : ∀ j, zv Gm a 24 j = zv G a 24 j := fun j => by rw [zv_eq m24, zv_eq g24, zp_nc hfrm hq24 rfl]
        have mv25 : ∀ j, zv Gm a 25 j = zv G a 25 j := fun j => by rw [zv_eq m25, zv_eq g25, zp_nc hfrm hq25 rfl]
        have mv56 : ∀ j, zv Gm a 56 j = zv G a 56 j := fun j => by rw [zv_eq m56, zv_eq g56, zp_nc hfrm hq56 rfl]
        have mxs : zo_ext a G Gm := zo_ext_mu gtk htm hmm gncf m23 mv24 mv25
        refine zp_load (pc := 172) hx hb (zd_X12_readOrder (172, .aload_n 0, 1, 0, []) (List.mem_of_getElem? (i := 91) rfl)) rfl (j := 3) rfl ?_
        refine zp_load (pc := 173) hx hb (zd_X12_readOrder (173, .iload_n 2, 1, 0, []) (List.mem_of_getElem? (i := 92) rfl)) rfl (j := 1) rfl ?_
        refine zp_const (pc := 174) hx hb (zd_X12_readOrder (174, .iconst 3, 1, 0, []) (List.mem_of_getElem? (i := 93) rfl)) rfl rfl ?_
        refine zp_add (n := (8 * (n0 : Int) + 3)) (pc := 175) hx hb (zd_X12_readOrder (175, .iadd, 1, 0, []) (List.mem_of_getElem? (i := 94) rfl)) (by omega) (zp_r0 (by omega) (by omega)) ?_
        refine zp_call (pc := 176) (how := 0) (idx := 530) (mi := 289) (S := []) hx hb hE hw heff hrm (zX_rs hW) rfl (j := 70) rfl rfl (by decide +kernel) (zd_X12_readOrder (176, .invokevirtual 530, 3, 0, []) (List.mem_of_getElem? (i := 95) rfl)) [(a : Int), (8 * (n0 : Int) + 3)] rfl ⟨zp_o2 hp, zp_o0 (by omega) (by omega) (by omega) (by omega), trivial⟩ (Nat.le_of_ble_eq_true rfl) (show zs_tk a Gm ∧ Gm a 23 ≤ Gm a 14 from ⟨htm, mxs.2.2.2.2.1⟩) (fun al hal rnr Pr Gr hextr hfrr hokr hcsr hpsir => ?_)
        obtain rfl := List.mem_singleton.mp hal
        obtain ⟨rfl, r1, r2, r3⟩ := hpsir
        have r1 : zo_ext a Gm Gr := r1
        have r2 : zo_pr a Gr (8 * (n0 : Int) + 3).toNat := r2
        rw [show (8 * (n0 : Int) + 3).toNat = 8 * n0 + 3 by omega] at r2
        have r3 : ∀ j : Nat, j ≠ (8 * (n0 : Int) + 3).toNat → j ≠ (8 * (n0 : Int) + 3).toNat + 1 → zv Gr a 56 j = zv Gm a 56 j := r3
        have r4 : ∀ j : Nat, j ≠ 8 * n0 + 3 → j ≠ 8 * n0 + 4 → zv Gr a 56 j = zv Gm a 56 j := fun j j1 j2 => r3 j (by omega) (by omega)
        have r24 : Gr a 24 = (b24 : Int) := ((zp_nf hfrr hp rfl).trans m24)
        have r25 : Gr a 25 = (b25 : Int) := ((zp_nf hfrr hp rfl).trans m25)
        have r56 : Gr a 56 = (b56 : Int) := ((zp_nf hfrr hp rfl).trans m56)
        have rr21 : Gr a 21 = (n0 : Int) + 1 := ((zp_nf hfrr hp rfl).trans m21)
        exact h179 _ _ Gr hn12 (zo_ext_tr hext0 (zo_ext_tr mxs r1)) rr21 (fun j hj => (r4 j (by omega) (by omega)).trans ((mv56 j).trans (z56 j hj))) (zo_pr_keep (zo_pr_keep pr1 mxs (mv56 _) (mv56 _)) r1 (r4 _ (by omega) (by omega)) (r4 _ (by omega) (by omega))) r2 r24 r25 r56
  have h130 : ∀ (k3 act : Int) (G : Nat → Nat → Int), n0 < 12 → zo_ext a (zp_n u.2.1) G → G a 21 = (n0 : Int) + 1 → (∀ j, j < 8 * n0 → zv G a 56 j = zv (zp_n u.2.1) a 56 j) → zo_pr a G (8 * n0 + 1) → zo_pr a G (8 * n0 + 3) → G a 24 = (b24 : Int) → G a 25 = (b25 : Int) → G a 56 = (b56 : Int) → -2147483648 ≤ act → act ≤ 2147483647 → zp_J p l e R s m args below meth c Q w u [] 130 [(3, 0, k3), (2, 0, (8 * (n0 : Int))), (1, 0, act), (0, 2, (a : Int))] [] u.1 G := by
    intro k3 act G hn12 hext0 g21 z56 pr1 pr3 g24 g25 g56 hact1 hact2
    have hext1 := hext0
    obtain ⟨gtk, gle, gbad, gnc, gncf, gcode⟩ := hext1
    have gtk2 := gtk
    obtain ⟨q1, q2, q3, -, -, -⟩ := gtk2
    refine zp_kn (k := 13) (a := a) (G := G) hw (show zp_fd 92 13 = some (12, 0, 0, 0, 400) from rfl) rfl hp (fun hk13 => ?_)
    have hx13 := zp_int hk13
    refine zp_kn (k := 23) (a := a) (G := G) hw (show zp_fd 92 23 = some (12, 0, 0, 0, 400) from rfl) rfl hp (fun hk23 => ?_)
    have hx23 := zp_int hk23
    refine zp_kn (k := 19) (a := a) (G := G) hw (show zp_fd 92 19 = some (12, 0, 0, 0, 1) from rfl) rfl hp (fun hk19 => ?_)
    have hx19 := zp_int hk19
    refine zp_load (pc := 130) hx hb (zd_X12_readOrder (130, .aload_n 0, 1, 0, []) (List.mem_of_getElem? (i := 67) rfl)) rfl (j := 3) rfl ?_
    refine zp_getf (n := (b56 : Int)) (pc := 131) hx hb hE hw (zd_X12_readOrder (131, .getfield 149, 3, 0, []) (List.mem_of_getElem? (i := 68) rfl)) (j := 74) rfl rfl rfl hp g56 ?_
    refine zp_load (pc := 134) hx hb (zd_X12_readOrder (134, .iload_n 2, 1, 0, []) (List.mem_of_getElem? (i := 69) rfl)) rfl (j := 1) rfl ?_
    refine zp_load (pc := 135) hx hb (zd_X12_readOrder (135, .iload_n 1, 1, 0, []) (List.mem_of_getElem? (i := 70) rfl)) rfl (j := 2) rfl ?_
    refine zp_iast (j := (8 * n0)) (pc := 136) hx hb hw heff (zd_X12_readOrder (136, .iastore, 1, 0, []) (List.mem_of_getElem? (i := 71) rfl)) (show zp_ia 1 90 = some (96, 0, 0, (-2147483648), 2147483647) from rfl) hq56 (by omega) (by omega) (zp_o0 (by omega) (by omega) (by omega) (by omega)) rfl ?_
    have yg24 : (zp_set G b56 (2000 + (8 * n0)) act) a 24 = (b24 : Int) := ((zp_set_ne (Or.inl (zp_pne hp hq56 (by decide)))).trans (g24))
    have yg25 : (zp_set G b56 (2000 + (8 * n0)) act) a 25 = (b25 : Int) := ((zp_set_ne (Or.inl (zp_pne hp hq56 (by decide)))).trans (g25))
    have yg56 : (zp_set G b56 (2000 + (8 * n0)) act) a 56 = (b56 : Int) := ((zp_set_ne (Or.inl (zp_pne hp hq56 (by decide)))).trans (g56))
    have yv24 : ∀ j, zv (zp_set G b56 (2000 + (8 * n0)) act) a 24 j = zv G a 24 j := fun j => by rw [zv_eq yg24, zv_eq (g24)]; rw [zp_set_ne (Or.inl (zp_pne hq24 hq56 (by decide)))]
    have yv25 : ∀ j, zv (zp_set G b56 (2000 + (8 * n0)) act) a 25 j = zv G a 25 j := fun j => by rw [zv_eq yg25, zv_eq (g25)]; rw [zp_set_ne (Or.inl (zp_pne hq25 hq56 (by decide)))]
    have yxs : zo_ext a G (zp_set G b56 (2000 + (8 * n0)) act) := zo_ext_same gtk gncf ((zp_set_ne (Or.inl (zp_pne hp hq56 (by decide))))) ((zp_set_ne (Or.inl (zp_pne hp hq56 (by decide))))) ((zp_set_ne (Or.inl (zp_pne hp hq56 (by decide))))) ((zp_set_ne (Or.inl (zp_pne hp hq56 (by decide))))) ((zp_set_ne (Or.inl (zp_pne hp hq56 (by decide))))) ((zp_set_ne (Or.inl (zp_pne hp hq56 (by decide))))) yv24 yv25
    have y14 : (zp_set G b56 (2000 + (8 * n0)) act) a 14 = G a 14 := ((zp_set_ne (Or.inl (zp_pne hp hq56 (by decide)))))
    have y23 : (zp_set G b56 (2000 + (8 * n0)) act) a 23 = G a 23 := ((zp_set_ne (Or.inl (zp_pne hp hq56 (by decide)))))
    have y21 : (zp_set G b56 (2000 + (8 * n0)) act) a 21 = G a 21 := ((zp_set_ne (Or.inl (zp_pne hp hq56 (by decide)))))
    have yo : ∀ j, j ≠ 8 * n0 → zv (zp_set G b56 (2000 + (8 * n0)) act) a 56 j = zv G a 56 j := fun j hj => by rw [zv_eq yg56, zv_eq g56]; exact zp_set_ne (Or.inr (by omega))
    have ytk := yxs.1
    refine zp_load (pc := 137) hx hb (zd_X12_readOrder (137, .iload_n 1, 1, 0, []) (List.mem_of_getElem? (i := 72) rfl)) rfl (j := 2) rfl ?_
    refine zp_const (pc := 138) hx hb (zd_X12_readOrder (138, .iconst 2, 1, 0, []) (List.mem_of_getElem? (i := 73) rfl)) rfl rfl ?_
    refine zp_icmp (pc := 139) (tgt := 149) hx hb (zd_X12_readOrder (139, .if_icmp .eq 10, 3, 0, []) (List.mem_of_getElem? (i := 74) rfl)) rfl (fun (hc212 : act = 2) => ?_) (fun (hc212 : ¬ (act = 2)) => ?_)
    · exact h149 _ _ _ hn12 (zo_ext_tr hext0 yxs) (y21.trans g21) (fun j hj => (yo j (by omega)).trans (z56 j hj)) (zo_pr_keep pr1 yxs (yo _ (by omega)) (yo _ (by omega))) (zo_pr_keep pr3 yxs (yo _ (by omega)) (yo _ (by omega))) yg24 yg25 yg56
    · refine zp_load (pc := 142) hx hb (zd_X12_readOrder (142, .aload_n 0, 1, 0, []) (List.mem_of_getElem? (i := 75) rfl)) rfl (j := 3) rfl ?_
      refine zp_load (pc := 143) hx hb (zd_X12_readOrder (143, .iload_n 2, 1, 0, []) (List.mem_of_getElem? (i := 76) rfl)) rfl (j := 1) rfl ?_
      refine zp_const (pc := 144) hx hb (zd_X12_readOrder (144, .iconst 1, 1, 0, []) (List.mem_of_getElem? (i := 77) rfl)) rfl rfl ?_
      refine zp_add (n := (8 * (n0 : Int) + 1)) (pc := 145) hx hb (zd_X12_readOrder (145, .iadd, 1, 0, []) (List.mem_of_getElem? (i := 78) rfl)) (by omega) (zp_r0 (by omega) (by omega)) ?_
      refine zp_call (pc := 146) (how := 0) (idx := 530) (mi := 289) (S := []) hx hb hE hw heff hrm (zX_rs hW) rfl (j := 70) rfl rfl (by decide +kernel) (zd_X12_readOrder (146, .invokevirtual 530, 3, 0, []) (List.mem_of_getElem? (i := 79) rfl)) [(a : Int), (8 * (n0 : Int) + 1)] rfl ⟨zp_o2 hp, zp_o0 (by omega) (by omega) (by omega) (by omega), trivial⟩ (Nat.le_of_ble_eq_true rfl) (show zs_tk a (zp_set G b56 (2000 + (8 * n0)) act) ∧ (zp_set G b56 (2000 + (8 * n0)) act) a 23 ≤ (zp_set G b56 (2000 + (8 * n0)) act) a 14 from ⟨ytk, (by omega)⟩) (fun al hal rnr Pr Gr hextr hfrr hokr hcsr hpsir => ?_)
      obtain rfl := List.mem_singleton.mp hal
      obtain ⟨rfl, r1, r2, r3⟩ := hpsir
      have r1 : zo_ext a (zp_set G b56 (2000 + (8 * n0)) act) Gr := r1
      have r2 : zo_pr a Gr (8 * (n0 : Int) + 1).toNat := r2
      rw [show (8 * (n0 : Int) + 1).toNat = 8 * n0 + 1 by omega] at r2
      have r3 : ∀ j : Nat, j ≠ (8 * (n0 : Int) + 1).toNat → j ≠ (8 * (n0 : Int) + 1).toNat + 1 → zv Gr a 56 j = zv (zp_set G b56 (2000 + (8 * n0)) act) a 56 j := r3
      have r4 : ∀ j : Nat, j ≠ 8 * n0 + 1 → j ≠ 8 * n0 + 2 → zv Gr a 56 j = zv (zp_set G b56 (2000 + (8 * n0)) act) a 56 j := fun j j1 j2 => r3 j (by omega) (by omega)
      have r24 : Gr a 24 = (b24 : Int) := ((zp_nf hfrr hp rfl).trans ((zp_set_ne (Or.inl (zp_pne hp hq56 (by decide)))).trans (g24)))
      have r25 : Gr a 25 = (b25 : Int) := ((zp_nf hfrr hp rfl).trans ((zp_set_ne (Or.inl (zp_pne hp hq56 (by decide)))).trans (g25)))
      have r56 : Gr a 56 = (b56 : Int) := ((zp_nf hfrr hp rfl).trans ((zp_set_ne (Or.inl (zp_pne hp hq56 (by decide)))).trans (g56)))
      have rr21 : Gr a 21 = (n0 : Int) + 1 := ((zp_nf hfrr hp rfl).trans ((zp_set_ne (Or.inl (zp_pne hp hq56 (by decide)))).trans (g21)))
      exact h149 _ _ Gr hn12 (zo_ext_tr hext0 (zo_ext_tr yxs r1)) rr21 (fun j hj => (r4 j (by omega) (by omega)).trans ((yo j (by omega)).trans (z56 j hj))) r2 (zo_pr_keep (zo_pr_keep pr3 yxs (yo _ (by omega)) (yo _ (by omega))) r1 (r4 _ (by omega) (by omega)) (r4 _ (by omega) (by omega))) r24 r25 r56
  have loop : ∀ (n k : Nat) (act : Int) (G : Nat → Nat → Int), 8 - k < n → k ≤ 8 → -2147483648 ≤ act → act ≤ 2147483647 → n0 < 12 → zo_ext a (zp_n u.2.1) G → G a 21 = (n0 : Int) + 1 → (∀ j, j < 8 * n0 → zv G a 56 j = zv (zp_n u.2.1) a 56 j) → (∀ j, j < k → zv G a 56 (8 * n0 + j) = 0) → G a 24 = (b24 : Int) → G a 25 = (b25 : Int) → G a 56 = (b56 : Int) → zp_J p l e R s m args below meth c Q w u [] 109 [(3, 0, (k : Int)), (2, 0, (8 * (n0 : Int))), (1, 0, act), (0, 2, (a : Int))] [] u.1 G := by
    intro n
    induction n with
    | zero => intro k act G h; exact absurd h (Nat.not_lt_zero _)
    | succ n ih =>
      intro k act G hn hk ha1 ha2 hn12 hext0 g21 z56 zz g24 g25 g56
      have hext1 := hext0
      obtain ⟨gtk, gle, gbad, gnc, gncf, gcode⟩ := hext1
      have gtk2 := gtk
      obtain ⟨q1, q2, q3, -, -, -⟩ := gtk2
      refine zp_kn (k := 13) (a := a) (G := G) hw (show zp_fd 92 13 = some (12, 0, 0, 0, 400) from rfl) rfl hp (fun hk13 => ?_)
      have hx13 := zp_int hk13
      refine zp_kn (k := 23) (a := a) (G := G) hw (show zp_fd 92 23 = some (12, 0, 0, 0, 400) from rfl) rfl hp (fun hk23 => ?_)
      have hx23 := zp_int hk23
      refine zp_kn (k := 19) (a := a) (G := G) hw (show zp_fd 92 19 = some (12, 0, 0, 0, 1) from rfl) rfl hp (fun hk19 => ?_)
      have hx19 := zp_int hk19
      refine zp_load (pc := 109) hx hb (zd_X12_readOrder (109, .iload_n 3, 1, 0, []) (List.mem_of_getElem? (i := 55) rfl)) rfl (j := 0) rfl ?_
      refine zp_const (pc := 110) hx hb (zd_X12_readOrder (110, .bipush 8, 2, 0, []) (List.mem_of_getElem? (i := 56) rfl)) rfl rfl ?_
      refine zp_icmp (pc := 112) (tgt := 130) hx hb (zd_X12_readOrder (112, .if_icmp .ge 18, 3, 0, []) (List.mem_of_getElem? (i := 57) rfl)) rfl (fun (hc213 : 8 ≤ (k : Int)) => ?_) (fun (hc213 : ¬ (8 ≤ (k : Int))) => ?_)
      · have hk8 : k = 8 := by omega
        subst hk8
        have pr1 : zo_pr a G (8 * n0 + 1) := by
          unfold zo_pr
          rw [show 8 * n0 + 1 + 1 = 8 * n0 + 2 by omega, zz 1 (by decide), zz 2 (by decide)]
          exact ⟨by decide, by omega, by decide, by omega, fun _ z => absurd z (by decide)⟩
        have pr3 : zo_pr a G (8 * n0 + 3) := by
          unfold zo_pr
          rw [show 8 * n0 + 3 + 1 = 8 * n0 + 4 by omega, zz 3 (by decide), zz 4 (by decide)]
          exact ⟨by decide, by omega, by decide, by omega, fun _ z => absurd z (by decide)⟩
        exact h130 _ act G hn12 hext0 g21 z56 pr1 pr3 g24 g25 g56 ha1 ha2
      · refine zp_load (pc := 115) hx hb (zd_X12_readOrder (115, .aload_n 0, 1, 0, []) (List.mem_of_getElem? (i := 58) rfl)) rfl (j := 3) rfl ?_
        refine zp_getf (n := (b56 : Int)) (pc := 116) hx hb hE hw (zd_X12_readOrder (116, .getfield 149, 3, 0, []) (List.mem_of_getElem? (i := 59) rfl)) (j := 74) rfl rfl rfl hp g56 ?_
        refine zp_load (pc := 119) hx hb (zd_X12_readOrder (119, .iload_n 2, 1, 0, []) (List.mem_of_getElem? (i := 60) rfl)) rfl (j := 1) rfl ?_
        refine zp_load (pc := 120) hx hb (zd_X12_readOrder (120, .iload_n 3, 1, 0, []) (List.mem_of_getElem? (i := 61) rfl)) rfl (j := 0) rfl ?_
        refine zp_add (n := (8 * (n0 : Int) + (k : Int))) (pc := 121) hx hb (zd_X12_readOrder (121, .iadd, 1, 0, []) (List.mem_of_getElem? (i := 62) rfl)) (by omega) (zp_r0 (by omega) (by omega)) ?_
        refine zp_const (pc := 122) hx hb (zd_X12_readOrder (122, .iconst 0, 1, 0, []) (List.mem_of_getElem? (i := 63) rfl)) rfl rfl ?_
        refine zp_iast (j := (8 * n0 + k)) (pc := 123) hx hb hw heff (zd_X12_readOrder (123, .iastore, 1, 0, []) (List.mem_of_getElem? (i := 64) rfl)) (show zp_ia 1 90 = some (96, 0, 0, (-2147483648), 2147483647) from rfl) hq56 (by omega) (by omega) (zp_o0 (by omega) (by omega) (by omega) (by omega)) rfl ?_
        refine zp_iinc (L' := [(3, 0, ((k : Int) + 1)), (2, 0, (8 * (n0 : Int))), (1, 0, act), (0, 2, (a : Int))]) (n := ((k : Int) + 1)) (pc := 124) hx hb hnL (zd_X12_readOrder (124, .iinc 3 1, 3, 0, []) (List.mem_of_getElem? (i := 65) rfl)) (j := 0) rfl (by omega) (zp_r0 (by omega) (by omega)) rfl rfl ?_
        refine zp_goto (tgt := 109) (pc := 127) hx hb (zd_X12_readOrder (127, .goto (-18), 3, 0, []) (List.mem_of_getElem? (i := 66) rfl)) rfl ?_
        have yg24 : (zp_set G b56 (2000 + (8 * n0 + k)) 0) a 24 = (b24 : Int) := ((zp_set_ne (Or.inl (zp_pne hp hq56 (by decide)))).trans (g24))
        have yg25 : (zp_set G b56 (2000 + (8 * n0 + k)) 0) a 25 = (b25 : Int) := ((zp_set_ne (Or.inl (zp_pne hp hq56 (by decide)))).trans (g25))
        have yg56 : (zp_set G b56 (2000 + (8 * n0 + k)) 0) a 56 = (b56 : Int) := ((zp_set_ne (Or.inl (zp_pne hp hq56 (by decide)))).trans (g56))
        have yv24 : ∀ j, zv (zp_set G b56 (2000 + (8 * n0 + k)) 0) a 24 j = zv G a 24 j := fun j => by rw [zv_eq yg24, zv_eq (g24)]; rw [zp_set_ne (Or.inl (zp_pne hq24 hq56 (by decide)))]
        have yv25 : ∀ j, zv (zp_set G b56 (2000 + (8 * n0 + k)) 0) a 25 j = zv G a 25 j := fun j => by rw [zv_eq yg25, zv_eq (g25)]; rw [zp_set_ne (Or.inl (zp_pne hq25 hq56 (by decide)))]
        have yxs : zo_ext a G (zp_set G b56 (2000 + (8 * n0 + k)) 0) := zo_ext_same gtk gncf ((zp_set_ne (Or.inl (zp_pne hp hq56 (by decide))))) ((zp_set_ne (Or.inl (zp_pne hp hq56 (by decide))))) ((zp_set_ne (Or.inl (zp_pne hp hq56 (by decide))))) ((zp_set_ne (Or.inl (zp_pne hp hq56 (by decide))))) ((zp_set_ne (Or.inl (zp_pne hp hq56 (by decide))))) ((zp_set_ne (Or.inl (zp_pne hp hq56 (by decide))))) yv24 yv25
        refine ih (k + 1) act _ (by omega) (by omega) ha1 ha2 hn12 (zo_ext_tr hext0 yxs) ((((zp_set_ne (Or.inl (zp_pne hp hq56 (by decide)))))).trans g21) (fun j hj => ?_) (fun j hj => ?_) yg24 yg25 yg56
        · rw [← z56 j hj, zv_eq yg56, zv_eq g56]; exact zp_set_ne (Or.inr (by omega))
        · by_cases hjk : j = k
          · subst hjk; rw [zv_eq yg56]; exact zp_set_self
          · refine Eq.trans ?_ (zz j (by omega)); rw [zv_eq yg56, zv_eq g56]; exact zp_set_ne (Or.inr (by omega))
  have h57 : ∀ (act : Int), -1 ≤ act → act ≤ 3 → zp_J p l e R s m args below meth c Q w u [] 58 [(1, 0, act), (0, 2, (a : Int))] [] u.1 (zp_n u.2.1) := by
    intro act ha1 ha2
    refine zp_load (pc := 58) hx hb (zd_X12_readOrder (58, .aload_n 0, 1, 0, []) (List.mem_of_getElem? (i := 26) rfl)) rfl (j := 1) rfl ?_
    refine zp_load (pc := 59) hx hb (zd_X12_readOrder (59, .iload_n 1, 1, 0, []) (List.mem_of_getElem? (i := 27) rfl)) rfl (j := 0) rfl ?_
    refine zp_const (pc := 60) hx hb (zd_X12_readOrder (60, .iconst (-1), 1, 0, []) (List.mem_of_getElem? (i := 28) rfl)) rfl rfl ?_
    refine zp_icmp (pc := 61) (tgt := 77) hx hb (zd_X12_readOrder (61, .if_icmp .eq 16, 3, 0, []) (List.mem_of_getElem? (i := 29) rfl)) rfl (fun (hc214 : act = (-1)) => ?_) (fun (hc214 : ¬ (act = (-1))) => ?_)
    · refine zp_const (pc := 77) hx hb (zd_X12_readOrder (77, .iconst 0, 1, 0, []) (List.mem_of_getElem? (i := 36) rfl)) rfl rfl ?_
      refine zp_call (pc := 78) (how := 0) (idx := 275) (mi := 217) (S := []) hx hb hE hw heff hrm (zX_mu hW) rfl (j := 19) rfl rfl (by decide +kernel) (zd_X12_readOrder (78, .invokevirtual 275, 3, 0, []) (List.mem_of_getElem? (i := 37) rfl)) [(a : Int), 0] rfl ⟨zp_o2 hp, zp_o0 (by decide) (by decide) (by decide) (by decide), trivial⟩ (Nat.le_of_ble_eq_true rfl) htk (fun al hal rnm Pm Gm hextm hfrm hokm hcsm hpsim => ?_)
      obtain rfl := List.mem_singleton.mp hal
      obtain ⟨rfl, htm, hmm⟩ := hpsim
      have hmm : zs_mu a 0 (zp_n u.2.1) Gm := hmm
      have htm : zs_tk a Gm := htm
      have m21 : Gm a 21 = (n0 : Int) := ((zp_nf hfrm hp rfl).trans hn0)
      have m23 : Gm a 23 = (q0 : Int) := ((zp_nf hfrm hp rfl).trans hq0)
      have m24 : Gm a 24 = (b24 : Int) := ((zp_nf hfrm hp rfl).trans hb24)
      have m25 : Gm a 25 = (b25 : Int) := ((zp_nf hfrm hp rfl).trans hb25)
      have m56 : Gm a 56 = (b56 : Int) := ((zp_nf hfrm hp rfl).trans hb56)
      have mv24 : ∀ j, zv Gm a 24 j = zv (zp_n u.2.1) a 24 j := fun j => by rw [zv_eq m24, zv_eq hb24, zp_nc hfrm hq24 rfl]
      have mv25 : ∀ j, zv Gm a 25 j = zv (zp_n u.2.1) a 25 j := fun j => by rw [zv_eq m25, zv_eq hb25, zp_nc hfrm hq25 rfl]
      have mv56 : ∀ j, zv Gm a 56 j = zv (zp_n u.2.1) a 56 j := fun j => by rw [zv_eq m56, zv_eq hb56, zp_nc hfrm hq56 rfl]
      have mxs : zo_ext a (zp_n u.2.1) Gm := zo_ext_mu htk htm hmm hn1 (m23.trans hq0.symm) mv24 mv25
      refine zp_load (pc := 81) hx hb (zd_X12_readOrder (81, .aload_n 0, 1, 0, []) (List.mem_of_getElem? (i := 38) rfl)) rfl (j := 1) rfl ?_
      refine zp_getf (n := (Gm a 19)) (pc := 82) hx hb hE hw (zd_X12_readOrder (82, .getfield 240, 3, 0, []) (List.mem_of_getElem? (i := 39) rfl)) (j := 37) rfl rfl rfl hp rfl ?_
      refine zp_if (pc := 85) (tgt := 89) hx hb (zd_X12_readOrder (85, .ifCond .eq 4, 3, 0, []) (List.mem_of_getElem? (i := 40) rfl)) rfl (fun (hc215 : (Gm a 19) = 0) => ?_) (fun (hc215 : ¬ ((Gm a 19) = 0)) => ?_)
      · exfalso
        unfold zs_mu at hmm
        omega
      · refine zp_vret (pc := 88) hx hb hE hQ hU5 rfl (by decide) (zd_X12_readOrder (88, .return_, 1, 0, []) (List.mem_of_getElem? (i := 41) rfl)) (j := 0) rfl ?_
        rw [hps]
        refine ⟨rfl, ?_⟩
        show zo_in2 a Gm ∧ zp_n u.2.1 a 14 ≤ Gm a 14 ∧ (Gm a 19 = 0 → zp_n u.2.1 a 19 = 0)
        have mxs2 := mxs
        obtain ⟨-, y2, y3, y4, y5, -⟩ := mxs2
        exact ⟨⟨⟨htm, by omega, by omega, by omega, by omega, fun c hc => ⟨zo_pr_keep (hok0 c (by omega)).1 mxs (mv56 _) (mv56 _), zo_pr_keep (hok0 c (by omega)).2.1 mxs (mv56 _) (mv56 _), zo_pr_keep (hok0 c (by omega)).2.2 mxs (mv56 _) (mv56 _)⟩⟩, fun c hc => zo_ct_keep (hct0 c (by omega)) mxs (mv56 _)⟩, y2, y3⟩
    · refine zp_load (pc := 64) hx hb (zd_X12_readOrder (64, .aload_n 0, 1, 0, []) (List.mem_of_getElem? (i := 30) rfl)) rfl (j := 1) rfl ?_
      refine zp_getf (n := (n0 : Int)) (pc := 65) hx hb hE hw (zd_X12_readOrder (65, .getfield 371, 3, 0, []) (List.mem_of_getElem? (i := 31) rfl)) (j := 39) rfl rfl rfl hp hn0 ?_
      refine zp_const (pc := 68) hx hb (zd_X12_readOrder (68, .bipush 12, 2, 0, []) (List.mem_of_getElem? (i := 32) rfl)) rfl rfl ?_
      refine zp_icmp (pc := 70) (tgt := 77) hx hb (zd_X12_readOrder (70, .if_icmp .ge 7, 3, 0, []) (List.mem_of_getElem? (i := 33) rfl)) rfl (fun (hc216 : 12 ≤ (n0 : Int)) => ?_) (fun (hc216 : ¬ (12 ≤ (n0 : Int))) => ?_)
      · refine zp_const (pc := 77) hx hb (zd_X12_readOrder (77, .iconst 0, 1, 0, []) (List.mem_of_getElem? (i := 36) rfl)) rfl rfl ?_
        refine zp_call (pc := 78) (how := 0) (idx := 275) (mi := 217) (S := []) hx hb hE hw heff hrm (zX_mu hW) rfl (j := 19) rfl rfl (by decide +kernel) (zd_X12_readOrder (78, .invokevirtual 275, 3, 0, []) (List.mem_of_getElem? (i := 37) rfl)) [(a : Int), 0] rfl ⟨zp_o2 hp, zp_o0 (by decide) (by decide) (by decide) (by decide), trivial⟩ (Nat.le_of_ble_eq_true rfl) htk (fun al hal rnm Pm Gm hextm hfrm hokm hcsm hpsim => ?_)
        obtain rfl := List.mem_singleton.mp hal
        obtain ⟨rfl, htm, hmm⟩ := hpsim
        have hmm : zs_mu a 0 (zp_n u.2.1) Gm := hmm
        have htm : zs_tk a Gm := htm
        have m21 : Gm a 21 = (n0 : Int) := ((zp_nf hfrm hp rfl).trans hn0)
        have m23 : Gm a 23 = (q0 : Int) := ((zp_nf hfrm hp rfl).trans hq0)
        have m24 : Gm a 24 = (b24 : Int) := ((zp_nf hfrm hp rfl).trans hb24)
        have m25 : Gm a 25 = (b25 : Int) := ((zp_nf hfrm hp rfl).trans hb25)
        have m56 : Gm a 56 = (b56 : Int) := ((zp_nf hfrm hp rfl).trans hb56)
        have mv24 : ∀ j, zv Gm a 24 j = zv (zp_n u.2.1) a 24 j := fun j => by rw [zv_eq m24, zv_eq hb24, zp_nc hfrm hq24 rfl]
        have mv25 : ∀ j, zv Gm a 25 j = zv (zp_n u.2.1) a 25 j := fun j => by rw [zv_eq m25, zv_eq hb25, zp_nc hfrm hq25 rfl]
        have mv56 : ∀ j, zv Gm a 56 j = zv (zp_n u.2.1) a 56 j := fun j => by rw [zv_eq m56, zv_eq hb56, zp_nc hfrm hq56 rfl]
        have mxs : zo_ext a (zp_n u.2.1) Gm := zo_ext_mu htk htm hmm hn1 (m23.trans hq0.symm) mv24 mv25
        refine zp_load (pc := 81) hx hb (zd_X12_readOrder (81, .aload_n 0, 1, 0, []) (List.mem_of_getElem? (i := 38) rfl)) rfl (j := 1) rfl ?_
        refine zp_getf (n := (Gm a 19)) (pc := 82) hx hb hE hw (zd_X12_readOrder (82, .getfield 240, 3, 0, []) (List.mem_of_getElem? (i := 39) rfl)) (j := 37) rfl rfl rfl hp rfl ?_
        refine zp_if (pc := 85) (tgt := 89) hx hb (zd_X12_readOrder (85, .ifCond .eq 4, 3, 0, []) (List.mem_of_getElem? (i := 40) rfl)) rfl (fun (hc217 : (Gm a 19) = 0) => ?_) (fun (hc217 : ¬ ((Gm a 19) = 0)) => ?_)
        · exfalso
          unfold zs_mu at hmm
          omega
        · refine zp_vret (pc := 88) hx hb hE hQ hU5 rfl (by decide) (zd_X12_readOrder (88, .return_, 1, 0, []) (List.mem_of_getElem? (i := 41) rfl)) (j := 0) rfl ?_
          rw [hps]
          refine ⟨rfl, ?_⟩
          show zo_in2 a Gm ∧ zp_n u.2.1 a 14 ≤ Gm a 14 ∧ (Gm a 19 = 0 → zp_n u.2.1 a 19 = 0)
          have mxs2 := mxs
          obtain ⟨-, y2, y3, y4, y5, -⟩ := mxs2
          exact ⟨⟨⟨htm, by omega, by omega, by omega, by omega, fun c hc => ⟨zo_pr_keep (hok0 c (by omega)).1 mxs (mv56 _) (mv56 _), zo_pr_keep (hok0 c (by omega)).2.1 mxs (mv56 _) (mv56 _), zo_pr_keep (hok0 c (by omega)).2.2 mxs (mv56 _) (mv56 _)⟩⟩, fun c hc => zo_ct_keep (hct0 c (by omega)) mxs (mv56 _)⟩, y2, y3⟩
      · refine zp_const (pc := 73) hx hb (zd_X12_readOrder (73, .iconst 1, 1, 0, []) (List.mem_of_getElem? (i := 34) rfl)) rfl rfl ?_
        refine zp_goto (tgt := 78) (pc := 74) hx hb (zd_X12_readOrder (74, .goto 4, 3, 0, []) (List.mem_of_getElem? (i := 35) rfl)) rfl ?_
        refine zp_call (pc := 78) (how := 0) (idx := 275) (mi := 217) (S := []) hx hb hE hw heff hrm (zX_mu hW) rfl (j := 19) rfl rfl (by decide +kernel) (zd_X12_readOrder (78, .invokevirtual 275, 3, 0, []) (List.mem_of_getElem? (i := 37) rfl)) [(a : Int), 1] rfl ⟨zp_o2 hp, zp_o0 (by decide) (by decide) (by decide) (by decide), trivial⟩ (Nat.le_of_ble_eq_true rfl) htk (fun al hal rnm Pm Gm hextm hfrm hokm hcsm hpsim => ?_)
        obtain rfl := List.mem_singleton.mp hal
        obtain ⟨rfl, htm, hmm⟩ := hpsim
        have hmm : zs_mu a 1 (zp_n u.2.1) Gm := hmm
        have htm : zs_tk a Gm := htm
        have m21 : Gm a 21 = (n0 : Int) := ((zp_nf hfrm hp rfl).trans hn0)
        have m23 : Gm a 23 = (q0 : Int) := ((zp_nf hfrm hp rfl).trans hq0)
        have m24 : Gm a 24 = (b24 : Int) := ((zp_nf hfrm hp rfl).trans hb24)
        have m25 : Gm a 25 = (b25 : Int) := ((zp_nf hfrm hp rfl).trans hb25)
        have m56 : Gm a 56 = (b56 : Int) := ((zp_nf hfrm hp rfl).trans hb56)
        have mv24 : ∀ j, zv Gm a 24 j = zv (zp_n u.2.1) a 24 j := fun j => by rw [zv_eq m24, zv_eq hb24, zp_nc hfrm hq24 rfl]
        have mv25 : ∀ j, zv Gm a 25 j = zv (zp_n u.2.1) a 25 j := fun j => by rw [zv_eq m25, zv_eq hb25, zp_nc hfrm hq25 rfl]
        have mv56 : ∀ j, zv Gm a 56 j = zv (zp_n u.2.1) a 56 j := fun j => by rw [zv_eq m56, zv_eq hb56, zp_nc hfrm hq56 rfl]
        have mxs : zo_ext a (zp_n u.2.1) Gm := zo_ext_mu htk htm hmm hn1 (m23.trans hq0.symm) mv24 mv25
        refine zp_load (pc := 81) hx hb (zd_X12_readOrder (81, .aload_n 0, 1, 0, []) (List.mem_of_getElem? (i := 38) rfl)) rfl (j := 1) rfl ?_
        refine zp_getf (n := (Gm a 19)) (pc := 82) hx hb hE hw (zd_X12_readOrder (82, .getfield 240, 3, 0, []) (List.mem_of_getElem? (i := 39) rfl)) (j := 37) rfl rfl rfl hp rfl ?_
        refine zp_if (pc := 85) (tgt := 89) hx hb (zd_X12_readOrder (85, .ifCond .eq 4, 3, 0, []) (List.mem_of_getElem? (i := 40) rfl)) rfl (fun (hc218 : (Gm a 19) = 0) => ?_) (fun (hc218 : ¬ ((Gm a 19) = 0)) => ?_)
        · refine zp_const (pc := 89) hx hb (zd_X12_readOrder (89, .bipush 8, 2, 0, []) (List.mem_of_getElem? (i := 42) rfl)) rfl rfl ?_
          refine zp_load (pc := 91) hx hb (zd_X12_readOrder (91, .aload_n 0, 1, 0, []) (List.mem_of_getElem? (i := 43) rfl)) rfl (j := 1) rfl ?_
          refine zp_getf (n := (n0 : Int)) (pc := 92) hx hb hE hw (zd_X12_readOrder (92, .getfield 371, 3, 0, []) (List.mem_of_getElem? (i := 44) rfl)) (j := 39) rfl rfl rfl hp m21 ?_
          refine zp_mul (n := (8 * (n0 : Int))) (pc := 95) hx hb (zd_X12_readOrder (95, .imul, 1, 0, []) (List.mem_of_getElem? (i := 45) rfl)) (by omega) (zp_r0 (by omega) (by omega)) ?_
          refine zp_store (L' := [(2, 0, (8 * (n0 : Int))), (1, 0, act), (0, 2, (a : Int))]) (pc := 96) hx hb hnL (zd_X12_readOrder (96, .istore_n 2, 1, 0, []) (List.mem_of_getElem? (i := 46) rfl)) rfl rfl rfl ?_
          refine zp_load (pc := 97) hx hb (zd_X12_readOrder (97, .aload_n 0, 1, 0, []) (List.mem_of_getElem? (i := 47) rfl)) rfl (j := 2) rfl ?_
          refine zp_dup (pc := 98) hx hb (zd_X12_readOrder (98, .dup, 1, 0, []) (List.mem_of_getElem? (i := 48) rfl)) (show (2 : Nat) ≠ 1 by decide) ?_
          refine zp_getf (n := (n0 : Int)) (pc := 99) hx hb hE hw (zd_X12_readOrder (99, .getfield 371, 3, 0, []) (List.mem_of_getElem? (i := 49) rfl)) (j := 39) rfl rfl rfl hp m21 ?_
          refine zp_const (pc := 102) hx hb (zd_X12_readOrder (102, .iconst 1, 1, 0, []) (List.mem_of_getElem? (i := 50) rfl)) rfl rfl ?_
          refine zp_add (n := ((n0 : Int) + 1)) (pc := 103) hx hb (zd_X12_readOrder (103, .iadd, 1, 0, []) (List.mem_of_getElem? (i := 51) rfl)) (by omega) (zp_r0 (by omega) (by omega)) ?_
          refine zp_putf (pc := 104) hx hb hE hw heff (zd_X12_readOrder (104, .putfield 371, 3, 0, []) (List.mem_of_getElem? (i := 52) rfl)) (j := 39) rfl rfl rfl hp (zp_o0 (by omega) (by omega) (by omega) (by omega)) ?_
          refine zp_const (pc := 107) hx hb (zd_X12_readOrder (107, .iconst 0, 1, 0, []) (List.mem_of_getElem? (i := 53) rfl)) rfl rfl ?_
          refine zp_store (L' := [(3, 0, 0), (2, 0, (8 * (n0 : Int))), (1, 0, act), (0, 2, (a : Int))]) (pc := 108) hx hb hnL (zd_X12_readOrder (108, .istore_n 3, 1, 0, []) (List.mem_of_getElem? (i := 54) rfl)) rfl rfl rfl ?_
          have m14 := mxs.2.2.2.2.1
          have yg24 : (zp_set Gm a 21 ((n0 : Int) + 1)) a 24 = (b24 : Int) := ((zp_set_ne (Or.inr (by decide))).trans (m24))
          have yg25 : (zp_set Gm a 21 ((n0 : Int) + 1)) a 25 = (b25 : Int) := ((zp_set_ne (Or.inr (by decide))).trans (m25))
          have yg56 : (zp_set Gm a 21 ((n0 : Int) + 1)) a 56 = (b56 : Int) := ((zp_set_ne (Or.inr (by decide))).trans (m56))
          have yv24 : ∀ j, zv (zp_set Gm a 21 ((n0 : Int) + 1)) a 24 j = zv Gm a 24 j := fun j => by rw [zv_eq yg24, zv_eq m24, zp_set_ne (Or.inl (zp_pne hq24 hp (by decide)))]
          have yv25 : ∀ j, zv (zp_set Gm a 21 ((n0 : Int) + 1)) a 25 j = zv Gm a 25 j := fun j => by rw [zv_eq yg25, zv_eq m25, zp_set_ne (Or.inl (zp_pne hq25 hp (by decide)))]
          have yv56 : ∀ j, zv (zp_set Gm a 21 ((n0 : Int) + 1)) a 56 j = zv Gm a 56 j := fun j => by rw [zv_eq yg56, zv_eq m56, zp_set_ne (Or.inl (zp_pne hq56 hp (by decide)))]
          have yxs : zo_ext a Gm (zp_set Gm a 21 ((n0 : Int) + 1)) := zo_ext_same htm m14 (zp_set_ne (Or.inr (by decide))) (zp_set_ne (Or.inr (by decide))) (zp_set_ne (Or.inr (by decide))) (zp_set_ne (Or.inr (by decide))) (zp_set_ne (Or.inr (by decide))) (zp_set_ne (Or.inr (by decide))) yv24 yv25
          exact loop 9 0 act _ (by omega) (by omega) (by omega) (by omega) (by omega) (zo_ext_tr mxs yxs) zp_set_self (fun j _ => (yv56 j).trans (mv56 j)) (fun j hj => absurd hj (Nat.not_lt_zero j)) yg24 yg25 yg56
        · refine zp_vret (pc := 88) hx hb hE hQ hU5 rfl (by decide) (zd_X12_readOrder (88, .return_, 1, 0, []) (List.mem_of_getElem? (i := 41) rfl)) (j := 0) rfl ?_
          rw [hps]
          refine ⟨rfl, ?_⟩
          show zo_in2 a Gm ∧ zp_n u.2.1 a 14 ≤ Gm a 14 ∧ (Gm a 19 = 0 → zp_n u.2.1 a 19 = 0)
          have mxs2 := mxs
          obtain ⟨-, y2, y3, y4, y5, -⟩ := mxs2
          exact ⟨⟨⟨htm, by omega, by omega, by omega, by omega, fun c hc => ⟨zo_pr_keep (hok0 c (by omega)).1 mxs (mv56 _) (mv56 _), zo_pr_keep (hok0 c (by omega)).2.1 mxs (mv56 _) (mv56 _), zo_pr_keep (hok0 c (by omega)).2.2 mxs (mv56 _) (mv56 _)⟩⟩, fun c hc => zo_ct_keep (hct0 c (by omega)) mxs (mv56 _)⟩, y2, y3⟩
  refine zp_load (pc := 0) hx hb (zd_X12_readOrder (0, .aload_n 0, 1, 0, []) (List.mem_of_getElem? (i := 0) rfl)) rfl (j := 0) rfl ?_
  refine zp_ldc2 (pc := 1) hx hb hE (zd_X12_readOrder (1, .ldc2_w 522, 3, 0, []) (List.mem_of_getElem? (i := 1) rfl)) (j := 115) rfl ?_
  refine zp_call (pc := 4) (how := 0) (idx := 300) (mi := 216) (S := []) hx hb hE hw heff hrm (zX_wo hW) rfl (j := 18) rfl rfl (by decide +kernel) (zd_X12_readOrder (4, .invokevirtual 300, 3, 0, []) (List.mem_of_getElem? (i := 2) rfl)) [(a : Int), 763332] rfl ⟨zp_o2 hp, zp_o1 ⟨by decide, by decide⟩, trivial⟩ (Nat.le_of_ble_eq_true rfl) trivial (fun al hal rnx Px Gx hextx hfrx hokx hcsx hpsix => ?_)
  obtain rfl := List.mem_singleton.mp hal
  have hrx := zp_int (hokx _ rfl).1
  obtain ⟨hPex, hGex, htx⟩ := hpsix
  rw [hPex, hGex]
  refine zp_if (pc := 7) (tgt := 14) hx hb (zd_X12_readOrder (7, .ifCond .eq 7, 3, 0, []) (List.mem_of_getElem? (i := 3) rfl)) rfl (fun (hc219 : rnx = 0) => ?_) (fun (hc219 : ¬ (rnx = 0)) => ?_)
  · refine zp_load (pc := 14) hx hb (zd_X12_readOrder (14, .aload_n 0, 1, 0, []) (List.mem_of_getElem? (i := 6) rfl)) rfl (j := 0) rfl ?_
    refine zp_ldc2 (pc := 15) hx hb hE (zd_X12_readOrder (15, .ldc2_w 524, 3, 0, []) (List.mem_of_getElem? (i := 7) rfl)) (j := 116) rfl ?_
    refine zp_call (pc := 18) (how := 0) (idx := 300) (mi := 216) (S := []) hx hb hE hw heff hrm (zX_wo hW) rfl (j := 18) rfl rfl (by decide +kernel) (zd_X12_readOrder (18, .invokevirtual 300, 3, 0, []) (List.mem_of_getElem? (i := 8) rfl)) [(a : Int), 11449] rfl ⟨zp_o2 hp, zp_o1 ⟨by decide, by decide⟩, trivial⟩ (Nat.le_of_ble_eq_true rfl) trivial (fun al hal rny Py Gy hexty hfry hoky hcsy hpsiy => ?_)
    obtain rfl := List.mem_singleton.mp hal
    have hry := zp_int (hoky _ rfl).1
    obtain ⟨hPey, hGey, hty⟩ := hpsiy
    rw [hPey, hGey]
    refine zp_if (pc := 21) (tgt := 28) hx hb (zd_X12_readOrder (21, .ifCond .eq 7, 3, 0, []) (List.mem_of_getElem? (i := 9) rfl)) rfl (fun (hc220 : rny = 0) => ?_) (fun (hc220 : ¬ (rny = 0)) => ?_)
    · refine zp_load (pc := 28) hx hb (zd_X12_readOrder (28, .aload_n 0, 1, 0, []) (List.mem_of_getElem? (i := 12) rfl)) rfl (j := 0) rfl ?_
      refine zp_ldc2 (pc := 29) hx hb hE (zd_X12_readOrder (29, .ldc2_w 526, 3, 0, []) (List.mem_of_getElem? (i := 13) rfl)) (j := 117) rfl ?_
      refine zp_call (pc := 32) (how := 0) (idx := 300) (mi := 216) (S := []) hx hb hE hw heff hrm (zX_wo hW) rfl (j := 18) rfl rfl (by decide +kernel) (zd_X12_readOrder (32, .invokevirtual 300, 3, 0, []) (List.mem_of_getElem? (i := 14) rfl)) [(a : Int), 19118] rfl ⟨zp_o2 hp, zp_o1 ⟨by decide, by decide⟩, trivial⟩ (Nat.le_of_ble_eq_true rfl) trivial (fun al hal rnz Pz Gz hextz hfrz hokz hcsz hpsiz => ?_)
      obtain rfl := List.mem_singleton.mp hal
      have hrz := zp_int (hokz _ rfl).1
      obtain ⟨hPez, hGez, htz⟩ := hpsiz
      rw [hPez, hGez]
      refine zp_if (pc := 35) (tgt := 42) hx hb (zd_X12_readOrder (35, .ifCond .eq 7, 3, 0, []) (List.mem_of_getElem? (i := 15) rfl)) rfl (fun (hc221 : rnz = 0) => ?_) (fun (hc221 : ¬ (rnz = 0)) => ?_)
      · refine zp_load (pc := 42) hx hb (zd_X12_readOrder (42, .aload_n 0, 1, 0, []) (List.mem_of_getElem? (i := 18) rfl)) rfl (j := 0) rfl ?_
        refine zp_ldc2 (pc := 43) hx hb hE (zd_X12_readOrder (43, .ldc2_w 528, 3, 0, []) (List.mem_of_getElem? (i := 19) rfl)) (j := 118) rfl ?_
        refine zp_call (pc := 46) (how := 0) (idx := 300) (mi := 216) (S := []) hx hb hE hw heff hrm (zX_wo hW) rfl (j := 18) rfl rfl (by decide +kernel) (zd_X12_readOrder (46, .invokevirtual 300, 3, 0, []) (List.mem_of_getElem? (i := 20) rfl)) [(a : Int), 431556] rfl ⟨zp_o2 hp, zp_o1 ⟨by decide, by decide⟩, trivial⟩ (Nat.le_of_ble_eq_true rfl) trivial (fun al hal rnv Pv Gv hextv hfrv hokv hcsv hpsiv => ?_)
        obtain rfl := List.mem_singleton.mp hal
        have hrv := zp_int (hokv _ rfl).1
        obtain ⟨hPev, hGev, htv⟩ := hpsiv
        rw [hPev, hGev]
        refine zp_if (pc := 49) (tgt := 56) hx hb (zd_X12_readOrder (49, .ifCond .eq 7, 3, 0, []) (List.mem_of_getElem? (i := 21) rfl)) rfl (fun (hc222 : rnv = 0) => ?_) (fun (hc222 : ¬ (rnv = 0)) => ?_)
        · refine zp_const (pc := 56) hx hb (zd_X12_readOrder (56, .iconst (-1), 1, 0, []) (List.mem_of_getElem? (i := 24) rfl)) rfl rfl ?_
          refine zp_store (L' := [(1, 0, (-1)), (0, 2, (a : Int))]) (pc := 57) hx hb hnL (zd_X12_readOrder (57, .istore_n 1, 1, 0, []) (List.mem_of_getElem? (i := 25) rfl)) rfl rfl rfl ?_
          exact h57 (-1) (by decide) (by decide)
        · refine zp_const (pc := 52) hx hb (zd_X12_readOrder (52, .iconst 3, 1, 0, []) (List.mem_of_getElem? (i := 22) rfl)) rfl rfl ?_
          refine zp_goto (tgt := 57) (pc := 53) hx hb (zd_X12_readOrder (53, .goto 4, 3, 0, []) (List.mem_of_getElem? (i := 23) rfl)) rfl ?_
          refine zp_store (L' := [(1, 0, 3), (0, 2, (a : Int))]) (pc := 57) hx hb hnL (zd_X12_readOrder (57, .istore_n 1, 1, 0, []) (List.mem_of_getElem? (i := 25) rfl)) rfl rfl rfl ?_
          exact h57 3 (by decide) (by decide)
      · refine zp_const (pc := 38) hx hb (zd_X12_readOrder (38, .iconst 2, 1, 0, []) (List.mem_of_getElem? (i := 16) rfl)) rfl rfl ?_
        refine zp_goto (tgt := 57) (pc := 39) hx hb (zd_X12_readOrder (39, .goto 18, 3, 0, []) (List.mem_of_getElem? (i := 17) rfl)) rfl ?_
        refine zp_store (L' := [(1, 0, 2), (0, 2, (a : Int))]) (pc := 57) hx hb hnL (zd_X12_readOrder (57, .istore_n 1, 1, 0, []) (List.mem_of_getElem? (i := 25) rfl)) rfl rfl rfl ?_
        exact h57 2 (by decide) (by decide)
    · refine zp_const (pc := 24) hx hb (zd_X12_readOrder (24, .iconst 1, 1, 0, []) (List.mem_of_getElem? (i := 10) rfl)) rfl rfl ?_
      refine zp_goto (tgt := 57) (pc := 25) hx hb (zd_X12_readOrder (25, .goto 32, 3, 0, []) (List.mem_of_getElem? (i := 11) rfl)) rfl ?_
      refine zp_store (L' := [(1, 0, 1), (0, 2, (a : Int))]) (pc := 57) hx hb hnL (zd_X12_readOrder (57, .istore_n 1, 1, 0, []) (List.mem_of_getElem? (i := 25) rfl)) rfl rfl rfl ?_
      exact h57 1 (by decide) (by decide)
  · refine zp_const (pc := 10) hx hb (zd_X12_readOrder (10, .iconst 0, 1, 0, []) (List.mem_of_getElem? (i := 4) rfl)) rfl rfl ?_
    refine zp_goto (tgt := 57) (pc := 11) hx hb (zd_X12_readOrder (11, .goto 46, 3, 0, []) (List.mem_of_getElem? (i := 5) rfl)) rfl ?_
    refine zp_store (L' := [(1, 0, 0), (0, 2, (a : Int))]) (pc := 57) hx hb hnL (zd_X12_readOrder (57, .istore_n 1, 1, 0, []) (List.mem_of_getElem? (i := 25) rfl)) rfl rfl rfl ?_
    exact h57 0 (by decide) (by decide)
