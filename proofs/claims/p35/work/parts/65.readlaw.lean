/-! part 65: the parser: readLaw -/
theorem zk_cr_keep {co ca co' ca' : Nat → Int} {x y : Int} {n : Int} (h : zk_cr co ca x.toNat y.toNat) (hy : y ≤ n) (he : ∀ q : Nat, (q : Int) < n → co' q = co q ∧ ca' q = ca q) : zk_cr co' ca' x.toNat y.toNat :=
  zh_crc h (fun q h1 h2 => by
    have h3 : (q : Int) < n := by omega
    exact ⟨((he q h3).1).symm, ((he q h3).2).symm⟩)
/-- a clause of a law, as it was read -/
def zl_ok (a : Nat) (G : Nat → Nat → Int) (c : Nat) : Prop := (∀ j, 3 ≤ j → j ≤ 6 → 0 ≤ zv G a 22 (8 * c + j) ∧ zv G a 22 (8 * c + j) ≤ G a 23) ∧ (zv G a 22 (8 * c + 5) < zv G a 22 (8 * c + 6) → zk_cr (zv G a 24) (zv G a 25) (zv G a 22 (8 * c + 5)).toNat (zv G a 22 (8 * c + 6)).toNat) ∧ (zv G a 22 (8 * c) ≠ 4 → zk_cr (zv G a 24) (zv G a 25) (zv G a 22 (8 * c + 3)).toNat (zv G a 22 (8 * c + 4)).toNat)
theorem zl_keep {a c : Nat} {G G' : Nat → Nat → Int} (h : zl_ok a G c) (h1 : ∀ j, j < 8 → zv G' a 22 (8 * c + j) = zv G a 22 (8 * c + j)) (h2 : G a 23 ≤ G' a 23) (h3 : ∀ q : Nat, (q : Int) < G a 23 → zv G' a 24 q = zv G a 24 q ∧ zv G' a 25 q = zv G a 25 q) : zl_ok a G' c := by
  obtain ⟨a1, a2, a3⟩ := h
  have e0 := h1 0 (by decide)
  rw [Nat.add_zero] at e0
  have e3 := h1 3 (by decide)
  have e4 := h1 4 (by decide)
  have e5 := h1 5 (by decide)
  have e6 := h1 6 (by decide)
  have b4 := a1 4 (by decide) (by decide)
  have b6 := a1 6 (by decide) (by decide)
  refine ⟨fun j j1 j2 => ?_, fun z => ?_, fun z => ?_⟩
  · rw [h1 j (by omega)]
    have := a1 j j1 j2
    omega
  · rw [e5, e6] at z ⊢
    exact zk_cr_keep (a2 z) b6.2 h3
  · rw [e0] at z
    rw [e3, e4]
    exact zk_cr_keep (a3 z) b4.2 h3
def zl_in (a : Nat) (G : Nat → Nat → Int) : Prop := zs_tk a G ∧ 0 ≤ G a 21 ∧ G a 21 ≤ 12 ∧ 0 ≤ G a 23 ∧ G a 23 ≤ G a 14 ∧ (G a 19 = 0 → ∀ c : Nat, (c : Int) < G a 21 → zl_ok a G c)
def zK_la : zk_K := (zt_mn 215, prog_14_method_61_code, 4, (Option.none : Option Jvm.ClassFile.FieldType), 1, 12, [(2, 92, 0, 0)], [(none, [])], [(92, 14, 0), (92, 15, 0), (92, 16, 0), (92, 17, 0), (92, 18, 0), (92, 19, 0), (92, 30, 0), (92, 29, 0), (92, 23, 0), (68, 1001, 0), (69, 1001, 0), (70, 1001, 0), (71, 1001, 0), (92, 26, 0), (92, 21, 0), (67, 1001, 0)], (7, 330, 0, 0))
def zφ_la : (Nat → Option Nat) → (Nat → Nat → Int) → List Int → Prop := fun _ G ps => zl_in (zp_0 ps) G
def zψ_la : (Nat → Option Nat) → (Nat → Nat → Int) → List Int → (Nat → Option Nat) → (Nat → Nat → Int) → Int → Prop := fun P G ps P' G' rn => P' = P ∧ zl_in (zp_0 ps) G' ∧ G (zp_0 ps) 14 ≤ G' (zp_0 ps) 14 ∧ (G' (zp_0 ps) 19 = 0 → G (zp_0 ps) 19 = 0)
theorem zX_la {l : Launch} {w : zk_W} (hW : zh_W w) : zk_metX l w zt_dv zt_TB zK_la (zp_A zφ_la) (zp_B zψ_la) ∧ zk_cok w zt_TB zK_la := by
  refine zp_meth hW (pl := 1700) rfl (by decide +kernel) (fun p e R s m args below meth c Q u hx hb hE hQ hU5 heff hnL hok hφ => ?_)
  have hw := hW.1
  obtain ⟨p0, hps, k0⟩ := zp_ps1 hok
  obtain ⟨a, rfl, hp⟩ := zp_this k0
  have hrm : zk_Kr (zk_ev (zp_E zK_la)) = zk_Kr zK_la := rfl
  rw [hps] at hφ ⊢
  have hφ : zl_in a (zp_n u.2.1) := hφ
  obtain ⟨htk, hc0, hc1, hn0, hn1, hok0⟩ := hφ
  show zp_J p l e R s m args below meth c Q w u [] 0 [(0, 2, (a : Int))] [] u.1 (zp_n u.2.1)
  refine zp_kn (k := 22) (a := a) hw (show zp_fd 92 22 = some (12, 2, 67, 0, 0) from rfl) rfl hp (fun hk22 => ?_)
  obtain ⟨b22, hb22, hq22⟩ := zp_this hk22
  refine zp_kn (k := 24) (a := a) hw (show zp_fd 92 24 = some (12, 2, 68, 0, 0) from rfl) rfl hp (fun hk24 => ?_)
  obtain ⟨b24, hb24, hq24⟩ := zp_this hk24
  refine zp_kn (k := 25) (a := a) hw (show zp_fd 92 25 = some (12, 2, 69, 0, 0) from rfl) rfl hp (fun hk25 => ?_)
  obtain ⟨b25, hb25, hq25⟩ := zp_this hk25
  refine zp_kn (k := 33) (a := a) hw (show zp_fd 92 33 = some (12, 2, 74, 0, 0) from rfl) rfl hp (fun hk33 => ?_)
  obtain ⟨b33, hb33, hq33⟩ := zp_this hk33
  refine zp_kn (k := 21) (a := a) hw (show zp_fd 92 21 = some (12, 0, 0, 0, 12) from rfl) rfl hp (fun hk21 => ?_)
  obtain ⟨n0, hn0⟩ := zp_nat (zp_int hk21).1
  have hn0b := zp_int hk21
  rw [hn0] at hn0b
  refine zp_kn (k := 23) (a := a) hw (show zp_fd 92 23 = some (12, 0, 0, 0, 400) from rfl) rfl hp (fun hk23 => ?_)
  obtain ⟨q0, hq0⟩ := zp_nat (zp_int hk23).1
  have hq0b := zp_int hk23
  rw [hq0] at hq0b
  refine zp_kn (k := 19) (a := a) hw (show zp_fd 92 19 = some (12, 0, 0, 0, 1) from rfl) rfl hp (fun hk19 => ?_)
  have hxb := zp_int hk19
  refine zp_kn (k := 13) (a := a) hw (show zp_fd 92 13 = some (12, 0, 0, 0, 400) from rfl) rfl hp (fun hk13 => ?_)
  have hxb := zp_int hk13
  have htk2 := htk
  obtain ⟨t1, t2, t3, -, -, -⟩ := htk2
  have h96 : ∀ (k3 its : Int) (G : Nat → Nat → Int), n0 < 12 → -1 ≤ its → its ≤ 4 → zs_tk a G → zp_n u.2.1 a 14 ≤ G a 14 → (G a 19 = 0 → zp_n u.2.1 a 19 = 0) → G a 21 = (n0 : Int) → G a 23 = (q0 : Int) → (∀ j, j < 8 * n0 → G b22 (2000 + j) = zp_n u.2.1 b22 (2000 + j)) → (∀ q, G b24 (2000 + q) = zp_n u.2.1 b24 (2000 + q)) → (∀ q, G b25 (2000 + q) = zp_n u.2.1 b25 (2000 + q)) → G a 22 = (b22 : Int) → G a 24 = (b24 : Int) → G a 25 = (b25 : Int) → zp_J p l e R s m args below meth c Q w u [] 96 [(3, 0, k3), (2, 0, (8 * (n0 : Int))), (1, 0, its), (0, 2, (a : Int))] [] u.1 G := by
    intro k3 its G hn12 hi1 hi4 gtk g14 g19 g21 g23 z22 z24 z25 g22 g24 g25
    refine zp_kn (k := 13) (a := a) (G := G) hw (show zp_fd 92 13 = some (12, 0, 0, 0, 400) from rfl) rfl hp (fun hk13 => ?_)
    have hx13 := zp_int hk13
    have gtk2 := gtk
    obtain ⟨q1, q2, q3, -, -, -⟩ := gtk2
    refine zp_load (pc := 96) hx hb (zd_X12_readLaw (96, .aload_n 0, 1, 0, []) (List.mem_of_getElem? (i := 55) rfl)) rfl (j := 3) rfl ?_
    refine zp_getf (n := (b22 : Int)) (pc := 97) hx hb hE hw (zd_X12_readLaw (97, .getfield 42, 3, 0, []) (List.mem_of_getElem? (i := 56) rfl)) (j := 40) rfl rfl rfl hp g22 ?_
    refine zp_load (pc := 100) hx hb (zd_X12_readLaw (100, .iload_n 2, 1, 0, []) (List.mem_of_getElem? (i := 57) rfl)) rfl (j := 1) rfl ?_
    refine zp_load (pc := 101) hx hb (zd_X12_readLaw (101, .iload_n 1, 1, 0, []) (List.mem_of_getElem? (i := 58) rfl)) rfl (j := 2) rfl ?_
    refine zp_iast (j := (8 * n0)) (pc := 102) hx hb hw heff (zd_X12_readLaw (102, .iastore, 1, 0, []) (List.mem_of_getElem? (i := 59) rfl)) (show zp_ia 1 67 = some (96, 0, 0, (-2147483648), 2147483647) from rfl) hq22 (by omega) (by omega) (zp_o0 (by omega) (by omega) (by omega) (by omega)) rfl ?_
    refine zp_load (pc := 103) hx hb (zd_X12_readLaw (103, .aload_n 0, 1, 0, []) (List.mem_of_getElem? (i := 60) rfl)) rfl (j := 3) rfl ?_
    refine zp_dup (pc := 104) hx hb (zd_X12_readLaw (104, .dup, 1, 0, []) (List.mem_of_getElem? (i := 61) rfl)) (show (2 : Nat) ≠ 1 by decide) ?_
    refine zp_getf (n := (n0 : Int)) (pc := 105) hx hb hE hw (zd_X12_readLaw (105, .getfield 371, 3, 0, []) (List.mem_of_getElem? (i := 62) rfl)) (j := 39) rfl rfl rfl hp ((zp_set_ne (Or.inl (zp_pne hp hq22 (by decide)))).trans (g21)) ?_
    refine zp_const (pc := 108) hx hb (zd_X12_readLaw (108, .iconst 1, 1, 0, []) (List.mem_of_getElem? (i := 63) rfl)) rfl rfl ?_
    refine zp_add (n := ((n0 : Int) + 1)) (pc := 109) hx hb (zd_X12_readLaw (109, .iadd, 1, 0, []) (List.mem_of_getElem? (i := 64) rfl)) (by omega) (zp_r0 (by omega) (by omega)) ?_
    refine zp_putf (pc := 110) hx hb hE hw heff (zd_X12_readLaw (110, .putfield 371, 3, 0, []) (List.mem_of_getElem? (i := 65) rfl)) (j := 39) rfl rfl rfl hp (zp_o0 (by omega) (by omega) (by omega) (by omega)) ?_
    refine zp_load (pc := 113) hx hb (zd_X12_readLaw (113, .aload_n 0, 1, 0, []) (List.mem_of_getElem? (i := 66) rfl)) rfl (j := 3) rfl ?_
    refine zp_getf (n := (b22 : Int)) (pc := 114) hx hb hE hw (zd_X12_readLaw (114, .getfield 42, 3, 0, []) (List.mem_of_getElem? (i := 67) rfl)) (j := 40) rfl rfl rfl hp ((zp_set_ne (Or.inr (by decide))).trans ((zp_set_ne (Or.inl (zp_pne hp hq22 (by decide)))).trans (g22))) ?_
    refine zp_load (pc := 117) hx hb (zd_X12_readLaw (117, .iload_n 2, 1, 0, []) (List.mem_of_getElem? (i := 68) rfl)) rfl (j := 1) rfl ?_
    refine zp_const (pc := 118) hx hb (zd_X12_readLaw (118, .iconst 3, 1, 0, []) (List.mem_of_getElem? (i := 69) rfl)) rfl rfl ?_
    refine zp_add (n := (8 * (n0 : Int) + 3)) (pc := 119) hx hb (zd_X12_readLaw (119, .iadd, 1, 0, []) (List.mem_of_getElem? (i := 70) rfl)) (by omega) (zp_r0 (by omega) (by omega)) ?_
    refine zp_load (pc := 120) hx hb (zd_X12_readLaw (120, .aload_n 0, 1, 0, []) (List.mem_of_getElem? (i := 71) rfl)) rfl (j := 3) rfl ?_
    refine zp_getf (n := (q0 : Int)) (pc := 121) hx hb hE hw (zd_X12_readLaw (121, .getfield 279, 3, 0, []) (List.mem_of_getElem? (i := 72) rfl)) (j := 41) rfl rfl rfl hp ((zp_set_ne (Or.inr (by decide))).trans ((zp_set_ne (Or.inl (zp_pne hp hq22 (by decide)))).trans (g23))) ?_
    refine zp_iast (j := (8 * n0 + 3)) (pc := 124) hx hb hw heff (zd_X12_readLaw (124, .iastore, 1, 0, []) (List.mem_of_getElem? (i := 73) rfl)) (show zp_ia 1 67 = some (96, 0, 0, (-2147483648), 2147483647) from rfl) hq22 (by omega) (by omega) (zp_o0 (by omega) (by omega) (by omega) (by omega)) rfl ?_
    refine zp_load (pc := 125) hx hb (zd_X12_readLaw (125, .iload_n 1, 1, 0, []) (List.mem_of_getElem? (i := 74) rfl)) rfl (j := 2) rfl ?_
    refine zp_const (pc := 126) hx hb (zd_X12_readLaw (126, .iconst 4, 1, 0, []) (List.mem_of_getElem? (i := 75) rfl)) rfl rfl ?_
    refine zp_icmp (pc := 127) (tgt := 135) hx hb (zd_X12_readLaw (127, .if_icmp .eq 8, 3, 0, []) (List.mem_of_getElem? (i := 76) rfl)) rfl (fun (hc158 : its = 4) => ?_) (fun (hc158 : ¬ (its = 4)) => ?_)
    · refine zp_load (pc := 135) hx hb (zd_X12_readLaw (135, .aload_n 0, 1, 0, []) (List.mem_of_getElem? (i := 80) rfl)) rfl (j := 3) rfl ?_
      refine zp_getf (n := (b22 : Int)) (pc := 136) hx hb hE hw (zd_X12_readLaw (136, .getfield 42, 3, 0, []) (List.mem_of_getElem? (i := 81) rfl)) (j := 40) rfl rfl rfl hp ((zp_set_ne (Or.inl (zp_pne hp hq22 (by decide)))).trans ((zp_set_ne (Or.inr (by decide))).trans ((zp_set_ne (Or.inl (zp_pne hp hq22 (by decide)))).trans (g22)))) ?_
      refine zp_load (pc := 139) hx hb (zd_X12_readLaw (139, .iload_n 2, 1, 0, []) (List.mem_of_getElem? (i := 82) rfl)) rfl (j := 1) rfl ?_
      refine zp_const (pc := 140) hx hb (zd_X12_readLaw (140, .iconst 4, 1, 0, []) (List.mem_of_getElem? (i := 83) rfl)) rfl rfl ?_
      refine zp_add (n := (8 * (n0 : Int) + 4)) (pc := 141) hx hb (zd_X12_readLaw (141, .iadd, 1, 0, []) (List.mem_of_getElem? (i := 84) rfl)) (by omega) (zp_r0 (by omega) (by omega)) ?_
      refine zp_load (pc := 142) hx hb (zd_X12_readLaw (142, .aload_n 0, 1, 0, []) (List.mem_of_getElem? (i := 85) rfl)) rfl (j := 3) rfl ?_
      refine zp_getf (n := (q0 : Int)) (pc := 143) hx hb hE hw (zd_X12_readLaw (143, .getfield 279, 3, 0, []) (List.mem_of_getElem? (i := 86) rfl)) (j := 41) rfl rfl rfl hp ((zp_set_ne (Or.inl (zp_pne hp hq22 (by decide)))).trans ((zp_set_ne (Or.inr (by decide))).trans ((zp_set_ne (Or.inl (zp_pne hp hq22 (by decide)))).trans (g23)))) ?_
      refine zp_iast (j := (8 * n0 + 4)) (pc := 146) hx hb hw heff (zd_X12_readLaw (146, .iastore, 1, 0, []) (List.mem_of_getElem? (i := 87) rfl)) (show zp_ia 1 67 = some (96, 0, 0, (-2147483648), 2147483647) from rfl) hq22 (by omega) (by omega) (zp_o0 (by omega) (by omega) (by omega) (by omega)) rfl ?_
      refine zp_load (pc := 147) hx hb (zd_X12_readLaw (147, .aload_n 0, 1, 0, []) (List.mem_of_getElem? (i := 88) rfl)) rfl (j := 3) rfl ?_
      refine zp_getf (n := (b22 : Int)) (pc := 148) hx hb hE hw (zd_X12_readLaw (148, .getfield 42, 3, 0, []) (List.mem_of_getElem? (i := 89) rfl)) (j := 40) rfl rfl rfl hp ((zp_set_ne (Or.inl (zp_pne hp hq22 (by decide)))).trans ((zp_set_ne (Or.inl (zp_pne hp hq22 (by decide)))).trans ((zp_set_ne (Or.inr (by decide))).trans ((zp_set_ne (Or.inl (zp_pne hp hq22 (by decide)))).trans (g22))))) ?_
      refine zp_load (pc := 151) hx hb (zd_X12_readLaw (151, .iload_n 2, 1, 0, []) (List.mem_of_getElem? (i := 90) rfl)) rfl (j := 1) rfl ?_
      refine zp_const (pc := 152) hx hb (zd_X12_readLaw (152, .iconst 5, 1, 0, []) (List.mem_of_getElem? (i := 91) rfl)) rfl rfl ?_
      refine zp_add (n := (8 * (n0 : Int) + 5)) (pc := 153) hx hb (zd_X12_readLaw (153, .iadd, 1, 0, []) (List.mem_of_getElem? (i := 92) rfl)) (by omega) (zp_r0 (by omega) (by omega)) ?_
      refine zp_load (pc := 154) hx hb (zd_X12_readLaw (154, .aload_n 0, 1, 0, []) (List.mem_of_getElem? (i := 93) rfl)) rfl (j := 3) rfl ?_
      refine zp_getf (n := (q0 : Int)) (pc := 155) hx hb hE hw (zd_X12_readLaw (155, .getfield 279, 3, 0, []) (List.mem_of_getElem? (i := 94) rfl)) (j := 41) rfl rfl rfl hp ((zp_set_ne (Or.inl (zp_pne hp hq22 (by decide)))).trans ((zp_set_ne (Or.inl (zp_pne hp hq22 (by decide)))).trans ((zp_set_ne (Or.inr (by decide))).trans ((zp_set_ne (Or.inl (zp_pne hp hq22 (by decide)))).trans (g23))))) ?_
      refine zp_iast (j := (8 * n0 + 5)) (pc := 158) hx hb hw heff (zd_X12_readLaw (158, .iastore, 1, 0, []) (List.mem_of_getElem? (i := 95) rfl)) (show zp_ia 1 67 = some (96, 0, 0, (-2147483648), 2147483647) from rfl) hq22 (by omega) (by omega) (zp_o0 (by omega) (by omega) (by omega) (by omega)) rfl ?_
      refine zp_load (pc := 159) hx hb (zd_X12_readLaw (159, .aload_n 0, 1, 0, []) (List.mem_of_getElem? (i := 96) rfl)) rfl (j := 3) rfl ?_
      refine zp_getf (n := (G a 19)) (pc := 160) hx hb hE hw (zd_X12_readLaw (160, .getfield 240, 3, 0, []) (List.mem_of_getElem? (i := 97) rfl)) (j := 37) rfl rfl rfl hp ((zp_set_ne (Or.inl (zp_pne hp hq22 (by decide)))).trans ((zp_set_ne (Or.inl (zp_pne hp hq22 (by decide)))).trans ((zp_set_ne (Or.inl (zp_pne hp hq22 (by decide)))).trans ((zp_set_ne (Or.inr (by decide))).trans ((zp_set_ne (Or.inl (zp_pne hp hq22 (by decide))))))))) ?_
      refine zp_if (pc := 163) (tgt := 185) hx hb (zd_X12_readLaw (163, .ifCond .ne 22, 3, 0, []) (List.mem_of_getElem? (i := 98) rfl)) rfl (fun (hc159 : ¬ (G a 19) = 0) => ?_) (fun (hc159 : ¬ (¬ (G a 19) = 0)) => ?_)
      · refine zp_load (pc := 185) hx hb (zd_X12_readLaw (185, .aload_n 0, 1, 0, []) (List.mem_of_getElem? (i := 108) rfl)) rfl (j := 3) rfl ?_
        refine zp_getf (n := (b22 : Int)) (pc := 186) hx hb hE hw (zd_X12_readLaw (186, .getfield 42, 3, 0, []) (List.mem_of_getElem? (i := 109) rfl)) (j := 40) rfl rfl rfl hp ((zp_set_ne (Or.inl (zp_pne hp hq22 (by decide)))).trans ((zp_set_ne (Or.inl (zp_pne hp hq22 (by decide)))).trans ((zp_set_ne (Or.inl (zp_pne hp hq22 (by decide)))).trans ((zp_set_ne (Or.inr (by decide))).trans ((zp_set_ne (Or.inl (zp_pne hp hq22 (by decide)))).trans (g22)))))) ?_
        refine zp_load (pc := 189) hx hb (zd_X12_readLaw (189, .iload_n 2, 1, 0, []) (List.mem_of_getElem? (i := 110) rfl)) rfl (j := 1) rfl ?_
        refine zp_const (pc := 190) hx hb (zd_X12_readLaw (190, .bipush 6, 2, 0, []) (List.mem_of_getElem? (i := 111) rfl)) rfl rfl ?_
        refine zp_add (n := (8 * (n0 : Int) + 6)) (pc := 192) hx hb (zd_X12_readLaw (192, .iadd, 1, 0, []) (List.mem_of_getElem? (i := 112) rfl)) (by omega) (zp_r0 (by omega) (by omega)) ?_
        refine zp_load (pc := 193) hx hb (zd_X12_readLaw (193, .aload_n 0, 1, 0, []) (List.mem_of_getElem? (i := 113) rfl)) rfl (j := 3) rfl ?_
        refine zp_getf (n := (q0 : Int)) (pc := 194) hx hb hE hw (zd_X12_readLaw (194, .getfield 279, 3, 0, []) (List.mem_of_getElem? (i := 114) rfl)) (j := 41) rfl rfl rfl hp ((zp_set_ne (Or.inl (zp_pne hp hq22 (by decide)))).trans ((zp_set_ne (Or.inl (zp_pne hp hq22 (by decide)))).trans ((zp_set_ne (Or.inl (zp_pne hp hq22 (by decide)))).trans ((zp_set_ne (Or.inr (by decide))).trans ((zp_set_ne (Or.inl (zp_pne hp hq22 (by decide)))).trans (g23)))))) ?_
        refine zp_iast (j := (8 * n0 + 6)) (pc := 197) hx hb hw heff (zd_X12_readLaw (197, .iastore, 1, 0, []) (List.mem_of_getElem? (i := 115) rfl)) (show zp_ia 1 67 = some (96, 0, 0, (-2147483648), 2147483647) from rfl) hq22 (by omega) (by omega) (zp_o0 (by omega) (by omega) (by omega) (by omega)) rfl ?_
        have x13 : (zp_set (zp_set (zp_set (zp_set (zp_set (zp_set G b22 (2000 + (8 * n0)) its) a 21 ((n0 : Int) + 1)) b22 (2000 + (8 * n0 + 3)) (q0 : Int)) b22 (2000 + (8 * n0 + 4)) (q0 : Int)) b22 (2000 + (8 * n0 + 5)) (q0 : Int)) b22 (2000 + (8 * n0 + 6)) (q0 : Int)) a 13 = (G a 13) := ((zp_set_ne (Or.inl (zp_pne hp hq22 (by decide)))).trans ((zp_set_ne (Or.inl (zp_pne hp hq22 (by decide)))).trans ((zp_set_ne (Or.inl (zp_pne hp hq22 (by decide)))).trans ((zp_set_ne (Or.inl (zp_pne hp hq22 (by decide)))).trans ((zp_set_ne (Or.inr (by decide))).trans ((zp_set_ne (Or.inl (zp_pne hp hq22 (by decide))))))))))
        have x14 : (zp_set (zp_set (zp_set (zp_set (zp_set (zp_set G b22 (2000 + (8 * n0)) its) a 21 ((n0 : Int) + 1)) b22 (2000 + (8 * n0 + 3)) (q0 : Int)) b22 (2000 + (8 * n0 + 4)) (q0 : Int)) b22 (2000 + (8 * n0 + 5)) (q0 : Int)) b22 (2000 + (8 * n0 + 6)) (q0 : Int)) a 14 = (G a 14) := ((zp_set_ne (Or.inl (zp_pne hp hq22 (by decide)))).trans ((zp_set_ne (Or.inl (zp_pne hp hq22 (by decide)))).trans ((zp_set_ne (Or.inl (zp_pne hp hq22 (by decide)))).trans ((zp_set_ne (Or.inl (zp_pne hp hq22 (by decide)))).trans ((zp_set_ne (Or.inr (by decide))).trans ((zp_set_ne (Or.inl (zp_pne hp hq22 (by decide))))))))))
        have x15 : (zp_set (zp_set (zp_set (zp_set (zp_set (zp_set G b22 (2000 + (8 * n0)) its) a 21 ((n0 : Int) + 1)) b22 (2000 + (8 * n0 + 3)) (q0 : Int)) b22 (2000 + (8 * n0 + 4)) (q0 : Int)) b22 (2000 + (8 * n0 + 5)) (q0 : Int)) b22 (2000 + (8 * n0 + 6)) (q0 : Int)) a 15 = (G a 15) := ((zp_set_ne (Or.inl (zp_pne hp hq22 (by decide)))).trans ((zp_set_ne (Or.inl (zp_pne hp hq22 (by decide)))).trans ((zp_set_ne (Or.inl (zp_pne hp hq22 (by decide)))).trans ((zp_set_ne (Or.inl (zp_pne hp hq22 (by decide)))).trans ((zp_set_ne (Or.inr (by decide))).trans ((zp_set_ne (Or.inl (zp_pne hp hq22 (by decide))))))))))
        have x16 : (zp_set (zp_set (zp_set (zp_set (zp_set (zp_set G b22 (2000 + (8 * n0)) its) a 21 ((n0 : Int) + 1)) b22 (2000 + (8 * n0 + 3)) (q0 : Int)) b22 (2000 + (8 * n0 + 4)) (q0 : Int)) b22 (2000 + (8 * n0 + 5)) (q0 : Int)) b22 (2000 + (8 * n0 + 6)) (q0 : Int)) a 16 = (G a 16) := ((zp_set_ne (Or.inl (zp_pne hp hq22 (by decide)))).trans ((zp_set_ne (Or.inl (zp_pne hp hq22 (by decide)))).trans ((zp_set_ne (Or.inl (zp_pne hp hq22 (by decide)))).trans ((zp_set_ne (Or.inl (zp_pne hp hq22 (by decide)))).trans ((zp_set_ne (Or.inr (by decide))).trans ((zp_set_ne (Or.inl (zp_pne hp hq22 (by decide))))))))))
        have x19 : (zp_set (zp_set (zp_set (zp_set (zp_set (zp_set G b22 (2000 + (8 * n0)) its) a 21 ((n0 : Int) + 1)) b22 (2000 + (8 * n0 + 3)) (q0 : Int)) b22 (2000 + (8 * n0 + 4)) (q0 : Int)) b22 (2000 + (8 * n0 + 5)) (q0 : Int)) b22 (2000 + (8 * n0 + 6)) (q0 : Int)) a 19 = (G a 19) := ((zp_set_ne (Or.inl (zp_pne hp hq22 (by decide)))).trans ((zp_set_ne (Or.inl (zp_pne hp hq22 (by decide)))).trans ((zp_set_ne (Or.inl (zp_pne hp hq22 (by decide)))).trans ((zp_set_ne (Or.inl (zp_pne hp hq22 (by decide)))).trans ((zp_set_ne (Or.inr (by decide))).trans ((zp_set_ne (Or.inl (zp_pne hp hq22 (by decide))))))))))
        have x21 : (zp_set (zp_set (zp_set (zp_set (zp_set (zp_set G b22 (2000 + (8 * n0)) its) a 21 ((n0 : Int) + 1)) b22 (2000 + (8 * n0 + 3)) (q0 : Int)) b22 (2000 + (8 * n0 + 4)) (q0 : Int)) b22 (2000 + (8 * n0 + 5)) (q0 : Int)) b22 (2000 + (8 * n0 + 6)) (q0 : Int)) a 21 = ((n0 : Int) + 1) := ((zp_set_ne (Or.inl (zp_pne hp hq22 (by decide)))).trans ((zp_set_ne (Or.inl (zp_pne hp hq22 (by decide)))).trans ((zp_set_ne (Or.inl (zp_pne hp hq22 (by decide)))).trans ((zp_set_ne (Or.inl (zp_pne hp hq22 (by decide)))).trans (zp_set_self)))))
        have x23 : (zp_set (zp_set (zp_set (zp_set (zp_set (zp_set G b22 (2000 + (8 * n0)) its) a 21 ((n0 : Int) + 1)) b22 (2000 + (8 * n0 + 3)) (q0 : Int)) b22 (2000 + (8 * n0 + 4)) (q0 : Int)) b22 (2000 + (8 * n0 + 5)) (q0 : Int)) b22 (2000 + (8 * n0 + 6)) (q0 : Int)) a 23 = (q0 : Int) := ((zp_set_ne (Or.inl (zp_pne hp hq22 (by decide)))).trans ((zp_set_ne (Or.inl (zp_pne hp hq22 (by decide)))).trans ((zp_set_ne (Or.inl (zp_pne hp hq22 (by decide)))).trans ((zp_set_ne (Or.inl (zp_pne hp hq22 (by decide)))).trans ((zp_set_ne (Or.inr (by decide))).trans ((zp_set_ne (Or.inl (zp_pne hp hq22 (by decide)))).trans (g23)))))))
        have x22 : (zp_set (zp_set (zp_set (zp_set (zp_set (zp_set G b22 (2000 + (8 * n0)) its) a 21 ((n0 : Int) + 1)) b22 (2000 + (8 * n0 + 3)) (q0 : Int)) b22 (2000 + (8 * n0 + 4)) (q0 : Int)) b22 (2000 + (8 * n0 + 5)) (q0 : Int)) b22 (2000 + (8 * n0 + 6)) (q0 : Int)) a 22 = (b22 : Int) := ((zp_set_ne (Or.inl (zp_pne hp hq22 (by decide)))).trans ((zp_set_ne (Or.inl (zp_pne hp hq22 (by decide)))).trans ((zp_set_ne (Or.inl (zp_pne hp hq22 (by decide)))).trans ((zp_set_ne (Or.inl (zp_pne hp hq22 (by decide)))).trans ((zp_set_ne (Or.inr (by decide))).trans ((zp_set_ne (Or.inl (zp_pne hp hq22 (by decide)))).trans (g22)))))))
        have x24 : (zp_set (zp_set (zp_set (zp_set (zp_set (zp_set G b22 (2000 + (8 * n0)) its) a 21 ((n0 : Int) + 1)) b22 (2000 + (8 * n0 + 3)) (q0 : Int)) b22 (2000 + (8 * n0 + 4)) (q0 : Int)) b22 (2000 + (8 * n0 + 5)) (q0 : Int)) b22 (2000 + (8 * n0 + 6)) (q0 : Int)) a 24 = (b24 : Int) := ((zp_set_ne (Or.inl (zp_pne hp hq22 (by decide)))).trans ((zp_set_ne (Or.inl (zp_pne hp hq22 (by decide)))).trans ((zp_set_ne (Or.inl (zp_pne hp hq22 (by decide)))).trans ((zp_set_ne (Or.inl (zp_pne hp hq22 (by decide)))).trans ((zp_set_ne (Or.inr (by decide))).trans ((zp_set_ne (Or.inl (zp_pne hp hq22 (by decide)))).trans (g24)))))))
        have x25 : (zp_set (zp_set (zp_set (zp_set (zp_set (zp_set G b22 (2000 + (8 * n0)) its) a 21 ((n0 : Int) + 1)) b22 (2000 + (8 * n0 + 3)) (q0 : Int)) b22 (2000 + (8 * n0 + 4)) (q0 : Int)) b22 (2000 + (8 * n0 + 5)) (q0 : Int)) b22 (2000 + (8 * n0 + 6)) (q0 : Int)) a 25 = (b25 : Int) := ((zp_set_ne (Or.inl (zp_pne hp hq22 (by decide)))).trans ((zp_set_ne (Or.inl (zp_pne hp hq22 (by decide)))).trans ((zp_set_ne (Or.inl (zp_pne hp hq22 (by decide)))).trans ((zp_set_ne (Or.inl (zp_pne hp hq22 (by decide)))).trans ((zp_set_ne (Or.inr (by decide))).trans ((zp_set_ne (Or.inl (zp_pne hp hq22 (by decide)))).trans (g25)))))))
        have xtk : zs_tk a (zp_set (zp_set (zp_set (zp_set (zp_set (zp_set G b22 (2000 + (8 * n0)) its) a 21 ((n0 : Int) + 1)) b22 (2000 + (8 * n0 + 3)) (q0 : Int)) b22 (2000 + (8 * n0 + 4)) (q0 : Int)) b22 (2000 + (8 * n0 + 5)) (q0 : Int)) b22 (2000 + (8 * n0 + 6)) (q0 : Int)) := zs_tk_congr gtk ((zp_set_ne (Or.inl (zp_pne hp hq22 (by decide)))).trans ((zp_set_ne (Or.inl (zp_pne hp hq22 (by decide)))).trans ((zp_set_ne (Or.inl (zp_pne hp hq22 (by decide)))).trans ((zp_set_ne (Or.inl (zp_pne hp hq22 (by decide)))).trans ((zp_set_ne (Or.inr (by decide))).trans ((zp_set_ne (Or.inl (zp_pne hp hq22 (by decide)))))))))) ((zp_set_ne (Or.inl (zp_pne hp hq22 (by decide)))).trans ((zp_set_ne (Or.inl (zp_pne hp hq22 (by decide)))).trans ((zp_set_ne (Or.inl (zp_pne hp hq22 (by decide)))).trans ((zp_set_ne (Or.inl (zp_pne hp hq22 (by decide)))).trans ((zp_set_ne (Or.inr (by decide))).trans ((zp_set_ne (Or.inl (zp_pne hp hq22 (by decide)))))))))) ((zp_set_ne (Or.inl (zp_pne hp hq22 (by decide)))).trans ((zp_set_ne (Or.inl (zp_pne hp hq22 (by decide)))).trans ((zp_set_ne (Or.inl (zp_pne hp hq22 (by decide)))).trans ((zp_set_ne (Or.inl (zp_pne hp hq22 (by decide)))).trans ((zp_set_ne (Or.inr (by decide))).trans ((zp_set_ne (Or.inl (zp_pne hp hq22 (by decide)))))))))) ((zp_set_ne (Or.inl (zp_pne hp hq22 (by decide)))).trans ((zp_set_ne (Or.inl (zp_pne hp hq22 (by decide)))).trans ((zp_set_ne (Or.inl (zp_pne hp hq22 (by decide)))).trans ((zp_set_ne (Or.inl (zp_pne hp hq22 (by decide)))).trans ((zp_set_ne (Or.inr (by decide))).trans ((zp_set_ne (Or.inl (zp_pne hp hq22 (by decide))))))))))
        have y24 : ∀ q : Nat, (q : Int) < (q0 : Int) → zv (zp_set (zp_set (zp_set (zp_set (zp_set (zp_set G b22 (2000 + (8 * n0)) its) a 21 ((n0 : Int) + 1)) b22 (2000 + (8 * n0 + 3)) (q0 : Int)) b22 (2000 + (8 * n0 + 4)) (q0 : Int)) b22 (2000 + (8 * n0 + 5)) (q0 : Int)) b22 (2000 + (8 * n0 + 6)) (q0 : Int)) a 24 q = zv (zp_n u.2.1) a 24 q := fun q hq => by
          rw [zv_eq x24, zv_eq hb24]
          exact ((zp_set_ne (Or.inl (zp_pne hq24 hq22 (by decide)))).trans ((zp_set_ne (Or.inl (zp_pne hq24 hq22 (by decide)))).trans ((zp_set_ne (Or.inl (zp_pne hq24 hq22 (by decide)))).trans ((zp_set_ne (Or.inl (zp_pne hq24 hq22 (by decide)))).trans ((zp_set_ne (Or.inl (zp_pne hq24 hp (by decide)))).trans ((zp_set_ne (Or.inl (zp_pne hq24 hq22 (by decide)))).trans ((z24 q))))))))
        have y25 : ∀ q : Nat, (q : Int) < (q0 : Int) → zv (zp_set (zp_set (zp_set (zp_set (zp_set (zp_set G b22 (2000 + (8 * n0)) its) a 21 ((n0 : Int) + 1)) b22 (2000 + (8 * n0 + 3)) (q0 : Int)) b22 (2000 + (8 * n0 + 4)) (q0 : Int)) b22 (2000 + (8 * n0 + 5)) (q0 : Int)) b22 (2000 + (8 * n0 + 6)) (q0 : Int)) a 25 q = zv (zp_n u.2.1) a 25 q := fun q hq => by
          rw [zv_eq x25, zv_eq hb25]
          exact ((zp_set_ne (Or.inl (zp_pne hq25 hq22 (by decide)))).trans ((zp_set_ne (Or.inl (zp_pne hq25 hq22 (by decide)))).trans ((zp_set_ne (Or.inl (zp_pne hq25 hq22 (by decide)))).trans ((zp_set_ne (Or.inl (zp_pne hq25 hq22 (by decide)))).trans ((zp_set_ne (Or.inl (zp_pne hq25 hp (by decide)))).trans ((zp_set_ne (Or.inl (zp_pne hq25 hq22 (by decide)))).trans ((z25 q))))))))
        have y22 : ∀ j : Nat, j < 8 * n0 → zv (zp_set (zp_set (zp_set (zp_set (zp_set (zp_set G b22 (2000 + (8 * n0)) its) a 21 ((n0 : Int) + 1)) b22 (2000 + (8 * n0 + 3)) (q0 : Int)) b22 (2000 + (8 * n0 + 4)) (q0 : Int)) b22 (2000 + (8 * n0 + 5)) (q0 : Int)) b22 (2000 + (8 * n0 + 6)) (q0 : Int)) a 22 j = zv (zp_n u.2.1) a 22 j := fun j hj => by
          rw [zv_eq x22, zv_eq hb22]
          exact ((zp_set_ne (Or.inr (by omega))).trans ((zp_set_ne (Or.inr (by omega))).trans ((zp_set_ne (Or.inr (by omega))).trans ((zp_set_ne (Or.inr (by omega))).trans ((zp_set_ne (Or.inl (zp_pne hq22 hp (by decide)))).trans ((zp_set_ne (Or.inr (by omega))).trans ((z22 j hj))))))))
        have c0 : zv (zp_set (zp_set (zp_set (zp_set (zp_set (zp_set G b22 (2000 + (8 * n0)) its) a 21 ((n0 : Int) + 1)) b22 (2000 + (8 * n0 + 3)) (q0 : Int)) b22 (2000 + (8 * n0 + 4)) (q0 : Int)) b22 (2000 + (8 * n0 + 5)) (q0 : Int)) b22 (2000 + (8 * n0 + 6)) (q0 : Int)) a 22 (8 * n0) = its := by rw [zv_eq x22]; exact ((zp_set_ne (Or.inr (by omega))).trans ((zp_set_ne (Or.inr (by omega))).trans ((zp_set_ne (Or.inr (by omega))).trans ((zp_set_ne (Or.inr (by omega))).trans ((zp_set_ne (Or.inl (zp_pne hq22 hp (by decide)))).trans (zp_set_self))))))
        have c3 : zv (zp_set (zp_set (zp_set (zp_set (zp_set (zp_set G b22 (2000 + (8 * n0)) its) a 21 ((n0 : Int) + 1)) b22 (2000 + (8 * n0 + 3)) (q0 : Int)) b22 (2000 + (8 * n0 + 4)) (q0 : Int)) b22 (2000 + (8 * n0 + 5)) (q0 : Int)) b22 (2000 + (8 * n0 + 6)) (q0 : Int)) a 22 (8 * n0 + 3) = (q0 : Int) := by rw [zv_eq x22]; exact ((zp_set_ne (Or.inr (by omega))).trans ((zp_set_ne (Or.inr (by omega))).trans ((zp_set_ne (Or.inr (by omega))).trans (zp_set_self))))
        have c4 : zv (zp_set (zp_set (zp_set (zp_set (zp_set (zp_set G b22 (2000 + (8 * n0)) its) a 21 ((n0 : Int) + 1)) b22 (2000 + (8 * n0 + 3)) (q0 : Int)) b22 (2000 + (8 * n0 + 4)) (q0 : Int)) b22 (2000 + (8 * n0 + 5)) (q0 : Int)) b22 (2000 + (8 * n0 + 6)) (q0 : Int)) a 22 (8 * n0 + 4) = (q0 : Int) := by rw [zv_eq x22]; exact ((zp_set_ne (Or.inr (by omega))).trans ((zp_set_ne (Or.inr (by omega))).trans (zp_set_self)))
        have c5 : zv (zp_set (zp_set (zp_set (zp_set (zp_set (zp_set G b22 (2000 + (8 * n0)) its) a 21 ((n0 : Int) + 1)) b22 (2000 + (8 * n0 + 3)) (q0 : Int)) b22 (2000 + (8 * n0 + 4)) (q0 : Int)) b22 (2000 + (8 * n0 + 5)) (q0 : Int)) b22 (2000 + (8 * n0 + 6)) (q0 : Int)) a 22 (8 * n0 + 5) = (q0 : Int) := by rw [zv_eq x22]; exact ((zp_set_ne (Or.inr (by omega))).trans (zp_set_self))
        have c6 : zv (zp_set (zp_set (zp_set (zp_set (zp_set (zp_set G b22 (2000 + (8 * n0)) its) a 21 ((n0 : Int) + 1)) b22 (2000 + (8 * n0 + 3)) (q0 : Int)) b22 (2000 + (8 * n0 + 4)) (q0 : Int)) b22 (2000 + (8 * n0 + 5)) (q0 : Int)) b22 (2000 + (8 * n0 + 6)) (q0 : Int)) a 22 (8 * n0 + 6) = (q0 : Int) := by rw [zv_eq x22]; exact zp_set_self
        refine zp_vret (pc := 198) hx hb hE hQ hU5 rfl (by decide) (zd_X12_readLaw (198, .return_, 1, 0, []) (List.mem_of_getElem? (i := 116) rfl)) (j := 0) rfl ?_
        rw [hps]
        refine ⟨rfl, ?_⟩
        show zl_in a (zp_set (zp_set (zp_set (zp_set (zp_set (zp_set G b22 (2000 + (8 * n0)) its) a 21 ((n0 : Int) + 1)) b22 (2000 + (8 * n0 + 3)) (q0 : Int)) b22 (2000 + (8 * n0 + 4)) (q0 : Int)) b22 (2000 + (8 * n0 + 5)) (q0 : Int)) b22 (2000 + (8 * n0 + 6)) (q0 : Int)) ∧ zp_n u.2.1 a 14 ≤ (zp_set (zp_set (zp_set (zp_set (zp_set (zp_set G b22 (2000 + (8 * n0)) its) a 21 ((n0 : Int) + 1)) b22 (2000 + (8 * n0 + 3)) (q0 : Int)) b22 (2000 + (8 * n0 + 4)) (q0 : Int)) b22 (2000 + (8 * n0 + 5)) (q0 : Int)) b22 (2000 + (8 * n0 + 6)) (q0 : Int)) a 14 ∧ ((zp_set (zp_set (zp_set (zp_set (zp_set (zp_set G b22 (2000 + (8 * n0)) its) a 21 ((n0 : Int) + 1)) b22 (2000 + (8 * n0 + 3)) (q0 : Int)) b22 (2000 + (8 * n0 + 4)) (q0 : Int)) b22 (2000 + (8 * n0 + 5)) (q0 : Int)) b22 (2000 + (8 * n0 + 6)) (q0 : Int)) a 19 = 0 → zp_n u.2.1 a 19 = 0)
        refine ⟨⟨xtk, by omega, by omega, by omega, by omega, fun z c hc => ?_⟩, by omega, fun z => ?_⟩
        · by_cases hcn : n0 = c
          · subst hcn
            refine ⟨fun j j1 j2 => ?_, fun z2 => ?_, fun z2 => ?_⟩
            · have hj : j = 3 ∨ j = 4 ∨ j = 5 ∨ j = 6 := by omega
              rcases hj with rfl | rfl | rfl | rfl
              · rw [c3, x23]; omega
              · rw [c4, x23]; omega
              · rw [c5, x23]; omega
              · rw [c6, x23]; omega
            · rw [c5, c6] at z2 ⊢
              omega
            · rw [c0] at z2
              rw [c3, c4]
              exact absurd (by omega) z2
          · have hc2 : (c : Int) < zp_n u.2.1 a 21 := by omega
            refine zl_keep (hok0 (by omega) c hc2) (fun j hj => y22 _ (by omega)) (by omega) (fun q hq => ⟨y24 q (by omega), y25 q (by omega)⟩)
        · omega
      · refine zp_load (pc := 166) hx hb (zd_X12_readLaw (166, .aload_n 0, 1, 0, []) (List.mem_of_getElem? (i := 99) rfl)) rfl (j := 3) rfl ?_
        refine zp_ldc2 (pc := 167) hx hb hE (zd_X12_readLaw (167, .ldc2_w 377, 3, 0, []) (List.mem_of_getElem? (i := 100) rfl)) (j := 104) rfl ?_
        refine zp_call (pc := 170) (how := 0) (idx := 300) (mi := 216) (S := []) hx hb hE hw heff hrm (zX_wo hW) rfl (j := 18) rfl rfl (by decide +kernel) (zd_X12_readLaw (170, .invokevirtual 300, 3, 0, []) (List.mem_of_getElem? (i := 101) rfl)) [(a : Int), 294] rfl ⟨zp_o2 hp, zp_o1 ⟨by decide, by decide⟩, trivial⟩ (Nat.le_of_ble_eq_true rfl) trivial (fun al hal rnw Pw Gw hextw hfrw hokw hcsw hpsiw => ?_)
        obtain rfl := List.mem_singleton.mp hal
        have hrw := zp_int (hokw _ rfl).1
        obtain ⟨hPew, hGew, htw⟩ := hpsiw
        rw [hPew, hGew]
        refine zp_if (pc := 173) (tgt := 185) hx hb (zd_X12_readLaw (173, .ifCond .eq 12, 3, 0, []) (List.mem_of_getElem? (i := 102) rfl)) rfl (fun (hc160 : rnw = 0) => ?_) (fun (hc160 : ¬ (rnw = 0)) => ?_)
        · refine zp_load (pc := 185) hx hb (zd_X12_readLaw (185, .aload_n 0, 1, 0, []) (List.mem_of_getElem? (i := 108) rfl)) rfl (j := 3) rfl ?_
          refine zp_getf (n := (b22 : Int)) (pc := 186) hx hb hE hw (zd_X12_readLaw (186, .getfield 42, 3, 0, []) (List.mem_of_getElem? (i := 109) rfl)) (j := 40) rfl rfl rfl hp ((zp_set_ne (Or.inl (zp_pne hp hq22 (by decide)))).trans ((zp_set_ne (Or.inl (zp_pne hp hq22 (by decide)))).trans ((zp_set_ne (Or.inl (zp_pne hp hq22 (by decide)))).trans ((zp_set_ne (Or.inr (by decide))).trans ((zp_set_ne (Or.inl (zp_pne hp hq22 (by decide)))).trans (g22)))))) ?_
          refine zp_load (pc := 189) hx hb (zd_X12_readLaw (189, .iload_n 2, 1, 0, []) (List.mem_of_getElem? (i := 110) rfl)) rfl (j := 1) rfl ?_
          refine zp_const (pc := 190) hx hb (zd_X12_readLaw (190, .bipush 6, 2, 0, []) (List.mem_of_getElem? (i := 111) rfl)) rfl rfl ?_
          refine zp_add (n := (8 * (n0 : Int) + 6)) (pc := 192) hx hb (zd_X12_readLaw (192, .iadd, 1, 0, []) (List.mem_of_getElem? (i := 112) rfl)) (by omega) (zp_r0 (by omega) (by omega)) ?_
          refine zp_load (pc := 193) hx hb (zd_X12_readLaw (193, .aload_n 0, 1, 0, []) (List.mem_of_getElem? (i := 113) rfl)) rfl (j := 3) rfl ?_
          refine zp_getf (n := (q0 : Int)) (pc := 194) hx hb hE hw (zd_X12_readLaw (194, .getfield 279, 3, 0, []) (List.mem_of_getElem? (i := 114) rfl)) (j := 41) rfl rfl rfl hp ((zp_set_ne (Or.inl (zp_pne hp hq22 (by decide)))).trans ((zp_set_ne (Or.inl (zp_pne hp hq22 (by decide)))).trans ((zp_set_ne (Or.inl (zp_pne hp hq22 (by decide)))).trans ((zp_set_ne (Or.inr (by decide))).trans ((zp_set_ne (Or.inl (zp_pne hp hq22 (by decide)))).trans (g23)))))) ?_
          refine zp_iast (j := (8 * n0 + 6)) (pc := 197) hx hb hw heff (zd_X12_readLaw (197, .iastore, 1, 0, []) (List.mem_of_getElem? (i := 115) rfl)) (show zp_ia 1 67 = some (96, 0, 0, (-2147483648), 2147483647) from rfl) hq22 (by omega) (by omega) (zp_o0 (by omega) (by omega) (by omega) (by omega)) rfl ?_
          have x13 : (zp_set (zp_set (zp_set (zp_set (zp_set (zp_set G b22 (2000 + (8 * n0)) its) a 21 ((n0 : Int) + 1)) b22 (2000 + (8 * n0 + 3)) (q0 : Int)) b22 (2000 + (8 * n0 + 4)) (q0 : Int)) b22 (2000 + (8 * n0 + 5)) (q0 : Int)) b22 (2000 + (8 * n0 + 6)) (q0 : Int)) a 13 = (G a 13) := ((zp_set_ne (Or.inl (zp_pne hp hq22 (by decide)))).trans ((zp_set_ne (Or.inl (zp_pne hp hq22 (by decide)))).trans ((zp_set_ne (Or.inl (zp_pne hp hq22 (by decide)))).trans ((zp_set_ne (Or.inl (zp_pne hp hq22 (by decide)))).trans ((zp_set_ne (Or.inr (by decide))).trans ((zp_set_ne (Or.inl (zp_pne hp hq22 (by decide))))))))))
          have x14 : (zp_set (zp_set (zp_set (zp_set (zp_set (zp_set G b22 (2000 + (8 * n0)) its) a 21 ((n0 : Int) + 1)) b22 (2000 + (8 * n0 + 3)) (q0 : Int)) b22 (2000 + (8 * n0 + 4)) (q0 : Int)) b22 (2000 + (8 * n0 + 5)) (q0 : Int)) b22 (2000 + (8 * n0 + 6)) (q0 : Int)) a 14 = (G a 14) := ((zp_set_ne (Or.inl (zp_pne hp hq22 (by decide)))).trans ((zp_set_ne (Or.inl (zp_pne hp hq22 (by decide)))).trans ((zp_set_ne (Or.inl (zp_pne hp hq22 (by decide)))).trans ((zp_set_ne (Or.inl (zp_pne hp hq22 (by decide)))).trans ((zp_set_ne (Or.inr (by decide))).trans ((zp_set_ne (Or.inl (zp_pne hp hq22 (by decide))))))))))
          have x15 : (zp_set (zp_set (zp_set (zp_set (zp_set (zp_set G b22 (2000 + (8 * n0)) its) a 21 ((n0 : Int) + 1)) b22 (2000 + (8 * n0 + 3)) (q0 : Int)) b22 (2000 + (8 * n0 + 4)) (q0 : Int)) b22 (2000 + (8 * n0 + 5)) (q0 : Int)) b22 (2000 + (8 * n0 + 6)) (q0 : Int)) a 15 = (G a 15) := ((zp_set_ne (Or.inl (zp_pne hp hq22 (by decide)))).trans ((zp_set_ne (Or.inl (zp_pne hp hq22 (by decide)))).trans ((zp_set_ne (Or.inl (zp_pne hp hq22 (by decide)))).trans ((zp_set_ne (Or.inl (zp_pne hp hq22 (by decide)))).trans ((zp_set_ne (Or.inr (by decide))).trans ((zp_set_ne (Or.inl (zp_pne hp hq22 (by decide))))))))))
          have x16 : (zp_set (zp_set (zp_set (zp_set (zp_set (zp_set G b22 (2000 + (8 * n0)) its) a 21 ((n0 : Int) + 1)) b22 (2000 + (8 * n0 + 3)) (q0 : Int)) b22 (2000 + (8 * n0 + 4)) (q0 : Int)) b22 (2000 + (8 * n0 + 5)) (q0 : Int)) b22 (2000 + (8 * n0 + 6)) (q0 : Int)) a 16 = (G a 16) := ((zp_set_ne (Or.inl (zp_pne hp hq22 (by decide)))).trans ((zp_set_ne (Or.inl (zp_pne hp hq22 (by decide)))).trans ((zp_set_ne (Or.inl (zp_pne hp hq22 (by decide)))).trans ((zp_set_ne (Or.inl (zp_pne hp hq22 (by decide)))).trans ((zp_set_ne (Or.inr (by decide))).trans ((zp_set_ne (Or.inl (zp_pne hp hq22 (by decide))))))))))
          have x19 : (zp_set (zp_set (zp_set (zp_set (zp_set (zp_set G b22 (2000 + (8 * n0)) its) a 21 ((n0 : Int) + 1)) b22 (2000 + (8 * n0 + 3)) (q0 : Int)) b22 (2000 + (8 * n0 + 4)) (q0 : Int)) b22 (2000 + (8 * n0 + 5)) (q0 : Int)) b22 (2000 + (8 * n0 + 6)) (q0 : Int)) a 19 = (G a 19) := ((zp_set_ne (Or.inl (zp_pne hp hq22 (by decide)))).trans ((zp_set_ne (Or.inl (zp_pne hp hq22 (by decide)))).trans ((zp_set_ne (Or.inl (zp_pne hp hq22 (by decide)))).trans ((zp_set_ne (Or.inl (zp_pne hp hq22 (by decide)))).trans ((zp_set_ne (Or.inr (by decide))).trans ((zp_set_ne (Or.inl (zp_pne hp hq22 (by decide))))))))))
          have x21 : (zp_set (zp_set (zp_set (zp_set (zp_set (zp_set G b22 (2000 + (8 * n0)) its) a 21 ((n0 : Int) + 1)) b22 (2000 + (8 * n0 + 3)) (q0 : Int)) b22 (2000 + (8 * n0 + 4)) (q0 : Int)) b22 (2000 + (8 * n0 + 5)) (q0 : Int)) b22 (2000 + (8 * n0 + 6)) (q0 : Int)) a 21 = ((n0 : Int) + 1) := ((zp_set_ne (Or.inl (zp_pne hp hq22 (by decide)))).trans ((zp_set_ne (Or.inl (zp_pne hp hq22 (by decide)))).trans ((zp_set_ne (Or.inl (zp_pne hp hq22 (by decide)))).trans ((zp_set_ne (Or.inl (zp_pne hp hq22 (by decide)))).trans (zp_set_self)))))
          have x23 : (zp_set (zp_set (zp_set (zp_set (zp_set (zp_set G b22 (2000 + (8 * n0)) its) a 21 ((n0 : Int) + 1)) b22 (2000 + (8 * n0 + 3)) (q0 : Int)) b22 (2000 + (8 * n0 + 4)) (q0 : Int)) b22 (2000 + (8 * n0 + 5)) (q0 : Int)) b22 (2000 + (8 * n0 + 6)) (q0 : Int)) a 23 = (q0 : Int) := ((zp_set_ne (Or.inl (zp_pne hp hq22 (by decide)))).trans ((zp_set_ne (Or.inl (zp_pne hp hq22 (by decide)))).trans ((zp_set_ne (Or.inl (zp_pne hp hq22 (by decide)))).trans ((zp_set_ne (Or.inl (zp_pne hp hq22 (by decide)))).trans ((zp_set_ne (Or.inr (by decide))).trans ((zp_set_ne (Or.inl (zp_pne hp hq22 (by decide)))).trans (g23)))))))
          have x22 : (zp_set (zp_set (zp_set (zp_set (zp_set (zp_set G b22 (2000 + (8 * n0)) its) a 21 ((n0 : Int) + 1)) b22 (2000 + (8 * n0 + 3)) (q0 : Int)) b22 (2000 + (8 * n0 + 4)) (q0 : Int)) b22 (2000 + (8 * n0 + 5)) (q0 : Int)) b22 (2000 + (8 * n0 + 6)) (q0 : Int)) a 22 = (b22 : Int) := ((zp_set_ne (Or.inl (zp_pne hp hq22 (by decide)))).trans ((zp_set_ne (Or.inl (zp_pne hp hq22 (by decide)))).trans ((zp_set_ne (Or.inl (zp_pne hp hq22 (by decide)))).trans ((zp_set_ne (Or.inl (zp_pne hp hq22 (by decide)))).trans ((zp_set_ne (Or.inr (by decide))).trans ((zp_set_ne (Or.inl (zp_pne hp hq22 (by decide)))).trans (g22)))))))
          have x24 : (zp_set (zp_set (zp_set (zp_set (zp_set (zp_set G b22 (2000 + (8 * n0)) its) a 21 ((n0 : Int) + 1)) b22 (2000 + (8 * n0 + 3)) (q0 : Int)) b22 (2000 + (8 * n0 + 4)) (q0 : Int)) b22 (2000 + (8 * n0 + 5)) (q0 : Int)) b22 (2000 + (8 * n0 + 6)) (q0 : Int)) a 24 = (b24 : Int) := ((zp_set_ne (Or.inl (zp_pne hp hq22 (by decide)))).trans ((zp_set_ne (Or.inl (zp_pne hp hq22 (by decide)))).trans ((zp_set_ne (Or.inl (zp_pne hp hq22 (by decide)))).trans ((zp_set_ne (Or.inl (zp_pne hp hq22 (by decide)))).trans ((zp_set_ne (Or.inr (by decide))).trans ((zp_set_ne (Or.inl (zp_pne hp hq22 (by decide)))).trans (g24)))))))
          have x25 : (zp_set (zp_set (zp_set (zp_set (zp_set (zp_set G b22 (2000 + (8 * n0)) its) a 21 ((n0 : Int) + 1)) b22 (2000 + (8 * n0 + 3)) (q0 : Int)) b22 (2000 + (8 * n0 + 4)) (q0 : Int)) b22 (2000 + (8 * n0 + 5)) (q0 : Int)) b22 (2000 + (8 * n0 + 6)) (q0 : Int)) a 25 = (b25 : Int) := ((zp_set_ne (Or.inl (zp_pne hp hq22 (by decide)))).trans ((zp_set_ne (Or.inl (zp_pne hp hq22 (by decide)))).trans ((zp_set_ne (Or.inl (zp_pne hp hq22 (by decide)))).trans ((zp_set_ne (Or.inl (zp_pne hp hq22 (by decide)))).trans ((zp_set_ne (Or.inr (by decide))).trans ((zp_set_ne (Or.inl (zp_pne hp hq22 (by decide)))).trans (g25)))))))
          have xtk : zs_tk a (zp_set (zp_set (zp_set (zp_set (zp_set (zp_set G b22 (2000 + (8 * n0)) its) a 21 ((n0 : Int) + 1)) b22 (2000 + (8 * n0 + 3)) (q0 : Int)) b22 (2000 + (8 * n0 + 4)) (q0 : Int)) b22 (2000 + (8 * n0 + 5)) (q0 : Int)) b22 (2000 + (8 * n0 + 6)) (q0 : Int)) := zs_tk_congr gtk ((zp_set_ne (Or.inl (zp_pne hp hq22 (by decide)))).trans ((zp_set_ne (Or.inl (zp_pne hp hq22 (by decide)))).trans ((zp_set_ne (Or.inl (zp_pne hp hq22 (by decide)))).trans ((zp_set_ne (Or.inl (zp_pne hp hq22 (by decide)))).trans ((zp_set_ne (Or.inr (by decide))).trans ((zp_set_ne (Or.inl (zp_pne hp hq22 (by decide)))))))))) ((zp_set_ne (Or.inl (zp_pne hp hq22 (by decide)))).trans ((zp_set_ne (Or.inl (zp_pne hp hq22 (by decide)))).trans ((zp_set_ne (Or.inl (zp_pne hp hq22 (by decide)))).trans ((zp_set_ne (Or.inl (zp_pne hp hq22 (by decide)))).trans ((zp_set_ne (Or.inr (by decide))).trans ((zp_set_ne (Or.inl (zp_pne hp hq22 (by decide)))))))))) ((zp_set_ne (Or.inl (zp_pne hp hq22 (by decide)))).trans ((zp_set_ne (Or.inl (zp_pne hp hq22 (by decide)))).trans ((zp_set_ne (Or.inl (zp_pne hp hq22 (by decide)))).trans ((zp_set_ne (Or.inl (zp_pne hp hq22 (by decide)))).trans ((zp_set_ne (Or.inr (by decide))).trans ((zp_set_ne (Or.inl (zp_pne hp hq22 (by decide)))))))))) ((zp_set_ne (Or.inl (zp_pne hp hq22 (by decide)))).trans ((zp_set_ne (Or.inl (zp_pne hp hq22 (by decide)))).trans ((zp_set_ne (Or.inl (zp_pne hp hq22 (by decide)))).trans ((zp_set_ne (Or.inl (zp_pne hp hq22 (by decide)))).trans ((zp_set_ne (Or.inr (by decide))).trans ((zp_set_ne (Or.inl (zp_pne hp hq22 (by decide))))))))))
          have y24 : ∀ q : Nat, (q : Int) < (q0 : Int) → zv (zp_set (zp_set (zp_set (zp_set (zp_set (zp_set G b22 (2000 + (8 * n0)) its) a 21 ((n0 : Int) + 1)) b22 (2000 + (8 * n0 + 3)) (q0 : Int)) b22 (2000 + (8 * n0 + 4)) (q0 : Int)) b22 (2000 + (8 * n0 + 5)) (q0 : Int)) b22 (2000 + (8 * n0 + 6)) (q0 : Int)) a 24 q = zv (zp_n u.2.1) a 24 q := fun q hq => by
            rw [zv_eq x24, zv_eq hb24]
            exact ((zp_set_ne (Or.inl (zp_pne hq24 hq22 (by decide)))).trans ((zp_set_ne (Or.inl (zp_pne hq24 hq22 (by decide)))).trans ((zp_set_ne (Or.inl (zp_pne hq24 hq22 (by decide)))).trans ((zp_set_ne (Or.inl (zp_pne hq24 hq22 (by decide)))).trans ((zp_set_ne (Or.inl (zp_pne hq24 hp (by decide)))).trans ((zp_set_ne (Or.inl (zp_pne hq24 hq22 (by decide)))).trans ((z24 q))))))))
          have y25 : ∀ q : Nat, (q : Int) < (q0 : Int) → zv (zp_set (zp_set (zp_set (zp_set (zp_set (zp_set G b22 (2000 + (8 * n0)) its) a 21 ((n0 : Int) + 1)) b22 (2000 + (8 * n0 + 3)) (q0 : Int)) b22 (2000 + (8 * n0 + 4)) (q0 : Int)) b22 (2000 + (8 * n0 + 5)) (q0 : Int)) b22 (2000 + (8 * n0 + 6)) (q0 : Int)) a 25 q = zv (zp_n u.2.1) a 25 q := fun q hq => by
            rw [zv_eq x25, zv_eq hb25]
            exact ((zp_set_ne (Or.inl (zp_pne hq25 hq22 (by decide)))).trans ((zp_set_ne (Or.inl (zp_pne hq25 hq22 (by decide)))).trans ((zp_set_ne (Or.inl (zp_pne hq25 hq22 (by decide)))).trans ((zp_set_ne (Or.inl (zp_pne hq25 hq22 (by decide)))).trans ((zp_set_ne (Or.inl (zp_pne hq25 hp (by decide)))).trans ((zp_set_ne (Or.inl (zp_pne hq25 hq22 (by decide)))).trans ((z25 q))))))))
          have y22 : ∀ j : Nat, j < 8 * n0 → zv (zp_set (zp_set (zp_set (zp_set (zp_set (zp_set G b22 (2000 + (8 * n0)) its) a 21 ((n0 : Int) + 1)) b22 (2000 + (8 * n0 + 3)) (q0 : Int)) b22 (2000 + (8 * n0 + 4)) (q0 : Int)) b22 (2000 + (8 * n0 + 5)) (q0 : Int)) b22 (2000 + (8 * n0 + 6)) (q0 : Int)) a 22 j = zv (zp_n u.2.1) a 22 j := fun j hj => by
            rw [zv_eq x22, zv_eq hb22]
            exact ((zp_set_ne (Or.inr (by omega))).trans ((zp_set_ne (Or.inr (by omega))).trans ((zp_set_ne (Or.inr (by omega))).trans ((zp_set_ne (Or.inr (by omega))).trans ((zp_set_ne (Or.inl (zp_pne hq22 hp (by decide)))).trans ((zp_set_ne (Or.inr (by omega))).trans ((z22 j hj))))))))
          have c0 : zv (zp_set (zp_set (zp_set (zp_set (zp_set (zp_set G b22 (2000 + (8 * n0)) its) a 21 ((n0 : Int) + 1)) b22 (2000 + (8 * n0 + 3)) (q0 : Int)) b22 (2000 + (8 * n0 + 4)) (q0 : Int)) b22 (2000 + (8 * n0 + 5)) (q0 : Int)) b22 (2000 + (8 * n0 + 6)) (q0 : Int)) a 22 (8 * n0) = its := by rw [zv_eq x22]; exact ((zp_set_ne (Or.inr (by omega))).trans ((zp_set_ne (Or.inr (by omega))).trans ((zp_set_ne (Or.inr (by omega))).trans ((zp_set_ne (Or.inr (by omega))).trans ((zp_set_ne (Or.inl (zp_pne hq22 hp (by decide)))).trans (zp_set_self))))))
          have c3 : zv (zp_set (zp_set (zp_set (zp_set (zp_set (zp_set G b22 (2000 + (8 * n0)) its) a 21 ((n0 : Int) + 1)) b22 (2000 + (8 * n0 + 3)) (q0 : Int)) b22 (2000 + (8 * n0 + 4)) (q0 : Int)) b22 (2000 + (8 * n0 + 5)) (q0 : Int)) b22 (2000 + (8 * n0 + 6)) (q0 : Int)) a 22 (8 * n0 + 3) = (q0 : Int) := by rw [zv_eq x22]; exact ((zp_set_ne (Or.inr (by omega))).trans ((zp_set_ne (Or.inr (by omega))).trans ((zp_set_ne (Or.inr (by omega))).trans (zp_set_self))))
          have c4 : zv (zp_set (zp_set (zp_set (zp_set (zp_set (zp_set G b22 (2000 + (8 * n0)) its) a 21 ((n0 : Int) + 1)) b22 (2000 + (8 * n0 + 3)) (q0 : Int)) b22 (2000 + (8 * n0 + 4)) (q0 : Int)) b22 (2000 + (8 * n0 + 5)) (q0 : Int)) b22 (2000 + (8 * n0 + 6)) (q0 : Int)) a 22 (8 * n0 + 4) = (q0 : Int) := by rw [zv_eq x22]; exact ((zp_set_ne (Or.inr (by omega))).trans ((zp_set_ne (Or.inr (by omega))).trans (zp_set_self)))
          have c5 : zv (zp_set (zp_set (zp_set (zp_set (zp_set (zp_set G b22 (2000 + (8 * n0)) its) a 21 ((n0 : Int) + 1)) b22 (2000 + (8 * n0 + 3)) (q0 : Int)) b22 (2000 + (8 * n0 + 4)) (q0 : Int)) b22 (2000 + (8 * n0 + 5)) (q0 : Int)) b22 (2000 + (8 * n0 + 6)) (q0 : Int)) a 22 (8 * n0 + 5) = (q0 : Int) := by rw [zv_eq x22]; exact ((zp_set_ne (Or.inr (by omega))).trans (zp_set_self))
          have c6 : zv (zp_set (zp_set (zp_set (zp_set (zp_set (zp_set G b22 (2000 + (8 * n0)) its) a 21 ((n0 : Int) + 1)) b22 (2000 + (8 * n0 + 3)) (q0 : Int)) b22 (2000 + (8 * n0 + 4)) (q0 : Int)) b22 (2000 + (8 * n0 + 5)) (q0 : Int)) b22 (2000 + (8 * n0 + 6)) (q0 : Int)) a 22 (8 * n0 + 6) = (q0 : Int) := by rw [zv_eq x22]; exact zp_set_self
          refine zp_vret (pc := 198) hx hb hE hQ hU5 rfl (by decide) (zd_X12_readLaw (198, .return_, 1, 0, []) (List.mem_of_getElem? (i := 116) rfl)) (j := 0) rfl ?_
          rw [hps]
          refine ⟨rfl, ?_⟩
          show zl_in a (zp_set (zp_set (zp_set (zp_set (zp_set (zp_set G b22 (2000 + (8 * n0)) its) a 21 ((n0 : Int) + 1)) b22 (2000 + (8 * n0 + 3)) (q0 : Int)) b22 (2000 + (8 * n0 + 4)) (q0 : Int)) b22 (2000 + (8 * n0 + 5)) (q0 : Int)) b22 (2000 + (8 * n0 + 6)) (q0 : Int)) ∧ zp_n u.2.1 a 14 ≤ (zp_set (zp_set (zp_set (zp_set (zp_set (zp_set G b22 (2000 + (8 * n0)) its) a 21 ((n0 : Int) + 1)) b22 (2000 + (8 * n0 + 3)) (q0 : Int)) b22 (2000 + (8 * n0 + 4)) (q0 : Int)) b22 (2000 + (8 * n0 + 5)) (q0 : Int)) b22 (2000 + (8 * n0 + 6)) (q0 : Int)) a 14 ∧ ((zp_set (zp_set (zp_set (zp_set (zp_set (zp_set G b22 (2000 + (8 * n0)) its) a 21 ((n0 : Int) + 1)) b22 (2000 + (8 * n0 + 3)) (q0 : Int)) b22 (2000 + (8 * n0 + 4)) (q0 : Int)) b22 (2000 + (8 * n0 + 5)) (q0 : Int)) b22 (2000 + (8 * n0 + 6)) (q0 : Int)) a 19 = 0 → zp_n u.2.1 a 19 = 0)
          refine ⟨⟨xtk, by omega, by omega, by omega, by omega, fun z c hc => ?_⟩, by omega, fun z => ?_⟩
          · by_cases hcn : n0 = c
            · subst hcn
              refine ⟨fun j j1 j2 => ?_, fun z2 => ?_, fun z2 => ?_⟩
              · have hj : j = 3 ∨ j = 4 ∨ j = 5 ∨ j = 6 := by omega
                rcases hj with rfl | rfl | rfl | rfl
                · rw [c3, x23]; omega
                · rw [c4, x23]; omega
                · rw [c5, x23]; omega
                · rw [c6, x23]; omega
              · rw [c5, c6] at z2 ⊢
                omega
              · rw [c0] at z2
                rw [c3, c4]
                exact absurd (by omega) z2
            · have hc2 : (c : Int) < zp_n u.2.1 a 21 := by omega
              refine zl_keep (hok0 (by omega) c hc2) (fun j hj => y22 _ (by omega)) (by omega) (fun q hq => ⟨y24 q (by omega), y25 q (by omega)⟩)
          · omega
        · refine zp_load (pc := 176) hx hb (zd_X12_readLaw (176, .aload_n 0, 1, 0, []) (List.mem_of_getElem? (i := 103) rfl)) rfl (j := 3) rfl ?_
          have nf13 : (zp_set (zp_set (zp_set (zp_set (zp_set G b22 (2000 + (8 * n0)) its) a 21 ((n0 : Int) + 1)) b22 (2000 + (8 * n0 + 3)) (q0 : Int)) b22 (2000 + (8 * n0 + 4)) (q0 : Int)) b22 (2000 + (8 * n0 + 5)) (q0 : Int)) a 13 = (G a 13) := ((zp_set_ne (Or.inl (zp_pne hp hq22 (by decide)))).trans ((zp_set_ne (Or.inl (zp_pne hp hq22 (by decide)))).trans ((zp_set_ne (Or.inl (zp_pne hp hq22 (by decide)))).trans ((zp_set_ne (Or.inr (by decide))).trans ((zp_set_ne (Or.inl (zp_pne hp hq22 (by decide)))))))))
          have nf14 : (zp_set (zp_set (zp_set (zp_set (zp_set G b22 (2000 + (8 * n0)) its) a 21 ((n0 : Int) + 1)) b22 (2000 + (8 * n0 + 3)) (q0 : Int)) b22 (2000 + (8 * n0 + 4)) (q0 : Int)) b22 (2000 + (8 * n0 + 5)) (q0 : Int)) a 14 = (G a 14) := ((zp_set_ne (Or.inl (zp_pne hp hq22 (by decide)))).trans ((zp_set_ne (Or.inl (zp_pne hp hq22 (by decide)))).trans ((zp_set_ne (Or.inl (zp_pne hp hq22 (by decide)))).trans ((zp_set_ne (Or.inr (by decide))).trans ((zp_set_ne (Or.inl (zp_pne hp hq22 (by decide)))))))))
          have nf15 : (zp_set (zp_set (zp_set (zp_set (zp_set G b22 (2000 + (8 * n0)) its) a 21 ((n0 : Int) + 1)) b22 (2000 + (8 * n0 + 3)) (q0 : Int)) b22 (2000 + (8 * n0 + 4)) (q0 : Int)) b22 (2000 + (8 * n0 + 5)) (q0 : Int)) a 15 = (G a 15) := ((zp_set_ne (Or.inl (zp_pne hp hq22 (by decide)))).trans ((zp_set_ne (Or.inl (zp_pne hp hq22 (by decide)))).trans ((zp_set_ne (Or.inl (zp_pne hp hq22 (by decide)))).trans ((zp_set_ne (Or.inr (by decide))).trans ((zp_set_ne (Or.inl (zp_pne hp hq22 (by decide)))))))))
          have nf16 : (zp_set (zp_set (zp_set (zp_set (zp_set G b22 (2000 + (8 * n0)) its) a 21 ((n0 : Int) + 1)) b22 (2000 + (8 * n0 + 3)) (q0 : Int)) b22 (2000 + (8 * n0 + 4)) (q0 : Int)) b22 (2000 + (8 * n0 + 5)) (q0 : Int)) a 16 = (G a 16) := ((zp_set_ne (Or.inl (zp_pne hp hq22 (by decide)))).trans ((zp_set_ne (Or.inl (zp_pne hp hq22 (by decide)))).trans ((zp_set_ne (Or.inl (zp_pne hp hq22 (by decide)))).trans ((zp_set_ne (Or.inr (by decide))).trans ((zp_set_ne (Or.inl (zp_pne hp hq22 (by decide)))))))))
          have nf19 : (zp_set (zp_set (zp_set (zp_set (zp_set G b22 (2000 + (8 * n0)) its) a 21 ((n0 : Int) + 1)) b22 (2000 + (8 * n0 + 3)) (q0 : Int)) b22 (2000 + (8 * n0 + 4)) (q0 : Int)) b22 (2000 + (8 * n0 + 5)) (q0 : Int)) a 19 = (G a 19) := ((zp_set_ne (Or.inl (zp_pne hp hq22 (by decide)))).trans ((zp_set_ne (Or.inl (zp_pne hp hq22 (by decide)))).trans ((zp_set_ne (Or.inl (zp_pne hp hq22 (by decide)))).trans ((zp_set_ne (Or.inr (by decide))).trans ((zp_set_ne (Or.inl (zp_pne hp hq22 (by decide)))))))))
          have nf23 : (zp_set (zp_set (zp_set (zp_set (zp_set G b22 (2000 + (8 * n0)) its) a 21 ((n0 : Int) + 1)) b22 (2000 + (8 * n0 + 3)) (q0 : Int)) b22 (2000 + (8 * n0 + 4)) (q0 : Int)) b22 (2000 + (8 * n0 + 5)) (q0 : Int)) a 23 = (q0 : Int) := ((zp_set_ne (Or.inl (zp_pne hp hq22 (by decide)))).trans ((zp_set_ne (Or.inl (zp_pne hp hq22 (by decide)))).trans ((zp_set_ne (Or.inl (zp_pne hp hq22 (by decide)))).trans ((zp_set_ne (Or.inr (by decide))).trans ((zp_set_ne (Or.inl (zp_pne hp hq22 (by decide)))).trans (g23))))))
          have ntk : zs_tk a (zp_set (zp_set (zp_set (zp_set (zp_set G b22 (2000 + (8 * n0)) its) a 21 ((n0 : Int) + 1)) b22 (2000 + (8 * n0 + 3)) (q0 : Int)) b22 (2000 + (8 * n0 + 4)) (q0 : Int)) b22 (2000 + (8 * n0 + 5)) (q0 : Int)) := zs_tk_congr gtk ((zp_set_ne (Or.inl (zp_pne hp hq22 (by decide)))).trans ((zp_set_ne (Or.inl (zp_pne hp hq22 (by decide)))).trans ((zp_set_ne (Or.inl (zp_pne hp hq22 (by decide)))).trans ((zp_set_ne (Or.inr (by decide))).trans ((zp_set_ne (Or.inl (zp_pne hp hq22 (by decide))))))))) ((zp_set_ne (Or.inl (zp_pne hp hq22 (by decide)))).trans ((zp_set_ne (Or.inl (zp_pne hp hq22 (by decide)))).trans ((zp_set_ne (Or.inl (zp_pne hp hq22 (by decide)))).trans ((zp_set_ne (Or.inr (by decide))).trans ((zp_set_ne (Or.inl (zp_pne hp hq22 (by decide))))))))) ((zp_set_ne (Or.inl (zp_pne hp hq22 (by decide)))).trans ((zp_set_ne (Or.inl (zp_pne hp hq22 (by decide)))).trans ((zp_set_ne (Or.inl (zp_pne hp hq22 (by decide)))).trans ((zp_set_ne (Or.inr (by decide))).trans ((zp_set_ne (Or.inl (zp_pne hp hq22 (by decide))))))))) ((zp_set_ne (Or.inl (zp_pne hp hq22 (by decide)))).trans ((zp_set_ne (Or.inl (zp_pne hp hq22 (by decide)))).trans ((zp_set_ne (Or.inl (zp_pne hp hq22 (by decide)))).trans ((zp_set_ne (Or.inr (by decide))).trans ((zp_set_ne (Or.inl (zp_pne hp hq22 (by decide)))))))))
          have ntk2 := ntk
          obtain ⟨nt1, nt2, nt3, -, -, -⟩ := ntk2
          refine zp_call (pc := 177) (how := 0) (idx := 244) (mi := 212) (S := []) hx hb hE hw heff hrm (zX_nx hW) rfl (j := 14) rfl rfl (by decide +kernel) (zd_X12_readLaw (177, .invokevirtual 244, 3, 0, []) (List.mem_of_getElem? (i := 104) rfl)) [(a : Int)] rfl ⟨zp_o2 hp, trivial⟩ (Nat.le_of_ble_eq_true rfl) (show 0 ≤ (zp_set (zp_set (zp_set (zp_set (zp_set G b22 (2000 + (8 * n0)) its) a 21 ((n0 : Int) + 1)) b22 (2000 + (8 * n0 + 3)) (q0 : Int)) b22 (2000 + (8 * n0 + 4)) (q0 : Int)) b22 (2000 + (8 * n0 + 5)) (q0 : Int)) a 15 ∧ (zp_set (zp_set (zp_set (zp_set (zp_set G b22 (2000 + (8 * n0)) its) a 21 ((n0 : Int) + 1)) b22 (2000 + (8 * n0 + 3)) (q0 : Int)) b22 (2000 + (8 * n0 + 4)) (q0 : Int)) b22 (2000 + (8 * n0 + 5)) (q0 : Int)) a 15 ≤ (zp_set (zp_set (zp_set (zp_set (zp_set G b22 (2000 + (8 * n0)) its) a 21 ((n0 : Int) + 1)) b22 (2000 + (8 * n0 + 3)) (q0 : Int)) b22 (2000 + (8 * n0 + 4)) (q0 : Int)) b22 (2000 + (8 * n0 + 5)) (q0 : Int)) a 13 by omega) (fun al hal rnn Pn Gn hextn hfrn hokn hcsn hpsin => ?_)
          obtain rfl := List.mem_singleton.mp hal
          obtain ⟨rfl, hxn⟩ := hpsin
          have hxn : (zp_set (zp_set (zp_set (zp_set (zp_set G b22 (2000 + (8 * n0)) its) a 21 ((n0 : Int) + 1)) b22 (2000 + (8 * n0 + 3)) (q0 : Int)) b22 (2000 + (8 * n0 + 4)) (q0 : Int)) b22 (2000 + (8 * n0 + 5)) (q0 : Int)) a 15 ≤ Gn a 14 ∧ Gn a 14 ≤ Gn a 15 ∧ Gn a 15 ≤ (zp_set (zp_set (zp_set (zp_set (zp_set G b22 (2000 + (8 * n0)) its) a 21 ((n0 : Int) + 1)) b22 (2000 + (8 * n0 + 3)) (q0 : Int)) b22 (2000 + (8 * n0 + 4)) (q0 : Int)) b22 (2000 + (8 * n0 + 5)) (q0 : Int)) a 13 ∧ 0 ≤ Gn a 16 ∧ Gn a 16 ≤ 3 ∧ (Gn a 16 ≠ 0 → Gn a 14 < Gn a 15) := hxn
          have nn13 : Gn a 13 = (zp_set (zp_set (zp_set (zp_set (zp_set G b22 (2000 + (8 * n0)) its) a 21 ((n0 : Int) + 1)) b22 (2000 + (8 * n0 + 3)) (q0 : Int)) b22 (2000 + (8 * n0 + 4)) (q0 : Int)) b22 (2000 + (8 * n0 + 5)) (q0 : Int)) a 13 := zp_nf hfrn hp rfl
          have nntk : zs_tk a Gn := by unfold zs_tk; omega
          refine zp_load (pc := 180) hx hb (zd_X12_readLaw (180, .aload_n 0, 1, 0, []) (List.mem_of_getElem? (i := 105) rfl)) rfl (j := 3) rfl ?_
          refine zp_const (pc := 181) hx hb (zd_X12_readLaw (181, .iconst 1, 1, 0, []) (List.mem_of_getElem? (i := 106) rfl)) rfl rfl ?_
          have yf13 : Gn a 13 = (G a 13) := ((zp_nf hfrn hp rfl).trans ((zp_set_ne (Or.inl (zp_pne hp hq22 (by decide)))).trans ((zp_set_ne (Or.inl (zp_pne hp hq22 (by decide)))).trans ((zp_set_ne (Or.inl (zp_pne hp hq22 (by decide)))).trans ((zp_set_ne (Or.inr (by decide))).trans ((zp_set_ne (Or.inl (zp_pne hp hq22 (by decide))))))))))
          have yf14 : Gn a 14 = (Gn a 14) := rfl
          have yf15 : Gn a 15 = (Gn a 15) := rfl
          have yf16 : Gn a 16 = (Gn a 16) := rfl
          have yf19 : Gn a 19 = (G a 19) := ((zp_nf hfrn hp rfl).trans ((zp_set_ne (Or.inl (zp_pne hp hq22 (by decide)))).trans ((zp_set_ne (Or.inl (zp_pne hp hq22 (by decide)))).trans ((zp_set_ne (Or.inl (zp_pne hp hq22 (by decide)))).trans ((zp_set_ne (Or.inr (by decide))).trans ((zp_set_ne (Or.inl (zp_pne hp hq22 (by decide))))))))))
          have yf23 : Gn a 23 = (q0 : Int) := ((zp_nf hfrn hp rfl).trans ((zp_set_ne (Or.inl (zp_pne hp hq22 (by decide)))).trans ((zp_set_ne (Or.inl (zp_pne hp hq22 (by decide)))).trans ((zp_set_ne (Or.inl (zp_pne hp hq22 (by decide)))).trans ((zp_set_ne (Or.inr (by decide))).trans ((zp_set_ne (Or.inl (zp_pne hp hq22 (by decide)))).trans (g23)))))))
          have ytk : zs_tk a Gn := nntk
          refine zp_call (pc := 182) (how := 0) (idx := 374) (mi := 218) (S := []) hx hb hE hw heff hrm (zX_ex hW) rfl (j := 20) rfl rfl (by decide +kernel) (zd_X12_readLaw (182, .invokevirtual 374, 3, 0, []) (List.mem_of_getElem? (i := 107) rfl)) [(a : Int), 1] rfl ⟨zp_o2 hp, zp_o0 (by decide) (by decide) (by decide) (by decide), trivial⟩ (Nat.le_of_ble_eq_true rfl) (show zs_tk a Gn ∧ Gn a 23 ≤ Gn a 14 from ⟨ytk, by omega⟩) (fun al hal rny Py Gy hexty hfry hoky hcsy hpsiy => ?_)
          obtain rfl := List.mem_singleton.mp hal
          obtain ⟨rfl, hxy⟩ := hpsiy
          have hxy : zx_tells a Gn Gy := hxy
          obtain ⟨y1, y2, y3, y4, y5, y6, y7⟩ := hxy
          have ya24 : Gy a 24 = (b24 : Int) := ((zp_nf hfry hp rfl).trans ((zp_nf hfrn hp rfl).trans ((zp_set_ne (Or.inl (zp_pne hp hq22 (by decide)))).trans ((zp_set_ne (Or.inl (zp_pne hp hq22 (by decide)))).trans ((zp_set_ne (Or.inl (zp_pne hp hq22 (by decide)))).trans ((zp_set_ne (Or.inr (by decide))).trans ((zp_set_ne (Or.inl (zp_pne hp hq22 (by decide)))).trans (g24))))))))
          have ya25 : Gy a 25 = (b25 : Int) := ((zp_nf hfry hp rfl).trans ((zp_nf hfrn hp rfl).trans ((zp_set_ne (Or.inl (zp_pne hp hq22 (by decide)))).trans ((zp_set_ne (Or.inl (zp_pne hp hq22 (by decide)))).trans ((zp_set_ne (Or.inl (zp_pne hp hq22 (by decide)))).trans ((zp_set_ne (Or.inr (by decide))).trans ((zp_set_ne (Or.inl (zp_pne hp hq22 (by decide)))).trans (g25))))))))
          obtain ⟨ny, yn⟩ := zp_nat (n := Gy a 23) (by omega)
          refine zp_kn (k := 13) (a := a) (G := Gy) hw (show zp_fd 92 13 = some (12, 0, 0, 0, 400) from rfl) rfl hp (fun hk13y => ?_)
          have hx13y := zp_int hk13y
          have ytk2 := y1
          obtain ⟨yu1, yu2, yu3, -, -, -⟩ := ytk2
          have yb24 : ∀ q : Nat, (q : Int) < (q0 : Int) → Gy b24 (2000 + q) = (zp_n u.2.1 b24 (2000 + q)) := fun q hq => by
            have h := (y6 q (by omega)).1
            rw [zv_eq ya24, zv_eq (show Gn a 24 = (b24 : Int) from ((zp_nf hfrn hp rfl).trans ((zp_set_ne (Or.inl (zp_pne hp hq22 (by decide)))).trans ((zp_set_ne (Or.inl (zp_pne hp hq22 (by decide)))).trans ((zp_set_ne (Or.inl (zp_pne hp hq22 (by decide)))).trans ((zp_set_ne (Or.inr (by decide))).trans ((zp_set_ne (Or.inl (zp_pne hp hq22 (by decide)))).trans (g24))))))))] at h
            exact h.trans ((zp_nc hfrn hq24 rfl (2000 + q)).trans ((zp_set_ne (Or.inl (zp_pne hq24 hq22 (by decide)))).trans ((zp_set_ne (Or.inl (zp_pne hq24 hq22 (by decide)))).trans ((zp_set_ne (Or.inl (zp_pne hq24 hq22 (by decide)))).trans ((zp_set_ne (Or.inl (zp_pne hq24 hp (by decide)))).trans ((zp_set_ne (Or.inl (zp_pne hq24 hq22 (by decide)))).trans ((z24 q))))))))
          have yb25 : ∀ q : Nat, (q : Int) < (q0 : Int) → Gy b25 (2000 + q) = (zp_n u.2.1 b25 (2000 + q)) := fun q hq => by
            have h := (y6 q (by omega)).2
            rw [zv_eq ya25, zv_eq (show Gn a 25 = (b25 : Int) from ((zp_nf hfrn hp rfl).trans ((zp_set_ne (Or.inl (zp_pne hp hq22 (by decide)))).trans ((zp_set_ne (Or.inl (zp_pne hp hq22 (by decide)))).trans ((zp_set_ne (Or.inl (zp_pne hp hq22 (by decide)))).trans ((zp_set_ne (Or.inr (by decide))).trans ((zp_set_ne (Or.inl (zp_pne hp hq22 (by decide)))).trans (g25))))))))] at h
            exact h.trans ((zp_nc hfrn hq25 rfl (2000 + q)).trans ((zp_set_ne (Or.inl (zp_pne hq25 hq22 (by decide)))).trans ((zp_set_ne (Or.inl (zp_pne hq25 hq22 (by decide)))).trans ((zp_set_ne (Or.inl (zp_pne hq25 hq22 (by decide)))).trans ((zp_set_ne (Or.inl (zp_pne hq25 hp (by decide)))).trans ((zp_set_ne (Or.inl (zp_pne hq25 hq22 (by decide)))).trans ((z25 q))))))))
          refine zp_load (pc := 185) hx hb (zd_X12_readLaw (185, .aload_n 0, 1, 0, []) (List.mem_of_getElem? (i := 108) rfl)) rfl (j := 3) rfl ?_
          refine zp_getf (n := (b22 : Int)) (pc := 186) hx hb hE hw (zd_X12_readLaw (186, .getfield 42, 3, 0, []) (List.mem_of_getElem? (i := 109) rfl)) (j := 40) rfl rfl rfl hp ((zp_nf hfry hp rfl).trans ((zp_nf hfrn hp rfl).trans ((zp_set_ne (Or.inl (zp_pne hp hq22 (by decide)))).trans ((zp_set_ne (Or.inl (zp_pne hp hq22 (by decide)))).trans ((zp_set_ne (Or.inl (zp_pne hp hq22 (by decide)))).trans ((zp_set_ne (Or.inr (by decide))).trans ((zp_set_ne (Or.inl (zp_pne hp hq22 (by decide)))).trans (g22)))))))) ?_
          refine zp_load (pc := 189) hx hb (zd_X12_readLaw (189, .iload_n 2, 1, 0, []) (List.mem_of_getElem? (i := 110) rfl)) rfl (j := 1) rfl ?_
          refine zp_const (pc := 190) hx hb (zd_X12_readLaw (190, .bipush 6, 2, 0, []) (List.mem_of_getElem? (i := 111) rfl)) rfl rfl ?_
          refine zp_add (n := (8 * (n0 : Int) + 6)) (pc := 192) hx hb (zd_X12_readLaw (192, .iadd, 1, 0, []) (List.mem_of_getElem? (i := 112) rfl)) (by omega) (zp_r0 (by omega) (by omega)) ?_
          refine zp_load (pc := 193) hx hb (zd_X12_readLaw (193, .aload_n 0, 1, 0, []) (List.mem_of_getElem? (i := 113) rfl)) rfl (j := 3) rfl ?_
          refine zp_getf (n := (ny : Int)) (pc := 194) hx hb hE hw (zd_X12_readLaw (194, .getfield 279, 3, 0, []) (List.mem_of_getElem? (i := 114) rfl)) (j := 41) rfl rfl rfl hp yn ?_
          refine zp_iast (j := (8 * n0 + 6)) (pc := 197) hx hb hw heff (zd_X12_readLaw (197, .iastore, 1, 0, []) (List.mem_of_getElem? (i := 115) rfl)) (show zp_ia 1 67 = some (96, 0, 0, (-2147483648), 2147483647) from rfl) hq22 (by omega) (by omega) (zp_o0 (by omega) (by omega) (by omega) (by omega)) rfl ?_
          have x13 : (zp_set Gy b22 (2000 + (8 * n0 + 6)) (ny : Int)) a 13 = (G a 13) := ((zp_set_ne (Or.inl (zp_pne hp hq22 (by decide)))).trans (((zp_nf hfry hp rfl).trans ((zp_nf hfrn hp rfl).trans ((zp_set_ne (Or.inl (zp_pne hp hq22 (by decide)))).trans ((zp_set_ne (Or.inl (zp_pne hp hq22 (by decide)))).trans ((zp_set_ne (Or.inl (zp_pne hp hq22 (by decide)))).trans ((zp_set_ne (Or.inr (by decide))).trans ((zp_set_ne (Or.inl (zp_pne hp hq22 (by decide)))))))))))))
          have x14 : (zp_set Gy b22 (2000 + (8 * n0 + 6)) (ny : Int)) a 14 = (Gy a 14) := ((zp_set_ne (Or.inl (zp_pne hp hq22 (by decide)))))
          have x15 : (zp_set Gy b22 (2000 + (8 * n0 + 6)) (ny : Int)) a 15 = (Gy a 15) := ((zp_set_ne (Or.inl (zp_pne hp hq22 (by decide)))))
          have x16 : (zp_set Gy b22 (2000 + (8 * n0 + 6)) (ny : Int)) a 16 = (Gy a 16) := ((zp_set_ne (Or.inl (zp_pne hp hq22 (by decide)))))
          have x19 : (zp_set Gy b22 (2000 + (8 * n0 + 6)) (ny : Int)) a 19 = (Gy a 19) := ((zp_set_ne (Or.inl (zp_pne hp hq22 (by decide)))))
          have x21 : (zp_set Gy b22 (2000 + (8 * n0 + 6)) (ny : Int)) a 21 = ((n0 : Int) + 1) := ((zp_set_ne (Or.inl (zp_pne hp hq22 (by decide)))).trans (((zp_nf hfry hp rfl).trans ((zp_nf hfrn hp rfl).trans ((zp_set_ne (Or.inl (zp_pne hp hq22 (by decide)))).trans ((zp_set_ne (Or.inl (zp_pne hp hq22 (by decide)))).trans ((zp_set_ne (Or.inl (zp_pne hp hq22 (by decide)))).trans (zp_set_self))))))))
          have x23 : (zp_set Gy b22 (2000 + (8 * n0 + 6)) (ny : Int)) a 23 = (ny : Int) := ((zp_set_ne (Or.inl (zp_pne hp hq22 (by decide)))).trans (yn))
          have x22 : (zp_set Gy b22 (2000 + (8 * n0 + 6)) (ny : Int)) a 22 = (b22 : Int) := ((zp_set_ne (Or.inl (zp_pne hp hq22 (by decide)))).trans (((zp_nf hfry hp rfl).trans ((zp_nf hfrn hp rfl).trans ((zp_set_ne (Or.inl (zp_pne hp hq22 (by decide)))).trans ((zp_set_ne (Or.inl (zp_pne hp hq22 (by decide)))).trans ((zp_set_ne (Or.inl (zp_pne hp hq22 (by decide)))).trans ((zp_set_ne (Or.inr (by decide))).trans ((zp_set_ne (Or.inl (zp_pne hp hq22 (by decide)))).trans (g22))))))))))
          have x24 : (zp_set Gy b22 (2000 + (8 * n0 + 6)) (ny : Int)) a 24 = (b24 : Int) := ((zp_set_ne (Or.inl (zp_pne hp hq22 (by decide)))).trans (ya24))
          have x25 : (zp_set Gy b22 (2000 + (8 * n0 + 6)) (ny : Int)) a 25 = (b25 : Int) := ((zp_set_ne (Or.inl (zp_pne hp hq22 (by decide)))).trans (ya25))
          have xtk : zs_tk a (zp_set Gy b22 (2000 + (8 * n0 + 6)) (ny : Int)) := zs_tk_congr y1 ((zp_set_ne (Or.inl (zp_pne hp hq22 (by decide))))) ((zp_set_ne (Or.inl (zp_pne hp hq22 (by decide))))) ((zp_set_ne (Or.inl (zp_pne hp hq22 (by decide))))) ((zp_set_ne (Or.inl (zp_pne hp hq22 (by decide)))))
          have y24 : ∀ q : Nat, (q : Int) < (q0 : Int) → zv (zp_set Gy b22 (2000 + (8 * n0 + 6)) (ny : Int)) a 24 q = zv (zp_n u.2.1) a 24 q := fun q hq => by
            rw [zv_eq x24, zv_eq hb24]
            exact ((zp_set_ne (Or.inl (zp_pne hq24 hq22 (by decide)))).trans ((yb24 q (by omega))))
          have y25 : ∀ q : Nat, (q : Int) < (q0 : Int) → zv (zp_set Gy b22 (2000 + (8 * n0 + 6)) (ny : Int)) a 25 q = zv (zp_n u.2.1) a 25 q := fun q hq => by
            rw [zv_eq x25, zv_eq hb25]
            exact ((zp_set_ne (Or.inl (zp_pne hq25 hq22 (by decide)))).trans ((yb25 q (by omega))))
          have y22 : ∀ j : Nat, j < 8 * n0 → zv (zp_set Gy b22 (2000 + (8 * n0 + 6)) (ny : Int)) a 22 j = zv (zp_n u.2.1) a 22 j := fun j hj => by
            rw [zv_eq x22, zv_eq hb22]
            exact ((zp_set_ne (Or.inr (by omega))).trans (((zp_nc hfry hq22 rfl (2000 + j)).trans ((zp_nc hfrn hq22 rfl (2000 + j)).trans ((zp_set_ne (Or.inr (by omega))).trans ((zp_set_ne (Or.inr (by omega))).trans ((zp_set_ne (Or.inr (by omega))).trans ((zp_set_ne (Or.inl (zp_pne hq22 hp (by decide)))).trans ((zp_set_ne (Or.inr (by omega))).trans ((z22 j hj)))))))))))
          have c0 : zv (zp_set Gy b22 (2000 + (8 * n0 + 6)) (ny : Int)) a 22 (8 * n0) = its := by rw [zv_eq x22]; exact ((zp_set_ne (Or.inr (by omega))).trans (((zp_nc hfry hq22 rfl (2000 + (8 * n0))).trans ((zp_nc hfrn hq22 rfl (2000 + (8 * n0))).trans ((zp_set_ne (Or.inr (by omega))).trans ((zp_set_ne (Or.inr (by omega))).trans ((zp_set_ne (Or.inr (by omega))).trans ((zp_set_ne (Or.inl (zp_pne hq22 hp (by decide)))).trans (zp_set_self)))))))))
          have c3 : zv (zp_set Gy b22 (2000 + (8 * n0 + 6)) (ny : Int)) a 22 (8 * n0 + 3) = (q0 : Int) := by rw [zv_eq x22]; exact ((zp_set_ne (Or.inr (by omega))).trans (((zp_nc hfry hq22 rfl (2000 + (8 * n0 + 3))).trans ((zp_nc hfrn hq22 rfl (2000 + (8 * n0 + 3))).trans ((zp_set_ne (Or.inr (by omega))).trans ((zp_set_ne (Or.inr (by omega))).trans (zp_set_self)))))))
          have c4 : zv (zp_set Gy b22 (2000 + (8 * n0 + 6)) (ny : Int)) a 22 (8 * n0 + 4) = (q0 : Int) := by rw [zv_eq x22]; exact ((zp_set_ne (Or.inr (by omega))).trans (((zp_nc hfry hq22 rfl (2000 + (8 * n0 + 4))).trans ((zp_nc hfrn hq22 rfl (2000 + (8 * n0 + 4))).trans ((zp_set_ne (Or.inr (by omega))).trans (zp_set_self))))))
          have c5 : zv (zp_set Gy b22 (2000 + (8 * n0 + 6)) (ny : Int)) a 22 (8 * n0 + 5) = (q0 : Int) := by rw [zv_eq x22]; exact ((zp_set_ne (Or.inr (by omega))).trans (((zp_nc hfry hq22 rfl (2000 + (8 * n0 + 5))).trans ((zp_nc hfrn hq22 rfl (2000 + (8 * n0 + 5))).trans zp_set_self))))
          have c6 : zv (zp_set Gy b22 (2000 + (8 * n0 + 6)) (ny : Int)) a 22 (8 * n0 + 6) = (ny : Int) := by rw [zv_eq x22]; exact zp_set_self
          refine zp_vret (pc := 198) hx hb hE hQ hU5 rfl (by decide) (zd_X12_readLaw (198, .return_, 1, 0, []) (List.mem_of_getElem? (i := 116) rfl)) (j := 0) rfl ?_
          rw [hps]
          refine ⟨rfl, ?_⟩
          show zl_in a (zp_set Gy b22 (2000 + (8 * n0 + 6)) (ny : Int)) ∧ zp_n u.2.1 a 14 ≤ (zp_set Gy b22 (2000 + (8 * n0 + 6)) (ny : Int)) a 14 ∧ ((zp_set Gy b22 (2000 + (8 * n0 + 6)) (ny : Int)) a 19 = 0 → zp_n u.2.1 a 19 = 0)
          refine ⟨⟨xtk, by omega, by omega, by omega, by omega, fun z c hc => ?_⟩, by omega, fun z => ?_⟩
          · by_cases hcn : n0 = c
            · subst hcn
              refine ⟨fun j j1 j2 => ?_, fun z2 => ?_, fun z2 => ?_⟩
              · have hj : j = 3 ∨ j = 4 ∨ j = 5 ∨ j = 6 := by omega
                rcases hj with rfl | rfl | rfl | rfl
                · rw [c3, x23]; omega
                · rw [c4, x23]; omega
                · rw [c5, x23]; omega
                · rw [c6, x23]; omega
              · rw [c5, c6] at z2 ⊢
                have hcr := y7 (by omega)
                rw [yf23, yn] at hcr
                refine zh_crc hcr (fun q h1 h2 => ?_)
                have h3 : (q : Int) < (ny : Int) := by have := Int.toNat_natCast ny; omega
                have r24 : zv Gy a 24 q = zv (zp_set Gy b22 (2000 + (8 * n0 + 6)) (ny : Int)) a 24 q := by
                  rw [zv_eq ya24, zv_eq x24]
                  exact (((zp_set_ne (Or.inl (zp_pne hq24 hq22 (by decide)))))).symm
                have r25 : zv Gy a 25 q = zv (zp_set Gy b22 (2000 + (8 * n0 + 6)) (ny : Int)) a 25 q := by
                  rw [zv_eq ya25, zv_eq x25]
                  exact (((zp_set_ne (Or.inl (zp_pne hq25 hq22 (by decide)))))).symm
                exact ⟨r24, r25⟩
              · rw [c0] at z2
                rw [c3, c4]
                exact absurd (by omega) z2
            · have hc2 : (c : Int) < zp_n u.2.1 a 21 := by omega
              refine zl_keep (hok0 (by omega) c hc2) (fun j hj => y22 _ (by omega)) (by omega) (fun q hq => ⟨y24 q (by omega), y25 q (by omega)⟩)
          · omega
    · refine zp_load (pc := 130) hx hb (zd_X12_readLaw (130, .aload_n 0, 1, 0, []) (List.mem_of_getElem? (i := 77) rfl)) rfl (j := 3) rfl ?_
      refine zp_const (pc := 131) hx hb (zd_X12_readLaw (131, .iconst 0, 1, 0, []) (List.mem_of_getElem? (i := 78) rfl)) rfl rfl ?_
      have ef13 : (zp_set (zp_set (zp_set G b22 (2000 + (8 * n0)) its) a 21 ((n0 : Int) + 1)) b22 (2000 + (8 * n0 + 3)) (q0 : Int)) a 13 = (G a 13) := ((zp_set_ne (Or.inl (zp_pne hp hq22 (by decide)))).trans ((zp_set_ne (Or.inr (by decide))).trans ((zp_set_ne (Or.inl (zp_pne hp hq22 (by decide)))))))
      have ef14 : (zp_set (zp_set (zp_set G b22 (2000 + (8 * n0)) its) a 21 ((n0 : Int) + 1)) b22 (2000 + (8 * n0 + 3)) (q0 : Int)) a 14 = (G a 14) := ((zp_set_ne (Or.inl (zp_pne hp hq22 (by decide)))).trans ((zp_set_ne (Or.inr (by decide))).trans ((zp_set_ne (Or.inl (zp_pne hp hq22 (by decide)))))))
      have ef15 : (zp_set (zp_set (zp_set G b22 (2000 + (8 * n0)) its) a 21 ((n0 : Int) + 1)) b22 (2000 + (8 * n0 + 3)) (q0 : Int)) a 15 = (G a 15) := ((zp_set_ne (Or.inl (zp_pne hp hq22 (by decide)))).trans ((zp_set_ne (Or.inr (by decide))).trans ((zp_set_ne (Or.inl (zp_pne hp hq22 (by decide)))))))
      have ef16 : (zp_set (zp_set (zp_set G b22 (2000 + (8 * n0)) its) a 21 ((n0 : Int) + 1)) b22 (2000 + (8 * n0 + 3)) (q0 : Int)) a 16 = (G a 16) := ((zp_set_ne (Or.inl (zp_pne hp hq22 (by decide)))).trans ((zp_set_ne (Or.inr (by decide))).trans ((zp_set_ne (Or.inl (zp_pne hp hq22 (by decide)))))))
      have ef19 : (zp_set (zp_set (zp_set G b22 (2000 + (8 * n0)) its) a 21 ((n0 : Int) + 1)) b22 (2000 + (8 * n0 + 3)) (q0 : Int)) a 19 = (G a 19) := ((zp_set_ne (Or.inl (zp_pne hp hq22 (by decide)))).trans ((zp_set_ne (Or.inr (by decide))).trans ((zp_set_ne (Or.inl (zp_pne hp hq22 (by decide)))))))
      have ef23 : (zp_set (zp_set (zp_set G b22 (2000 + (8 * n0)) its) a 21 ((n0 : Int) + 1)) b22 (2000 + (8 * n0 + 3)) (q0 : Int)) a 23 = (q0 : Int) := ((zp_set_ne (Or.inl (zp_pne hp hq22 (by decide)))).trans ((zp_set_ne (Or.inr (by decide))).trans ((zp_set_ne (Or.inl (zp_pne hp hq22 (by decide)))).trans (g23))))
      have etk : zs_tk a (zp_set (zp_set (zp_set G b22 (2000 + (8 * n0)) its) a 21 ((n0 : Int) + 1)) b22 (2000 + (8 * n0 + 3)) (q0 : Int)) := zs_tk_congr gtk ((zp_set_ne (Or.inl (zp_pne hp hq22 (by decide)))).trans ((zp_set_ne (Or.inr (by decide))).trans ((zp_set_ne (Or.inl (zp_pne hp hq22 (by decide))))))) ((zp_set_ne (Or.inl (zp_pne hp hq22 (by decide)))).trans ((zp_set_ne (Or.inr (by decide))).trans ((zp_set_ne (Or.inl (zp_pne hp hq22 (by decide))))))) ((zp_set_ne (Or.inl (zp_pne hp hq22 (by decide)))).trans ((zp_set_ne (Or.inr (by decide))).trans ((zp_set_ne (Or.inl (zp_pne hp hq22 (by decide))))))) ((zp_set_ne (Or.inl (zp_pne hp hq22 (by decide)))).trans ((zp_set_ne (Or.inr (by decide))).trans ((zp_set_ne (Or.inl (zp_pne hp hq22 (by decide)))))))
      refine zp_call (pc := 132) (how := 0) (idx := 374) (mi := 218) (S := []) hx hb hE hw heff hrm (zX_ex hW) rfl (j := 20) rfl rfl (by decide +kernel) (zd_X12_readLaw (132, .invokevirtual 374, 3, 0, []) (List.mem_of_getElem? (i := 79) rfl)) [(a : Int), 0] rfl ⟨zp_o2 hp, zp_o0 (by decide) (by decide) (by decide) (by decide), trivial⟩ (Nat.le_of_ble_eq_true rfl) (show zs_tk a (zp_set (zp_set (zp_set G b22 (2000 + (8 * n0)) its) a 21 ((n0 : Int) + 1)) b22 (2000 + (8 * n0 + 3)) (q0 : Int)) ∧ (zp_set (zp_set (zp_set G b22 (2000 + (8 * n0)) its) a 21 ((n0 : Int) + 1)) b22 (2000 + (8 * n0 + 3)) (q0 : Int)) a 23 ≤ (zp_set (zp_set (zp_set G b22 (2000 + (8 * n0)) its) a 21 ((n0 : Int) + 1)) b22 (2000 + (8 * n0 + 3)) (q0 : Int)) a 14 from ⟨etk, by omega⟩) (fun al hal rne Pe Ge hexte hfre hoke hcse hpsie => ?_)
      obtain rfl := List.mem_singleton.mp hal
      obtain ⟨rfl, hxe⟩ := hpsie
      have hxe : zx_tells a (zp_set (zp_set (zp_set G b22 (2000 + (8 * n0)) its) a 21 ((n0 : Int) + 1)) b22 (2000 + (8 * n0 + 3)) (q0 : Int)) Ge := hxe
      obtain ⟨e1, e2, e3, e4, e5, e6, e7⟩ := hxe
      have ea24 : Ge a 24 = (b24 : Int) := ((zp_nf hfre hp rfl).trans ((zp_set_ne (Or.inl (zp_pne hp hq22 (by decide)))).trans ((zp_set_ne (Or.inr (by decide))).trans ((zp_set_ne (Or.inl (zp_pne hp hq22 (by decide)))).trans (g24)))))
      have ea25 : Ge a 25 = (b25 : Int) := ((zp_nf hfre hp rfl).trans ((zp_set_ne (Or.inl (zp_pne hp hq22 (by decide)))).trans ((zp_set_ne (Or.inr (by decide))).trans ((zp_set_ne (Or.inl (zp_pne hp hq22 (by decide)))).trans (g25)))))
      obtain ⟨ne, en⟩ := zp_nat (n := Ge a 23) (by omega)
      refine zp_kn (k := 13) (a := a) (G := Ge) hw (show zp_fd 92 13 = some (12, 0, 0, 0, 400) from rfl) rfl hp (fun hk13e => ?_)
      have hx13e := zp_int hk13e
      have etk2 := e1
      obtain ⟨eu1, eu2, eu3, -, -, -⟩ := etk2
      have eb24 : ∀ q : Nat, (q : Int) < (q0 : Int) → Ge b24 (2000 + q) = (zp_n u.2.1 b24 (2000 + q)) := fun q hq => by
        have h := (e6 q (by omega)).1
        rw [zv_eq ea24, zv_eq (show (zp_set (zp_set (zp_set G b22 (2000 + (8 * n0)) its) a 21 ((n0 : Int) + 1)) b22 (2000 + (8 * n0 + 3)) (q0 : Int)) a 24 = (b24 : Int) from ((zp_set_ne (Or.inl (zp_pne hp hq22 (by decide)))).trans ((zp_set_ne (Or.inr (by decide))).trans ((zp_set_ne (Or.inl (zp_pne hp hq22 (by decide)))).trans (g24)))))] at h
        exact h.trans ((zp_set_ne (Or.inl (zp_pne hq24 hq22 (by decide)))).trans ((zp_set_ne (Or.inl (zp_pne hq24 hp (by decide)))).trans ((zp_set_ne (Or.inl (zp_pne hq24 hq22 (by decide)))).trans ((z24 q)))))
      have eb25 : ∀ q : Nat, (q : Int) < (q0 : Int) → Ge b25 (2000 + q) = (zp_n u.2.1 b25 (2000 + q)) := fun q hq => by
        have h := (e6 q (by omega)).2
        rw [zv_eq ea25, zv_eq (show (zp_set (zp_set (zp_set G b22 (2000 + (8 * n0)) its) a 21 ((n0 : Int) + 1)) b22 (2000 + (8 * n0 + 3)) (q0 : Int)) a 25 = (b25 : Int) from ((zp_set_ne (Or.inl (zp_pne hp hq22 (by decide)))).trans ((zp_set_ne (Or.inr (by decide))).trans ((zp_set_ne (Or.inl (zp_pne hp hq22 (by decide)))).trans (g25)))))] at h
        exact h.trans ((zp_set_ne (Or.inl (zp_pne hq25 hq22 (by decide)))).trans ((zp_set_ne (Or.inl (zp_pne hq25 hp (by decide)))).trans ((zp_set_ne (Or.inl (zp_pne hq25 hq22 (by decide)))).trans ((z25 q)))))
      refine zp_load (pc := 135) hx hb (zd_X12_readLaw (135, .aload_n 0, 1, 0, []) (List.mem_of_getElem? (i := 80) rfl)) rfl (j := 3) rfl ?_
      refine zp_getf (n := (b22 : Int)) (pc := 136) hx hb hE hw (zd_X12_readLaw (136, .getfield 42, 3, 0, []) (List.mem_of_getElem? (i := 81) rfl)) (j := 40) rfl rfl rfl hp ((zp_nf hfre hp rfl).trans ((zp_set_ne (Or.inl (zp_pne hp hq22 (by decide)))).trans ((zp_set_ne (Or.inr (by decide))).trans ((zp_set_ne (Or.inl (zp_pne hp hq22 (by decide)))).trans (g22))))) ?_
      refine zp_load (pc := 139) hx hb (zd_X12_readLaw (139, .iload_n 2, 1, 0, []) (List.mem_of_getElem? (i := 82) rfl)) rfl (j := 1) rfl ?_
      refine zp_const (pc := 140) hx hb (zd_X12_readLaw (140, .iconst 4, 1, 0, []) (List.mem_of_getElem? (i := 83) rfl)) rfl rfl ?_
      refine zp_add (n := (8 * (n0 : Int) + 4)) (pc := 141) hx hb (zd_X12_readLaw (141, .iadd, 1, 0, []) (List.mem_of_getElem? (i := 84) rfl)) (by omega) (zp_r0 (by omega) (by omega)) ?_
      refine zp_load (pc := 142) hx hb (zd_X12_readLaw (142, .aload_n 0, 1, 0, []) (List.mem_of_getElem? (i := 85) rfl)) rfl (j := 3) rfl ?_
      refine zp_getf (n := (ne : Int)) (pc := 143) hx hb hE hw (zd_X12_readLaw (143, .getfield 279, 3, 0, []) (List.mem_of_getElem? (i := 86) rfl)) (j := 41) rfl rfl rfl hp en ?_
      refine zp_iast (j := (8 * n0 + 4)) (pc := 146) hx hb hw heff (zd_X12_readLaw (146, .iastore, 1, 0, []) (List.mem_of_getElem? (i := 87) rfl)) (show zp_ia 1 67 = some (96, 0, 0, (-2147483648), 2147483647) from rfl) hq22 (by omega) (by omega) (zp_o0 (by omega) (by omega) (by omega) (by omega)) rfl ?_
      refine zp_load (pc := 147) hx hb (zd_X12_readLaw (147, .aload_n 0, 1, 0, []) (List.mem_of_getElem? (i := 88) rfl)) rfl (j := 3) rfl ?_
      refine zp_getf (n := (b22 : Int)) (pc := 148) hx hb hE hw (zd_X12_readLaw (148, .getfield 42, 3, 0, []) (List.mem_of_getElem? (i := 89) rfl)) (j := 40) rfl rfl rfl hp ((zp_set_ne (Or.inl (zp_pne hp hq22 (by decide)))).trans (((zp_nf hfre hp rfl).trans ((zp_set_ne (Or.inl (zp_pne hp hq22 (by decide)))).trans ((zp_set_ne (Or.inr (by decide))).trans ((zp_set_ne (Or.inl (zp_pne hp hq22 (by decide)))).trans (g22))))))) ?_
      refine zp_load (pc := 151) hx hb (zd_X12_readLaw (151, .iload_n 2, 1, 0, []) (List.mem_of_getElem? (i := 90) rfl)) rfl (j := 1) rfl ?_
      refine zp_const (pc := 152) hx hb (zd_X12_readLaw (152, .iconst 5, 1, 0, []) (List.mem_of_getElem? (i := 91) rfl)) rfl rfl ?_
      refine zp_add (n := (8 * (n0 : Int) + 5)) (pc := 153) hx hb (zd_X12_readLaw (153, .iadd, 1, 0, []) (List.mem_of_getElem? (i := 92) rfl)) (by omega) (zp_r0 (by omega) (by omega)) ?_
      refine zp_load (pc := 154) hx hb (zd_X12_readLaw (154, .aload_n 0, 1, 0, []) (List.mem_of_getElem? (i := 93) rfl)) rfl (j := 3) rfl ?_
      refine zp_getf (n := (ne : Int)) (pc := 155) hx hb hE hw (zd_X12_readLaw (155, .getfield 279, 3, 0, []) (List.mem_of_getElem? (i := 94) rfl)) (j := 41) rfl rfl rfl hp ((zp_set_ne (Or.inl (zp_pne hp hq22 (by decide)))).trans (en)) ?_
      refine zp_iast (j := (8 * n0 + 5)) (pc := 158) hx hb hw heff (zd_X12_readLaw (158, .iastore, 1, 0, []) (List.mem_of_getElem? (i := 95) rfl)) (show zp_ia 1 67 = some (96, 0, 0, (-2147483648), 2147483647) from rfl) hq22 (by omega) (by omega) (zp_o0 (by omega) (by omega) (by omega) (by omega)) rfl ?_
      refine zp_load (pc := 159) hx hb (zd_X12_readLaw (159, .aload_n 0, 1, 0, []) (List.mem_of_getElem? (i := 96) rfl)) rfl (j := 3) rfl ?_
      refine zp_getf (n := (Ge a 19)) (pc := 160) hx hb hE hw (zd_X12_readLaw (160, .getfield 240, 3, 0, []) (List.mem_of_getElem? (i := 97) rfl)) (j := 37) rfl rfl rfl hp ((zp_set_ne (Or.inl (zp_pne hp hq22 (by decide)))).trans ((zp_set_ne (Or.inl (zp_pne hp hq22 (by decide)))))) ?_
      refine zp_if (pc := 163) (tgt := 185) hx hb (zd_X12_readLaw (163, .ifCond .ne 22, 3, 0, []) (List.mem_of_getElem? (i := 98) rfl)) rfl (fun (hc161 : ¬ (Ge a 19) = 0) => ?_) (fun (hc161 : ¬ (¬ (Ge a 19) = 0)) => ?_)
      · refine zp_load (pc := 185) hx hb (zd_X12_readLaw (185, .aload_n 0, 1, 0, []) (List.mem_of_getElem? (i := 108) rfl)) rfl (j := 3) rfl ?_
        refine zp_getf (n := (b22 : Int)) (pc := 186) hx hb hE hw (zd_X12_readLaw (186, .getfield 42, 3, 0, []) (List.mem_of_getElem? (i := 109) rfl)) (j := 40) rfl rfl rfl hp ((zp_set_ne (Or.inl (zp_pne hp hq22 (by decide)))).trans ((zp_set_ne (Or.inl (zp_pne hp hq22 (by decide)))).trans (((zp_nf hfre hp rfl).trans ((zp_set_ne (Or.inl (zp_pne hp hq22 (by decide)))).trans ((zp_set_ne (Or.inr (by decide))).trans ((zp_set_ne (Or.inl (zp_pne hp hq22 (by decide)))).trans (g22)))))))) ?_
        refine zp_load (pc := 189) hx hb (zd_X12_readLaw (189, .iload_n 2, 1, 0, []) (List.mem_of_getElem? (i := 110) rfl)) rfl (j := 1) rfl ?_
        refine zp_const (pc := 190) hx hb (zd_X12_readLaw (190, .bipush 6, 2, 0, []) (List.mem_of_getElem? (i := 111) rfl)) rfl rfl ?_
        refine zp_add (n := (8 * (n0 : Int) + 6)) (pc := 192) hx hb (zd_X12_readLaw (192, .iadd, 1, 0, []) (List.mem_of_getElem? (i := 112) rfl)) (by omega) (zp_r0 (by omega) (by omega)) ?_
        refine zp_load (pc := 193) hx hb (zd_X12_readLaw (193, .aload_n 0, 1, 0, []) (List.mem_of_getElem? (i := 113) rfl)) rfl (j := 3) rfl ?_
        refine zp_getf (n := (ne : Int)) (pc := 194) hx hb hE hw (zd_X12_readLaw (194, .getfield 279, 3, 0, []) (List.mem_of_getElem? (i := 114) rfl)) (j := 41) rfl rfl rfl hp ((zp_set_ne (Or.inl (zp_pne hp hq22 (by decide)))).trans ((zp_set_ne (Or.inl (zp_pne hp hq22 (by decide)))).trans (en))) ?_
        refine zp_iast (j := (8 * n0 + 6)) (pc := 197) hx hb hw heff (zd_X12_readLaw (197, .iastore, 1, 0, []) (List.mem_of_getElem? (i := 115) rfl)) (show zp_ia 1 67 = some (96, 0, 0, (-2147483648), 2147483647) from rfl) hq22 (by omega) (by omega) (zp_o0 (by omega) (by omega) (by omega) (by omega)) rfl ?_
        have x13 : (zp_set (zp_set (zp_set Ge b22 (2000 + (8 * n0 + 4)) (ne : Int)) b22 (2000 + (8 * n0 + 5)) (ne : Int)) b22 (2000 + (8 * n0 + 6)) (ne : Int)) a 13 = (G a 13) := ((zp_set_ne (Or.inl (zp_pne hp hq22 (by decide)))).trans ((zp_set_ne (Or.inl (zp_pne hp hq22 (by decide)))).trans ((zp_set_ne (Or.inl (zp_pne hp hq22 (by decide)))).trans (((zp_nf hfre hp rfl).trans ((zp_set_ne (Or.inl (zp_pne hp hq22 (by decide)))).trans ((zp_set_ne (Or.inr (by decide))).trans ((zp_set_ne (Or.inl (zp_pne hp hq22 (by decide))))))))))))
        have x14 : (zp_set (zp_set (zp_set Ge b22 (2000 + (8 * n0 + 4)) (ne : Int)) b22 (2000 + (8 * n0 + 5)) (ne : Int)) b22 (2000 + (8 * n0 + 6)) (ne : Int)) a 14 = (Ge a 14) := ((zp_set_ne (Or.inl (zp_pne hp hq22 (by decide)))).trans ((zp_set_ne (Or.inl (zp_pne hp hq22 (by decide)))).trans ((zp_set_ne (Or.inl (zp_pne hp hq22 (by decide)))))))
        have x15 : (zp_set (zp_set (zp_set Ge b22 (2000 + (8 * n0 + 4)) (ne : Int)) b22 (2000 + (8 * n0 + 5)) (ne : Int)) b22 (2000 + (8 * n0 + 6)) (ne : Int)) a 15 = (Ge a 15) := ((zp_set_ne (Or.inl (zp_pne hp hq22 (by decide)))).trans ((zp_set_ne (Or.inl (zp_pne hp hq22 (by decide)))).trans ((zp_set_ne (Or.inl (zp_pne hp hq22 (by decide)))))))
        have x16 : (zp_set (zp_set (zp_set Ge b22 (2000 + (8 * n0 + 4)) (ne : Int)) b22 (2000 + (8 * n0 + 5)) (ne : Int)) b22 (2000 + (8 * n0 + 6)) (ne : Int)) a 16 = (Ge a 16) := ((zp_set_ne (Or.inl (zp_pne hp hq22 (by decide)))).trans ((zp_set_ne (Or.inl (zp_pne hp hq22 (by decide)))).trans ((zp_set_ne (Or.inl (zp_pne hp hq22 (by decide)))))))
        have x19 : (zp_set (zp_set (zp_set Ge b22 (2000 + (8 * n0 + 4)) (ne : Int)) b22 (2000 + (8 * n0 + 5)) (ne : Int)) b22 (2000 + (8 * n0 + 6)) (ne : Int)) a 19 = (Ge a 19) := ((zp_set_ne (Or.inl (zp_pne hp hq22 (by decide)))).trans ((zp_set_ne (Or.inl (zp_pne hp hq22 (by decide)))).trans ((zp_set_ne (Or.inl (zp_pne hp hq22 (by decide)))))))
        have x21 : (zp_set (zp_set (zp_set Ge b22 (2000 + (8 * n0 + 4)) (ne : Int)) b22 (2000 + (8 * n0 + 5)) (ne : Int)) b22 (2000 + (8 * n0 + 6)) (ne : Int)) a 21 = ((n0 : Int) + 1) := ((zp_set_ne (Or.inl (zp_pne hp hq22 (by decide)))).trans ((zp_set_ne (Or.inl (zp_pne hp hq22 (by decide)))).trans ((zp_set_ne (Or.inl (zp_pne hp hq22 (by decide)))).trans (((zp_nf hfre hp rfl).trans ((zp_set_ne (Or.inl (zp_pne hp hq22 (by decide)))).trans (zp_set_self)))))))
        have x23 : (zp_set (zp_set (zp_set Ge b22 (2000 + (8 * n0 + 4)) (ne : Int)) b22 (2000 + (8 * n0 + 5)) (ne : Int)) b22 (2000 + (8 * n0 + 6)) (ne : Int)) a 23 = (ne : Int) := ((zp_set_ne (Or.inl (zp_pne hp hq22 (by decide)))).trans ((zp_set_ne (Or.inl (zp_pne hp hq22 (by decide)))).trans ((zp_set_ne (Or.inl (zp_pne hp hq22 (by decide)))).trans (en))))
        have x22 : (zp_set (zp_set (zp_set Ge b22 (2000 + (8 * n0 + 4)) (ne : Int)) b22 (2000 + (8 * n0 + 5)) (ne : Int)) b22 (2000 + (8 * n0 + 6)) (ne : Int)) a 22 = (b22 : Int) := ((zp_set_ne (Or.inl (zp_pne hp hq22 (by decide)))).trans ((zp_set_ne (Or.inl (zp_pne hp hq22 (by decide)))).trans ((zp_set_ne (Or.inl (zp_pne hp hq22 (by decide)))).trans (((zp_nf hfre hp rfl).trans ((zp_set_ne (Or.inl (zp_pne hp hq22 (by decide)))).trans ((zp_set_ne (Or.inr (by decide))).trans ((zp_set_ne (Or.inl (zp_pne hp hq22 (by decide)))).trans (g22)))))))))
        have x24 : (zp_set (zp_set (zp_set Ge b22 (2000 + (8 * n0 + 4)) (ne : Int)) b22 (2000 + (8 * n0 + 5)) (ne : Int)) b22 (2000 + (8 * n0 + 6)) (ne : Int)) a 24 = (b24 : Int) := ((zp_set_ne (Or.inl (zp_pne hp hq22 (by decide)))).trans ((zp_set_ne (Or.inl (zp_pne hp hq22 (by decide)))).trans ((zp_set_ne (Or.inl (zp_pne hp hq22 (by decide)))).trans (ea24))))
        have x25 : (zp_set (zp_set (zp_set Ge b22 (2000 + (8 * n0 + 4)) (ne : Int)) b22 (2000 + (8 * n0 + 5)) (ne : Int)) b22 (2000 + (8 * n0 + 6)) (ne : Int)) a 25 = (b25 : Int) := ((zp_set_ne (Or.inl (zp_pne hp hq22 (by decide)))).trans ((zp_set_ne (Or.inl (zp_pne hp hq22 (by decide)))).trans ((zp_set_ne (Or.inl (zp_pne hp hq22 (by decide)))).trans (ea25))))
        have xtk : zs_tk a (zp_set (zp_set (zp_set Ge b22 (2000 + (8 * n0 + 4)) (ne : Int)) b22 (2000 + (8 * n0 + 5)) (ne : Int)) b22 (2000 + (8 * n0 + 6)) (ne : Int)) := zs_tk_congr e1 ((zp_set_ne (Or.inl (zp_pne hp hq22 (by decide)))).trans ((zp_set_ne (Or.inl (zp_pne hp hq22 (by decide)))).trans ((zp_set_ne (Or.inl (zp_pne hp hq22 (by decide))))))) ((zp_set_ne (Or.inl (zp_pne hp hq22 (by decide)))).trans ((zp_set_ne (Or.inl (zp_pne hp hq22 (by decide)))).trans ((zp_set_ne (Or.inl (zp_pne hp hq22 (by decide))))))) ((zp_set_ne (Or.inl (zp_pne hp hq22 (by decide)))).trans ((zp_set_ne (Or.inl (zp_pne hp hq22 (by decide)))).trans ((zp_set_ne (Or.inl (zp_pne hp hq22 (by decide))))))) ((zp_set_ne (Or.inl (zp_pne hp hq22 (by decide)))).trans ((zp_set_ne (Or.inl (zp_pne hp hq22 (by decide)))).trans ((zp_set_ne (Or.inl (zp_pne hp hq22 (by decide)))))))
        have y24 : ∀ q : Nat, (q : Int) < (q0 : Int) → zv (zp_set (zp_set (zp_set Ge b22 (2000 + (8 * n0 + 4)) (ne : Int)) b22 (2000 + (8 * n0 + 5)) (ne : Int)) b22 (2000 + (8 * n0 + 6)) (ne : Int)) a 24 q = zv (zp_n u.2.1) a 24 q := fun q hq => by
          rw [zv_eq x24, zv_eq hb24]
          exact ((zp_set_ne (Or.inl (zp_pne hq24 hq22 (by decide)))).trans ((zp_set_ne (Or.inl (zp_pne hq24 hq22 (by decide)))).trans ((zp_set_ne (Or.inl (zp_pne hq24 hq22 (by decide)))).trans ((eb24 q (by omega))))))
        have y25 : ∀ q : Nat, (q : Int) < (q0 : Int) → zv (zp_set (zp_set (zp_set Ge b22 (2000 + (8 * n0 + 4)) (ne : Int)) b22 (2000 + (8 * n0 + 5)) (ne : Int)) b22 (2000 + (8 * n0 + 6)) (ne : Int)) a 25 q = zv (zp_n u.2.1) a 25 q := fun q hq => by
          rw [zv_eq x25, zv_eq hb25]
          exact ((zp_set_ne (Or.inl (zp_pne hq25 hq22 (by decide)))).trans ((zp_set_ne (Or.inl (zp_pne hq25 hq22 (by decide)))).trans ((zp_set_ne (Or.inl (zp_pne hq25 hq22 (by decide)))).trans ((eb25 q (by omega))))))
        have y22 : ∀ j : Nat, j < 8 * n0 → zv (zp_set (zp_set (zp_set Ge b22 (2000 + (8 * n0 + 4)) (ne : Int)) b22 (2000 + (8 * n0 + 5)) (ne : Int)) b22 (2000 + (8 * n0 + 6)) (ne : Int)) a 22 j = zv (zp_n u.2.1) a 22 j := fun j hj => by
          rw [zv_eq x22, zv_eq hb22]
          exact ((zp_set_ne (Or.inr (by omega))).trans ((zp_set_ne (Or.inr (by omega))).trans ((zp_set_ne (Or.inr (by omega))).trans (((zp_nc hfre hq22 rfl (2000 + j)).trans ((zp_set_ne (Or.inr (by omega))).trans ((zp_set_ne (Or.inl (zp_pne hq22 hp (by decide)))).trans ((zp_set_ne (Or.inr (by omega))).trans ((z22 j hj))))))))))
        have c0 : zv (zp_set (zp_set (zp_set Ge b22 (2000 + (8 * n0 + 4)) (ne : Int)) b22 (2000 + (8 * n0 + 5)) (ne : Int)) b22 (2000 + (8 * n0 + 6)) (ne : Int)) a 22 (8 * n0) = its := by rw [zv_eq x22]; exact ((zp_set_ne (Or.inr (by omega))).trans ((zp_set_ne (Or.inr (by omega))).trans ((zp_set_ne (Or.inr (by omega))).trans (((zp_nc hfre hq22 rfl (2000 + (8 * n0))).trans ((zp_set_ne (Or.inr (by omega))).trans ((zp_set_ne (Or.inl (zp_pne hq22 hp (by decide)))).trans (zp_set_self))))))))
        have c3 : zv (zp_set (zp_set (zp_set Ge b22 (2000 + (8 * n0 + 4)) (ne : Int)) b22 (2000 + (8 * n0 + 5)) (ne : Int)) b22 (2000 + (8 * n0 + 6)) (ne : Int)) a 22 (8 * n0 + 3) = (q0 : Int) := by rw [zv_eq x22]; exact ((zp_set_ne (Or.inr (by omega))).trans ((zp_set_ne (Or.inr (by omega))).trans ((zp_set_ne (Or.inr (by omega))).trans (((zp_nc hfre hq22 rfl (2000 + (8 * n0 + 3))).trans zp_set_self)))))
        have c4 : zv (zp_set (zp_set (zp_set Ge b22 (2000 + (8 * n0 + 4)) (ne : Int)) b22 (2000 + (8 * n0 + 5)) (ne : Int)) b22 (2000 + (8 * n0 + 6)) (ne : Int)) a 22 (8 * n0 + 4) = (ne : Int) := by rw [zv_eq x22]; exact ((zp_set_ne (Or.inr (by omega))).trans ((zp_set_ne (Or.inr (by omega))).trans (zp_set_self)))
        have c5 : zv (zp_set (zp_set (zp_set Ge b22 (2000 + (8 * n0 + 4)) (ne : Int)) b22 (2000 + (8 * n0 + 5)) (ne : Int)) b22 (2000 + (8 * n0 + 6)) (ne : Int)) a 22 (8 * n0 + 5) = (ne : Int) := by rw [zv_eq x22]; exact ((zp_set_ne (Or.inr (by omega))).trans (zp_set_self))
        have c6 : zv (zp_set (zp_set (zp_set Ge b22 (2000 + (8 * n0 + 4)) (ne : Int)) b22 (2000 + (8 * n0 + 5)) (ne : Int)) b22 (2000 + (8 * n0 + 6)) (ne : Int)) a 22 (8 * n0 + 6) = (ne : Int) := by rw [zv_eq x22]; exact zp_set_self
        refine zp_vret (pc := 198) hx hb hE hQ hU5 rfl (by decide) (zd_X12_readLaw (198, .return_, 1, 0, []) (List.mem_of_getElem? (i := 116) rfl)) (j := 0) rfl ?_
        rw [hps]
        refine ⟨rfl, ?_⟩
        show zl_in a (zp_set (zp_set (zp_set Ge b22 (2000 + (8 * n0 + 4)) (ne : Int)) b22 (2000 + (8 * n0 + 5)) (ne : Int)) b22 (2000 + (8 * n0 + 6)) (ne : Int)) ∧ zp_n u.2.1 a 14 ≤ (zp_set (zp_set (zp_set Ge b22 (2000 + (8 * n0 + 4)) (ne : Int)) b22 (2000 + (8 * n0 + 5)) (ne : Int)) b22 (2000 + (8 * n0 + 6)) (ne : Int)) a 14 ∧ ((zp_set (zp_set (zp_set Ge b22 (2000 + (8 * n0 + 4)) (ne : Int)) b22 (2000 + (8 * n0 + 5)) (ne : Int)) b22 (2000 + (8 * n0 + 6)) (ne : Int)) a 19 = 0 → zp_n u.2.1 a 19 = 0)
        refine ⟨⟨xtk, by omega, by omega, by omega, by omega, fun z c hc => ?_⟩, by omega, fun z => ?_⟩
        · by_cases hcn : n0 = c
          · subst hcn
            refine ⟨fun j j1 j2 => ?_, fun z2 => ?_, fun z2 => ?_⟩
            · have hj : j = 3 ∨ j = 4 ∨ j = 5 ∨ j = 6 := by omega
              rcases hj with rfl | rfl | rfl | rfl
              · rw [c3, x23]; omega
              · rw [c4, x23]; omega
              · rw [c5, x23]; omega
              · rw [c6, x23]; omega
            · rw [c5, c6] at z2 ⊢
              omega
            · rw [c0] at z2
              rw [c3, c4]
              have hcr := e7 (by omega)
              rw [ef23, en] at hcr
              refine zh_crc hcr (fun q h1 h2 => ?_)
              have h3 : (q : Int) < (ne : Int) := by have := Int.toNat_natCast ne; omega
              have r24 : zv Ge a 24 q = zv (zp_set (zp_set (zp_set Ge b22 (2000 + (8 * n0 + 4)) (ne : Int)) b22 (2000 + (8 * n0 + 5)) (ne : Int)) b22 (2000 + (8 * n0 + 6)) (ne : Int)) a 24 q := by
                rw [zv_eq ea24, zv_eq x24]
                exact (((zp_set_ne (Or.inl (zp_pne hq24 hq22 (by decide)))).trans ((zp_set_ne (Or.inl (zp_pne hq24 hq22 (by decide)))).trans ((zp_set_ne (Or.inl (zp_pne hq24 hq22 (by decide)))))))).symm
              have r25 : zv Ge a 25 q = zv (zp_set (zp_set (zp_set Ge b22 (2000 + (8 * n0 + 4)) (ne : Int)) b22 (2000 + (8 * n0 + 5)) (ne : Int)) b22 (2000 + (8 * n0 + 6)) (ne : Int)) a 25 q := by
                rw [zv_eq ea25, zv_eq x25]
                exact (((zp_set_ne (Or.inl (zp_pne hq25 hq22 (by decide)))).trans ((zp_set_ne (Or.inl (zp_pne hq25 hq22 (by decide)))).trans ((zp_set_ne (Or.inl (zp_pne hq25 hq22 (by decide)))))))).symm
              exact ⟨r24, r25⟩
          · have hc2 : (c : Int) < zp_n u.2.1 a 21 := by omega
            refine zl_keep (hok0 (by omega) c hc2) (fun j hj => y22 _ (by omega)) (by omega) (fun q hq => ⟨y24 q (by omega), y25 q (by omega)⟩)
        · omega
      · refine zp_load (pc := 166) hx hb (zd_X12_readLaw (166, .aload_n 0, 1, 0, []) (List.mem_of_getElem? (i := 99) rfl)) rfl (j := 3) rfl ?_
        refine zp_ldc2 (pc := 167) hx hb hE (zd_X12_readLaw (167, .ldc2_w 377, 3, 0, []) (List.mem_of_getElem? (i := 100) rfl)) (j := 104) rfl ?_
        refine zp_call (pc := 170) (how := 0) (idx := 300) (mi := 216) (S := []) hx hb hE hw heff hrm (zX_wo hW) rfl (j := 18) rfl rfl (by decide +kernel) (zd_X12_readLaw (170, .invokevirtual 300, 3, 0, []) (List.mem_of_getElem? (i := 101) rfl)) [(a : Int), 294] rfl ⟨zp_o2 hp, zp_o1 ⟨by decide, by decide⟩, trivial⟩ (Nat.le_of_ble_eq_true rfl) trivial (fun al hal rnw Pw Gw hextw hfrw hokw hcsw hpsiw => ?_)
        obtain rfl := List.mem_singleton.mp hal
        have hrw := zp_int (hokw _ rfl).1
        obtain ⟨hPew, hGew, htw⟩ := hpsiw
        rw [hPew, hGew]
        refine zp_if (pc := 173) (tgt := 185) hx hb (zd_X12_readLaw (173, .ifCond .eq 12, 3, 0, []) (List.mem_of_getElem? (i := 102) rfl)) rfl (fun (hc162 : rnw = 0) => ?_) (fun (hc162 : ¬ (rnw = 0)) => ?_)
        · refine zp_load (pc := 185) hx hb (zd_X12_readLaw (185, .aload_n 0, 1, 0, []) (List.mem_of_getElem? (i := 108) rfl)) rfl (j := 3) rfl ?_
          refine zp_getf (n := (b22 : Int)) (pc := 186) hx hb hE hw (zd_X12_readLaw (186, .getfield 42, 3, 0, []) (List.mem_of_getElem? (i := 109) rfl)) (j := 40) rfl rfl rfl hp ((zp_set_ne (Or.inl (zp_pne hp hq22 (by decide)))).trans ((zp_set_ne (Or.inl (zp_pne hp hq22 (by decide)))).trans (((zp_nf hfre hp rfl).trans ((zp_set_ne (Or.inl (zp_pne hp hq22 (by decide)))).trans ((zp_set_ne (Or.inr (by decide))).trans ((zp_set_ne (Or.inl (zp_pne hp hq22 (by decide)))).trans (g22)))))))) ?_
          refine zp_load (pc := 189) hx hb (zd_X12_readLaw (189, .iload_n 2, 1, 0, []) (List.mem_of_getElem? (i := 110) rfl)) rfl (j := 1) rfl ?_
          refine zp_const (pc := 190) hx hb (zd_X12_readLaw (190, .bipush 6, 2, 0, []) (List.mem_of_getElem? (i := 111) rfl)) rfl rfl ?_
          refine zp_add (n := (8 * (n0 : Int) + 6)) (pc := 192) hx hb (zd_X12_readLaw (192, .iadd, 1, 0, []) (List.mem_of_getElem? (i := 112) rfl)) (by omega) (zp_r0 (by omega) (by omega)) ?_
          refine zp_load (pc := 193) hx hb (zd_X12_readLaw (193, .aload_n 0, 1, 0, []) (List.mem_of_getElem? (i := 113) rfl)) rfl (j := 3) rfl ?_
          refine zp_getf (n := (ne : Int)) (pc := 194) hx hb hE hw (zd_X12_readLaw (194, .getfield 279, 3, 0, []) (List.mem_of_getElem? (i := 114) rfl)) (j := 41) rfl rfl rfl hp ((zp_set_ne (Or.inl (zp_pne hp hq22 (by decide)))).trans ((zp_set_ne (Or.inl (zp_pne hp hq22 (by decide)))).trans (en))) ?_
          refine zp_iast (j := (8 * n0 + 6)) (pc := 197) hx hb hw heff (zd_X12_readLaw (197, .iastore, 1, 0, []) (List.mem_of_getElem? (i := 115) rfl)) (show zp_ia 1 67 = some (96, 0, 0, (-2147483648), 2147483647) from rfl) hq22 (by omega) (by omega) (zp_o0 (by omega) (by omega) (by omega) (by omega)) rfl ?_
          have x13 : (zp_set (zp_set (zp_set Ge b22 (2000 + (8 * n0 + 4)) (ne : Int)) b22 (2000 + (8 * n0 + 5)) (ne : Int)) b22 (2000 + (8 * n0 + 6)) (ne : Int)) a 13 = (G a 13) := ((zp_set_ne (Or.inl (zp_pne hp hq22 (by decide)))).trans ((zp_set_ne (Or.inl (zp_pne hp hq22 (by decide)))).trans ((zp_set_ne (Or.inl (zp_pne hp hq22 (by decide)))).trans (((zp_nf hfre hp rfl).trans ((zp_set_ne (Or.inl (zp_pne hp hq22 (by decide)))).trans ((zp_set_ne (Or.inr (by decide))).trans ((zp_set_ne (Or.inl (zp_pne hp hq22 (by decide))))))))))))
          have x14 : (zp_set (zp_set (zp_set Ge b22 (2000 + (8 * n0 + 4)) (ne : Int)) b22 (2000 + (8 * n0 + 5)) (ne : Int)) b22 (2000 + (8 * n0 + 6)) (ne : Int)) a 14 = (Ge a 14) := ((zp_set_ne (Or.inl (zp_pne hp hq22 (by decide)))).trans ((zp_set_ne (Or.inl (zp_pne hp hq22 (by decide)))).trans ((zp_set_ne (Or.inl (zp_pne hp hq22 (by decide)))))))
          have x15 : (zp_set (zp_set (zp_set Ge b22 (2000 + (8 * n0 + 4)) (ne : Int)) b22 (2000 + (8 * n0 + 5)) (ne : Int)) b22 (2000 + (8 * n0 + 6)) (ne : Int)) a 15 = (Ge a 15) := ((zp_set_ne (Or.inl (zp_pne hp hq22 (by decide)))).trans ((zp_set_ne (Or.inl (zp_pne hp hq22 (by decide)))).trans ((zp_set_ne (Or.inl (zp_pne hp hq22 (by decide)))))))
          have x16 : (zp_set (zp_set (zp_set Ge b22 (2000 + (8 * n0 + 4)) (ne : Int)) b22 (2000 + (8 * n0 + 5)) (ne : Int)) b22 (2000 + (8 * n0 + 6)) (ne : Int)) a 16 = (Ge a 16) := ((zp_set_ne (Or.inl (zp_pne hp hq22 (by decide)))).trans ((zp_set_ne (Or.inl (zp_pne hp hq22 (by decide)))).trans ((zp_set_ne (Or.inl (zp_pne hp hq22 (by decide)))))))
          have x19 : (zp_set (zp_set (zp_set Ge b22 (2000 + (8 * n0 + 4)) (ne : Int)) b22 (2000 + (8 * n0 + 5)) (ne : Int)) b22 (2000 + (8 * n0 + 6)) (ne : Int)) a 19 = (Ge a 19) := ((zp_set_ne (Or.inl (zp_pne hp hq22 (by decide)))).trans ((zp_set_ne (Or.inl (zp_pne hp hq22 (by decide)))).trans ((zp_set_ne (Or.inl (zp_pne hp hq22 (by decide)))))))
          have x21 : (zp_set (zp_set (zp_set Ge b22 (2000 + (8 * n0 + 4)) (ne : Int)) b22 (2000 + (8 * n0 + 5)) (ne : Int)) b22 (2000 + (8 * n0 + 6)) (ne : Int)) a 21 = ((n0 : Int) + 1) := ((zp_set_ne (Or.inl (zp_pne hp hq22 (by decide)))).trans ((zp_set_ne (Or.inl (zp_pne hp hq22 (by decide)))).trans ((zp_set_ne (Or.inl (zp_pne hp hq22 (by decide)))).trans (((zp_nf hfre hp rfl).trans ((zp_set_ne (Or.inl (zp_pne hp hq22 (by decide)))).trans (zp_set_self)))))))
          have x23 : (zp_set (zp_set (zp_set Ge b22 (2000 + (8 * n0 + 4)) (ne : Int)) b22 (2000 + (8 * n0 + 5)) (ne : Int)) b22 (2000 + (8 * n0 + 6)) (ne : Int)) a 23 = (ne : Int) := ((zp_set_ne (Or.inl (zp_pne hp hq22 (by decide)))).trans ((zp_set_ne (Or.inl (zp_pne hp hq22 (by decide)))).trans ((zp_set_ne (Or.inl (zp_pne hp hq22 (by decide)))).trans (en))))
          have x22 : (zp_set (zp_set (zp_set Ge b22 (2000 + (8 * n0 + 4)) (ne : Int)) b22 (2000 + (8 * n0 + 5)) (ne : Int)) b22 (2000 + (8 * n0 + 6)) (ne : Int)) a 22 = (b22 : Int) := ((zp_set_ne (Or.inl (zp_pne hp hq22 (by decide)))).trans ((zp_set_ne (Or.inl (zp_pne hp hq22 (by decide)))).trans ((zp_set_ne (Or.inl (zp_pne hp hq22 (by decide)))).trans (((zp_nf hfre hp rfl).trans ((zp_set_ne (Or.inl (zp_pne hp hq22 (by decide)))).trans ((zp_set_ne (Or.inr (by decide))).trans ((zp_set_ne (Or.inl (zp_pne hp hq22 (by decide)))).trans (g22)))))))))
          have x24 : (zp_set (zp_set (zp_set Ge b22 (2000 + (8 * n0 + 4)) (ne : Int)) b22 (2000 + (8 * n0 + 5)) (ne : Int)) b22 (2000 + (8 * n0 + 6)) (ne : Int)) a 24 = (b24 : Int) := ((zp_set_ne (Or.inl (zp_pne hp hq22 (by decide)))).trans ((zp_set_ne (Or.inl (zp_pne hp hq22 (by decide)))).trans ((zp_set_ne (Or.inl (zp_pne hp hq22 (by decide)))).trans (ea24))))
          have x25 : (zp_set (zp_set (zp_set Ge b22 (2000 + (8 * n0 + 4)) (ne : Int)) b22 (2000 + (8 * n0 + 5)) (ne : Int)) b22 (2000 + (8 * n0 + 6)) (ne : Int)) a 25 = (b25 : Int) := ((zp_set_ne (Or.inl (zp_pne hp hq22 (by decide)))).trans ((zp_set_ne (Or.inl (zp_pne hp hq22 (by decide)))).trans ((zp_set_ne (Or.inl (zp_pne hp hq22 (by decide)))).trans (ea25))))
          have xtk : zs_tk a (zp_set (zp_set (zp_set Ge b22 (2000 + (8 * n0 + 4)) (ne : Int)) b22 (2000 + (8 * n0 + 5)) (ne : Int)) b22 (2000 + (8 * n0 + 6)) (ne : Int)) := zs_tk_congr e1 ((zp_set_ne (Or.inl (zp_pne hp hq22 (by decide)))).trans ((zp_set_ne (Or.inl (zp_pne hp hq22 (by decide)))).trans ((zp_set_ne (Or.inl (zp_pne hp hq22 (by decide))))))) ((zp_set_ne (Or.inl (zp_pne hp hq22 (by decide)))).trans ((zp_set_ne (Or.inl (zp_pne hp hq22 (by decide)))).trans ((zp_set_ne (Or.inl (zp_pne hp hq22 (by decide))))))) ((zp_set_ne (Or.inl (zp_pne hp hq22 (by decide)))).trans ((zp_set_ne (Or.inl (zp_pne hp hq22 (by decide)))).trans ((zp_set_ne (Or.inl (zp_pne hp hq22 (by decide))))))) ((zp_set_ne (Or.inl (zp_pne hp hq22 (by decide)))).trans ((zp_set_ne (Or.inl (zp_pne hp hq22 (by decide)))).trans ((zp_set_ne (Or.inl (zp_pne hp hq22 (by decide)))))))
          have y24 : ∀ q : Nat, (q : Int) < (q0 : Int) → zv (zp_set (zp_set (zp_set Ge b22 (2000 + (8 * n0 + 4)) (ne : Int)) b22 (2000 + (8 * n0 + 5)) (ne : Int)) b22 (2000 + (8 * n0 + 6)) (ne : Int)) a 24 q = zv (zp_n u.2.1) a 24 q := fun q hq => by
            rw [zv_eq x24, zv_eq hb24]
            exact ((zp_set_ne (Or.inl (zp_pne hq24 hq22 (by decide)))).trans ((zp_set_ne (Or.inl (zp_pne hq24 hq22 (by decide)))).trans ((zp_set_ne (Or.inl (zp_pne hq24 hq22 (by decide)))).trans ((eb24 q (by omega))))))
          have y25 : ∀ q : Nat, (q : Int) < (q0 : Int) → zv (zp_set (zp_set (zp_set Ge b22 (2000 + (8 * n0 + 4)) (ne : Int)) b22 (2000 + (8 * n0 + 5)) (ne : Int)) b22 (2000 + (8 * n0 + 6)) (ne : Int)) a 25 q = zv (zp_n u.2.1) a 25 q := fun q hq => by
            rw [zv_eq x25, zv_eq hb25]
            exact ((zp_set_ne (Or.inl (zp_pne hq25 hq22 (by decide)))).trans ((zp_set_ne (Or.inl (zp_pne hq25 hq22 (by decide)))).trans ((zp_set_ne (Or.inl (zp_pne hq25 hq22 (by decide)))).trans ((eb25 q (by omega))))))
          have y22 : ∀ j : Nat, j < 8 * n0 → zv (zp_set (zp_set (zp_set Ge b22 (2000 + (8 * n0 + 4)) (ne : Int)) b22 (2000 + (8 * n0 + 5)) (ne : Int)) b22 (2000 + (8 * n0 + 6)) (ne : Int)) a 22 j = zv (zp_n u.2.1) a 22 j := fun j hj => by
            rw [zv_eq x22, zv_eq hb22]
            exact ((zp_set_ne (Or.inr (by omega))).trans ((zp_set_ne (Or.inr (by omega))).trans ((zp_set_ne (Or.inr (by omega))).trans (((zp_nc hfre hq22 rfl (2000 + j)).trans ((zp_set_ne (Or.inr (by omega))).trans ((zp_set_ne (Or.inl (zp_pne hq22 hp (by decide)))).trans ((zp_set_ne (Or.inr (by omega))).trans ((z22 j hj))))))))))
          have c0 : zv (zp_set (zp_set (zp_set Ge b22 (2000 + (8 * n0 + 4)) (ne : Int)) b22 (2000 + (8 * n0 + 5)) (ne : Int)) b22 (2000 + (8 * n0 + 6)) (ne : Int)) a 22 (8 * n0) = its := by rw [zv_eq x22]; exact ((zp_set_ne (Or.inr (by omega))).trans ((zp_set_ne (Or.inr (by omega))).trans ((zp_set_ne (Or.inr (by omega))).trans (((zp_nc hfre hq22 rfl (2000 + (8 * n0))).trans ((zp_set_ne (Or.inr (by omega))).trans ((zp_set_ne (Or.inl (zp_pne hq22 hp (by decide)))).trans (zp_set_self))))))))
          have c3 : zv (zp_set (zp_set (zp_set Ge b22 (2000 + (8 * n0 + 4)) (ne : Int)) b22 (2000 + (8 * n0 + 5)) (ne : Int)) b22 (2000 + (8 * n0 + 6)) (ne : Int)) a 22 (8 * n0 + 3) = (q0 : Int) := by rw [zv_eq x22]; exact ((zp_set_ne (Or.inr (by omega))).trans ((zp_set_ne (Or.inr (by omega))).trans ((zp_set_ne (Or.inr (by omega))).trans (((zp_nc hfre hq22 rfl (2000 + (8 * n0 + 3))).trans zp_set_self)))))
          have c4 : zv (zp_set (zp_set (zp_set Ge b22 (2000 + (8 * n0 + 4)) (ne : Int)) b22 (2000 + (8 * n0 + 5)) (ne : Int)) b22 (2000 + (8 * n0 + 6)) (ne : Int)) a 22 (8 * n0 + 4) = (ne : Int) := by rw [zv_eq x22]; exact ((zp_set_ne (Or.inr (by omega))).trans ((zp_set_ne (Or.inr (by omega))).trans (zp_set_self)))
          have c5 : zv (zp_set (zp_set (zp_set Ge b22 (2000 + (8 * n0 + 4)) (ne : Int)) b22 (2000 + (8 * n0 + 5)) (ne : Int)) b22 (2000 + (8 * n0 + 6)) (ne : Int)) a 22 (8 * n0 + 5) = (ne : Int) := by rw [zv_eq x22]; exact ((zp_set_ne (Or.inr (by omega))).trans (zp_set_self))
          have c6 : zv (zp_set (zp_set (zp_set Ge b22 (2000 + (8 * n0 + 4)) (ne : Int)) b22 (2000 + (8 * n0 + 5)) (ne : Int)) b22 (2000 + (8 * n0 + 6)) (ne : Int)) a 22 (8 * n0 + 6) = (ne : Int) := by rw [zv_eq x22]; exact zp_set_self
          refine zp_vret (pc := 198) hx hb hE hQ hU5 rfl (by decide) (zd_X12_readLaw (198, .return_, 1, 0, []) (List.mem_of_getElem? (i := 116) rfl)) (j := 0) rfl ?_
          rw [hps]
          refine ⟨rfl, ?_⟩
          show zl_in a (zp_set (zp_set (zp_set Ge b22 (2000 + (8 * n0 + 4)) (ne : Int)) b22 (2000 + (8 * n0 + 5)) (ne : Int)) b22 (2000 + (8 * n0 + 6)) (ne : Int)) ∧ zp_n u.2.1 a 14 ≤ (zp_set (zp_set (zp_set Ge b22 (2000 + (8 * n0 + 4)) (ne : Int)) b22 (2000 + (8 * n0 + 5)) (ne : Int)) b22 (2000 + (8 * n0 + 6)) (ne : Int)) a 14 ∧ ((zp_set (zp_set (zp_set Ge b22 (2000 + (8 * n0 + 4)) (ne : Int)) b22 (2000 + (8 * n0 + 5)) (ne : Int)) b22 (2000 + (8 * n0 + 6)) (ne : Int)) a 19 = 0 → zp_n u.2.1 a 19 = 0)
          refine ⟨⟨xtk, by omega, by omega, by omega, by omega, fun z c hc => ?_⟩, by omega, fun z => ?_⟩
          · by_cases hcn : n0 = c
            · subst hcn
              refine ⟨fun j j1 j2 => ?_, fun z2 => ?_, fun z2 => ?_⟩
              · have hj : j = 3 ∨ j = 4 ∨ j = 5 ∨ j = 6 := by omega
                rcases hj with rfl | rfl | rfl | rfl
                · rw [c3, x23]; omega
                · rw [c4, x23]; omega
                · rw [c5, x23]; omega
                · rw [c6, x23]; omega
              · rw [c5, c6] at z2 ⊢
                omega
              · rw [c0] at z2
                rw [c3, c4]
                have hcr := e7 (by omega)
                rw [ef23, en] at hcr
                refine zh_crc hcr (fun q h1 h2 => ?_)
                have h3 : (q : Int) < (ne : Int) := by have := Int.toNat_natCast ne; omega
                have r24 : zv Ge a 24 q = zv (zp_set (zp_set (zp_set Ge b22 (2000 + (8 * n0 + 4)) (ne : Int)) b22 (2000 + (8 * n0 + 5)) (ne : Int)) b22 (2000 + (8 * n0 + 6)) (ne : Int)) a 24 q := by
                  rw [zv_eq ea24, zv_eq x24]
                  exact (((zp_set_ne (Or.inl (zp_pne hq24 hq22 (by decide)))).trans ((zp_set_ne (Or.inl (zp_pne hq24 hq22 (by decide)))).trans ((zp_set_ne (Or.inl (zp_pne hq24 hq22 (by decide)))))))).symm
                have r25 : zv Ge a 25 q = zv (zp_set (zp_set (zp_set Ge b22 (2000 + (8 * n0 + 4)) (ne : Int)) b22 (2000 + (8 * n0 + 5)) (ne : Int)) b22 (2000 + (8 * n0 + 6)) (ne : Int)) a 25 q := by
                  rw [zv_eq ea25, zv_eq x25]
                  exact (((zp_set_ne (Or.inl (zp_pne hq25 hq22 (by decide)))).trans ((zp_set_ne (Or.inl (zp_pne hq25 hq22 (by decide)))).trans ((zp_set_ne (Or.inl (zp_pne hq25 hq22 (by decide)))))))).symm
                exact ⟨r24, r25⟩
            · have hc2 : (c : Int) < zp_n u.2.1 a 21 := by omega
              refine zl_keep (hok0 (by omega) c hc2) (fun j hj => y22 _ (by omega)) (by omega) (fun q hq => ⟨y24 q (by omega), y25 q (by omega)⟩)
          · omega
        · refine zp_load (pc := 176) hx hb (zd_X12_readLaw (176, .aload_n 0, 1, 0, []) (List.mem_of_getElem? (i := 103) rfl)) rfl (j := 3) rfl ?_
          have nf13 : (zp_set (zp_set Ge b22 (2000 + (8 * n0 + 4)) (ne : Int)) b22 (2000 + (8 * n0 + 5)) (ne : Int)) a 13 = (G a 13) := ((zp_set_ne (Or.inl (zp_pne hp hq22 (by decide)))).trans ((zp_set_ne (Or.inl (zp_pne hp hq22 (by decide)))).trans (((zp_nf hfre hp rfl).trans ((zp_set_ne (Or.inl (zp_pne hp hq22 (by decide)))).trans ((zp_set_ne (Or.inr (by decide))).trans ((zp_set_ne (Or.inl (zp_pne hp hq22 (by decide)))))))))))
          have nf14 : (zp_set (zp_set Ge b22 (2000 + (8 * n0 + 4)) (ne : Int)) b22 (2000 + (8 * n0 + 5)) (ne : Int)) a 14 = (Ge a 14) := ((zp_set_ne (Or.inl (zp_pne hp hq22 (by decide)))).trans ((zp_set_ne (Or.inl (zp_pne hp hq22 (by decide))))))
          have nf15 : (zp_set (zp_set Ge b22 (2000 + (8 * n0 + 4)) (ne : Int)) b22 (2000 + (8 * n0 + 5)) (ne : Int)) a 15 = (Ge a 15) := ((zp_set_ne (Or.inl (zp_pne hp hq22 (by decide)))).trans ((zp_set_ne (Or.inl (zp_pne hp hq22 (by decide))))))
          have nf16 : (zp_set (zp_set Ge b22 (2000 + (8 * n0 + 4)) (ne : Int)) b22 (2000 + (8 * n0 + 5)) (ne : Int)) a 16 = (Ge a 16) := ((zp_set_ne (Or.inl (zp_pne hp hq22 (by decide)))).trans ((zp_set_ne (Or.inl (zp_pne hp hq22 (by decide))))))
          have nf19 : (zp_set (zp_set Ge b22 (2000 + (8 * n0 + 4)) (ne : Int)) b22 (2000 + (8 * n0 + 5)) (ne : Int)) a 19 = (Ge a 19) := ((zp_set_ne (Or.inl (zp_pne hp hq22 (by decide)))).trans ((zp_set_ne (Or.inl (zp_pne hp hq22 (by decide))))))
          have nf23 : (zp_set (zp_set Ge b22 (2000 + (8 * n0 + 4)) (ne : Int)) b22 (2000 + (8 * n0 + 5)) (ne : Int)) a 23 = (ne : Int) := ((zp_set_ne (Or.inl (zp_pne hp hq22 (by decide)))).trans ((zp_set_ne (Or.inl (zp_pne hp hq22 (by decide)))).trans (en)))
          have ntk : zs_tk a (zp_set (zp_set Ge b22 (2000 + (8 * n0 + 4)) (ne : Int)) b22 (2000 + (8 * n0 + 5)) (ne : Int)) := zs_tk_congr e1 ((zp_set_ne (Or.inl (zp_pne hp hq22 (by decide)))).trans ((zp_set_ne (Or.inl (zp_pne hp hq22 (by decide)))))) ((zp_set_ne (Or.inl (zp_pne hp hq22 (by decide)))).trans ((zp_set_ne (Or.inl (zp_pne hp hq22 (by decide)))))) ((zp_set_ne (Or.inl (zp_pne hp hq22 (by decide)))).trans ((zp_set_ne (Or.inl (zp_pne hp hq22 (by decide)))))) ((zp_set_ne (Or.inl (zp_pne hp hq22 (by decide)))).trans ((zp_set_ne (Or.inl (zp_pne hp hq22 (by decide))))))
          have ntk2 := ntk
          obtain ⟨nt1, nt2, nt3, -, -, -⟩ := ntk2
          refine zp_call (pc := 177) (how := 0) (idx := 244) (mi := 212) (S := []) hx hb hE hw heff hrm (zX_nx hW) rfl (j := 14) rfl rfl (by decide +kernel) (zd_X12_readLaw (177, .invokevirtual 244, 3, 0, []) (List.mem_of_getElem? (i := 104) rfl)) [(a : Int)] rfl ⟨zp_o2 hp, trivial⟩ (Nat.le_of_ble_eq_true rfl) (show 0 ≤ (zp_set (zp_set Ge b22 (2000 + (8 * n0 + 4)) (ne : Int)) b22 (2000 + (8 * n0 + 5)) (ne : Int)) a 15 ∧ (zp_set (zp_set Ge b22 (2000 + (8 * n0 + 4)) (ne : Int)) b22 (2000 + (8 * n0 + 5)) (ne : Int)) a 15 ≤ (zp_set (zp_set Ge b22 (2000 + (8 * n0 + 4)) (ne : Int)) b22 (2000 + (8 * n0 + 5)) (ne : Int)) a 13 by omega) (fun al hal rnn Pn Gn hextn hfrn hokn hcsn hpsin => ?_)
          obtain rfl := List.mem_singleton.mp hal
          obtain ⟨rfl, hxn⟩ := hpsin
          have hxn : (zp_set (zp_set Ge b22 (2000 + (8 * n0 + 4)) (ne : Int)) b22 (2000 + (8 * n0 + 5)) (ne : Int)) a 15 ≤ Gn a 14 ∧ Gn a 14 ≤ Gn a 15 ∧ Gn a 15 ≤ (zp_set (zp_set Ge b22 (2000 + (8 * n0 + 4)) (ne : Int)) b22 (2000 + (8 * n0 + 5)) (ne : Int)) a 13 ∧ 0 ≤ Gn a 16 ∧ Gn a 16 ≤ 3 ∧ (Gn a 16 ≠ 0 → Gn a 14 < Gn a 15) := hxn
          have nn13 : Gn a 13 = (zp_set (zp_set Ge b22 (2000 + (8 * n0 + 4)) (ne : Int)) b22 (2000 + (8 * n0 + 5)) (ne : Int)) a 13 := zp_nf hfrn hp rfl
          have nntk : zs_tk a Gn := by unfold zs_tk; omega
          refine zp_load (pc := 180) hx hb (zd_X12_readLaw (180, .aload_n 0, 1, 0, []) (List.mem_of_getElem? (i := 105) rfl)) rfl (j := 3) rfl ?_
          refine zp_const (pc := 181) hx hb (zd_X12_readLaw (181, .iconst 1, 1, 0, []) (List.mem_of_getElem? (i := 106) rfl)) rfl rfl ?_
          have yf13 : Gn a 13 = (G a 13) := ((zp_nf hfrn hp rfl).trans ((zp_set_ne (Or.inl (zp_pne hp hq22 (by decide)))).trans ((zp_set_ne (Or.inl (zp_pne hp hq22 (by decide)))).trans (((zp_nf hfre hp rfl).trans ((zp_set_ne (Or.inl (zp_pne hp hq22 (by decide)))).trans ((zp_set_ne (Or.inr (by decide))).trans ((zp_set_ne (Or.inl (zp_pne hp hq22 (by decide))))))))))))
          have yf14 : Gn a 14 = (Gn a 14) := rfl
          have yf15 : Gn a 15 = (Gn a 15) := rfl
          have yf16 : Gn a 16 = (Gn a 16) := rfl
          have yf19 : Gn a 19 = (Ge a 19) := ((zp_nf hfrn hp rfl).trans ((zp_set_ne (Or.inl (zp_pne hp hq22 (by decide)))).trans ((zp_set_ne (Or.inl (zp_pne hp hq22 (by decide)))))))
          have yf23 : Gn a 23 = (ne : Int) := ((zp_nf hfrn hp rfl).trans ((zp_set_ne (Or.inl (zp_pne hp hq22 (by decide)))).trans ((zp_set_ne (Or.inl (zp_pne hp hq22 (by decide)))).trans (en))))
          have ytk : zs_tk a Gn := nntk
          refine zp_call (pc := 182) (how := 0) (idx := 374) (mi := 218) (S := []) hx hb hE hw heff hrm (zX_ex hW) rfl (j := 20) rfl rfl (by decide +kernel) (zd_X12_readLaw (182, .invokevirtual 374, 3, 0, []) (List.mem_of_getElem? (i := 107) rfl)) [(a : Int), 1] rfl ⟨zp_o2 hp, zp_o0 (by decide) (by decide) (by decide) (by decide), trivial⟩ (Nat.le_of_ble_eq_true rfl) (show zs_tk a Gn ∧ Gn a 23 ≤ Gn a 14 from ⟨ytk, by omega⟩) (fun al hal rny Py Gy hexty hfry hoky hcsy hpsiy => ?_)
          obtain rfl := List.mem_singleton.mp hal
          obtain ⟨rfl, hxy⟩ := hpsiy
          have hxy : zx_tells a Gn Gy := hxy
          obtain ⟨y1, y2, y3, y4, y5, y6, y7⟩ := hxy
          have ya24 : Gy a 24 = (b24 : Int) := ((zp_nf hfry hp rfl).trans ((zp_nf hfrn hp rfl).trans ((zp_set_ne (Or.inl (zp_pne hp hq22 (by decide)))).trans ((zp_set_ne (Or.inl (zp_pne hp hq22 (by decide)))).trans (ea24)))))
          have ya25 : Gy a 25 = (b25 : Int) := ((zp_nf hfry hp rfl).trans ((zp_nf hfrn hp rfl).trans ((zp_set_ne (Or.inl (zp_pne hp hq22 (by decide)))).trans ((zp_set_ne (Or.inl (zp_pne hp hq22 (by decide)))).trans (ea25)))))
          obtain ⟨ny, yn⟩ := zp_nat (n := Gy a 23) (by omega)
          refine zp_kn (k := 13) (a := a) (G := Gy) hw (show zp_fd 92 13 = some (12, 0, 0, 0, 400) from rfl) rfl hp (fun hk13y => ?_)
          have hx13y := zp_int hk13y
          have ytk2 := y1
          obtain ⟨yu1, yu2, yu3, -, -, -⟩ := ytk2
          have yb24 : ∀ q : Nat, (q : Int) < (ne : Int) → Gy b24 (2000 + q) = (Ge b24 (2000 + q)) := fun q hq => by
            have h := (y6 q (by omega)).1
            rw [zv_eq ya24, zv_eq (show Gn a 24 = (b24 : Int) from ((zp_nf hfrn hp rfl).trans ((zp_set_ne (Or.inl (zp_pne hp hq22 (by decide)))).trans ((zp_set_ne (Or.inl (zp_pne hp hq22 (by decide)))).trans (ea24)))))] at h
            exact h.trans ((zp_nc hfrn hq24 rfl (2000 + q)).trans ((zp_set_ne (Or.inl (zp_pne hq24 hq22 (by decide)))).trans ((zp_set_ne (Or.inl (zp_pne hq24 hq22 (by decide)))))))
          have yb25 : ∀ q : Nat, (q : Int) < (ne : Int) → Gy b25 (2000 + q) = (Ge b25 (2000 + q)) := fun q hq => by
            have h := (y6 q (by omega)).2
            rw [zv_eq ya25, zv_eq (show Gn a 25 = (b25 : Int) from ((zp_nf hfrn hp rfl).trans ((zp_set_ne (Or.inl (zp_pne hp hq22 (by decide)))).trans ((zp_set_ne (Or.inl (zp_pne hp hq22 (by decide)))).trans (ea25)))))] at h
            exact h.trans ((zp_nc hfrn hq25 rfl (2000 + q)).trans ((zp_set_ne (Or.inl (zp_pne hq25 hq22 (by decide)))).trans ((zp_set_ne (Or.inl (zp_pne hq25 hq22 (by decide)))))))
          refine zp_load (pc := 185) hx hb (zd_X12_readLaw (185, .aload_n 0, 1, 0, []) (List.mem_of_getElem? (i := 108) rfl)) rfl (j := 3) rfl ?_
          refine zp_getf (n := (b22 : Int)) (pc := 186) hx hb hE hw (zd_X12_readLaw (186, .getfield 42, 3, 0, []) (List.mem_of_getElem? (i := 109) rfl)) (j := 40) rfl rfl rfl hp ((zp_nf hfry hp rfl).trans ((zp_nf hfrn hp rfl).trans ((zp_set_ne (Or.inl (zp_pne hp hq22 (by decide)))).trans ((zp_set_ne (Or.inl (zp_pne hp hq22 (by decide)))).trans (((zp_nf hfre hp rfl).trans ((zp_set_ne (Or.inl (zp_pne hp hq22 (by decide)))).trans ((zp_set_ne (Or.inr (by decide))).trans ((zp_set_ne (Or.inl (zp_pne hp hq22 (by decide)))).trans (g22)))))))))) ?_
          refine zp_load (pc := 189) hx hb (zd_X12_readLaw (189, .iload_n 2, 1, 0, []) (List.mem_of_getElem? (i := 110) rfl)) rfl (j := 1) rfl ?_
          refine zp_const (pc := 190) hx hb (zd_X12_readLaw (190, .bipush 6, 2, 0, []) (List.mem_of_getElem? (i := 111) rfl)) rfl rfl ?_
          refine zp_add (n := (8 * (n0 : Int) + 6)) (pc := 192) hx hb (zd_X12_readLaw (192, .iadd, 1, 0, []) (List.mem_of_getElem? (i := 112) rfl)) (by omega) (zp_r0 (by omega) (by omega)) ?_
          refine zp_load (pc := 193) hx hb (zd_X12_readLaw (193, .aload_n 0, 1, 0, []) (List.mem_of_getElem? (i := 113) rfl)) rfl (j := 3) rfl ?_
          refine zp_getf (n := (ny : Int)) (pc := 194) hx hb hE hw (zd_X12_readLaw (194, .getfield 279, 3, 0, []) (List.mem_of_getElem? (i := 114) rfl)) (j := 41) rfl rfl rfl hp yn ?_
          refine zp_iast (j := (8 * n0 + 6)) (pc := 197) hx hb hw heff (zd_X12_readLaw (197, .iastore, 1, 0, []) (List.mem_of_getElem? (i := 115) rfl)) (show zp_ia 1 67 = some (96, 0, 0, (-2147483648), 2147483647) from rfl) hq22 (by omega) (by omega) (zp_o0 (by omega) (by omega) (by omega) (by omega)) rfl ?_
          have x13 : (zp_set Gy b22 (2000 + (8 * n0 + 6)) (ny : Int)) a 13 = (G a 13) := ((zp_set_ne (Or.inl (zp_pne hp hq22 (by decide)))).trans (((zp_nf hfry hp rfl).trans ((zp_nf hfrn hp rfl).trans ((zp_set_ne (Or.inl (zp_pne hp hq22 (by decide)))).trans ((zp_set_ne (Or.inl (zp_pne hp hq22 (by decide)))).trans (((zp_nf hfre hp rfl).trans ((zp_set_ne (Or.inl (zp_pne hp hq22 (by decide)))).trans ((zp_set_ne (Or.inr (by decide))).trans ((zp_set_ne (Or.inl (zp_pne hp hq22 (by decide)))))))))))))))
          have x14 : (zp_set Gy b22 (2000 + (8 * n0 + 6)) (ny : Int)) a 14 = (Gy a 14) := ((zp_set_ne (Or.inl (zp_pne hp hq22 (by decide)))))
          have x15 : (zp_set Gy b22 (2000 + (8 * n0 + 6)) (ny : Int)) a 15 = (Gy a 15) := ((zp_set_ne (Or.inl (zp_pne hp hq22 (by decide)))))
          have x16 : (zp_set Gy b22 (2000 + (8 * n0 + 6)) (ny : Int)) a 16 = (Gy a 16) := ((zp_set_ne (Or.inl (zp_pne hp hq22 (by decide)))))
          have x19 : (zp_set Gy b22 (2000 + (8 * n0 + 6)) (ny : Int)) a 19 = (Gy a 19) := ((zp_set_ne (Or.inl (zp_pne hp hq22 (by decide)))))
          have x21 : (zp_set Gy b22 (2000 + (8 * n0 + 6)) (ny : Int)) a 21 = ((n0 : Int) + 1) := ((zp_set_ne (Or.inl (zp_pne hp hq22 (by decide)))).trans (((zp_nf hfry hp rfl).trans ((zp_nf hfrn hp rfl).trans ((zp_set_ne (Or.inl (zp_pne hp hq22 (by decide)))).trans ((zp_set_ne (Or.inl (zp_pne hp hq22 (by decide)))).trans (((zp_nf hfre hp rfl).trans ((zp_set_ne (Or.inl (zp_pne hp hq22 (by decide)))).trans (zp_set_self))))))))))
          have x23 : (zp_set Gy b22 (2000 + (8 * n0 + 6)) (ny : Int)) a 23 = (ny : Int) := ((zp_set_ne (Or.inl (zp_pne hp hq22 (by decide)))).trans (yn))
          have x22 : (zp_set Gy b22 (2000 + (8 * n0 + 6)) (ny : Int)) a 22 = (b22 : Int) := ((zp_set_ne (Or.inl (zp_pne hp hq22 (by decide)))).trans (((zp_nf hfry hp rfl).trans ((zp_nf hfrn hp rfl).trans ((zp_set_ne (Or.inl (zp_pne hp hq22 (by decide)))).trans ((zp_set_ne (Or.inl (zp_pne hp hq22 (by decide)))).trans (((zp_nf hfre hp rfl).trans ((zp_set_ne (Or.inl (zp_pne hp hq22 (by decide)))).trans ((zp_set_ne (Or.inr (by decide))).trans ((zp_set_ne (Or.inl (zp_pne hp hq22 (by decide)))).trans (g22))))))))))))
          have x24 : (zp_set Gy b22 (2000 + (8 * n0 + 6)) (ny : Int)) a 24 = (b24 : Int) := ((zp_set_ne (Or.inl (zp_pne hp hq22 (by decide)))).trans (ya24))
          have x25 : (zp_set Gy b22 (2000 + (8 * n0 + 6)) (ny : Int)) a 25 = (b25 : Int) := ((zp_set_ne (Or.inl (zp_pne hp hq22 (by decide)))).trans (ya25))
          have xtk : zs_tk a (zp_set Gy b22 (2000 + (8 * n0 + 6)) (ny : Int)) := zs_tk_congr y1 ((zp_set_ne (Or.inl (zp_pne hp hq22 (by decide))))) ((zp_set_ne (Or.inl (zp_pne hp hq22 (by decide))))) ((zp_set_ne (Or.inl (zp_pne hp hq22 (by decide))))) ((zp_set_ne (Or.inl (zp_pne hp hq22 (by decide)))))
          have y24 : ∀ q : Nat, (q : Int) < (q0 : Int) → zv (zp_set Gy b22 (2000 + (8 * n0 + 6)) (ny : Int)) a 24 q = zv (zp_n u.2.1) a 24 q := fun q hq => by
            rw [zv_eq x24, zv_eq hb24]
            exact ((zp_set_ne (Or.inl (zp_pne hq24 hq22 (by decide)))).trans (((yb24 q (by omega)).trans (eb24 q (by omega)))))
          have y25 : ∀ q : Nat, (q : Int) < (q0 : Int) → zv (zp_set Gy b22 (2000 + (8 * n0 + 6)) (ny : Int)) a 25 q = zv (zp_n u.2.1) a 25 q := fun q hq => by
            rw [zv_eq x25, zv_eq hb25]
            exact ((zp_set_ne (Or.inl (zp_pne hq25 hq22 (by decide)))).trans (((yb25 q (by omega)).trans (eb25 q (by omega)))))
          have y22 : ∀ j : Nat, j < 8 * n0 → zv (zp_set Gy b22 (2000 + (8 * n0 + 6)) (ny : Int)) a 22 j = zv (zp_n u.2.1) a 22 j := fun j hj => by
            rw [zv_eq x22, zv_eq hb22]
            exact ((zp_set_ne (Or.inr (by omega))).trans (((zp_nc hfry hq22 rfl (2000 + j)).trans ((zp_nc hfrn hq22 rfl (2000 + j)).trans ((zp_set_ne (Or.inr (by omega))).trans ((zp_set_ne (Or.inr (by omega))).trans (((zp_nc hfre hq22 rfl (2000 + j)).trans ((zp_set_ne (Or.inr (by omega))).trans ((zp_set_ne (Or.inl (zp_pne hq22 hp (by decide)))).trans ((zp_set_ne (Or.inr (by omega))).trans ((z22 j hj)))))))))))))
          have c0 : zv (zp_set Gy b22 (2000 + (8 * n0 + 6)) (ny : Int)) a 22 (8 * n0) = its := by rw [zv_eq x22]; exact ((zp_set_ne (Or.inr (by omega))).trans (((zp_nc hfry hq22 rfl (2000 + (8 * n0))).trans ((zp_nc hfrn hq22 rfl (2000 + (8 * n0))).trans ((zp_set_ne (Or.inr (by omega))).trans ((zp_set_ne (Or.inr (by omega))).trans (((zp_nc hfre hq22 rfl (2000 + (8 * n0))).trans ((zp_set_ne (Or.inr (by omega))).trans ((zp_set_ne (Or.inl (zp_pne hq22 hp (by decide)))).trans (zp_set_self)))))))))))
          have c3 : zv (zp_set Gy b22 (2000 + (8 * n0 + 6)) (ny : Int)) a 22 (8 * n0 + 3) = (q0 : Int) := by rw [zv_eq x22]; exact ((zp_set_ne (Or.inr (by omega))).trans (((zp_nc hfry hq22 rfl (2000 + (8 * n0 + 3))).trans ((zp_nc hfrn hq22 rfl (2000 + (8 * n0 + 3))).trans ((zp_set_ne (Or.inr (by omega))).trans ((zp_set_ne (Or.inr (by omega))).trans (((zp_nc hfre hq22 rfl (2000 + (8 * n0 + 3))).trans zp_set_self))))))))
          have c4 : zv (zp_set Gy b22 (2000 + (8 * n0 + 6)) (ny : Int)) a 22 (8 * n0 + 4) = (ne : Int) := by rw [zv_eq x22]; exact ((zp_set_ne (Or.inr (by omega))).trans (((zp_nc hfry hq22 rfl (2000 + (8 * n0 + 4))).trans ((zp_nc hfrn hq22 rfl (2000 + (8 * n0 + 4))).trans ((zp_set_ne (Or.inr (by omega))).trans (zp_set_self))))))
          have c5 : zv (zp_set Gy b22 (2000 + (8 * n0 + 6)) (ny : Int)) a 22 (8 * n0 + 5) = (ne : Int) := by rw [zv_eq x22]; exact ((zp_set_ne (Or.inr (by omega))).trans (((zp_nc hfry hq22 rfl (2000 + (8 * n0 + 5))).trans ((zp_nc hfrn hq22 rfl (2000 + (8 * n0 + 5))).trans zp_set_self))))
          have c6 : zv (zp_set Gy b22 (2000 + (8 * n0 + 6)) (ny : Int)) a 22 (8 * n0 + 6) = (ny : Int) := by rw [zv_eq x22]; exact zp_set_self
          refine zp_vret (pc := 198) hx hb hE hQ hU5 rfl (by decide) (zd_X12_readLaw (198, .return_, 1, 0, []) (List.mem_of_getElem? (i := 116) rfl)) (j := 0) rfl ?_
          rw [hps]
          refine ⟨rfl, ?_⟩
          show zl_in a (zp_set Gy b22 (2000 + (8 * n0 + 6)) (ny : Int)) ∧ zp_n u.2.1 a 14 ≤ (zp_set Gy b22 (2000 + (8 * n0 + 6)) (ny : Int)) a 14 ∧ ((zp_set Gy b22 (2000 + (8 * n0 + 6)) (ny : Int)) a 19 = 0 → zp_n u.2.1 a 19 = 0)
          refine ⟨⟨xtk, by omega, by omega, by omega, by omega, fun z c hc => ?_⟩, by omega, fun z => ?_⟩
          · by_cases hcn : n0 = c
            · subst hcn
              refine ⟨fun j j1 j2 => ?_, fun z2 => ?_, fun z2 => ?_⟩
              · have hj : j = 3 ∨ j = 4 ∨ j = 5 ∨ j = 6 := by omega
                rcases hj with rfl | rfl | rfl | rfl
                · rw [c3, x23]; omega
                · rw [c4, x23]; omega
                · rw [c5, x23]; omega
                · rw [c6, x23]; omega
              · rw [c5, c6] at z2 ⊢
                have hcr := y7 (by omega)
                rw [yf23, yn] at hcr
                refine zh_crc hcr (fun q h1 h2 => ?_)
                have h3 : (q : Int) < (ny : Int) := by have := Int.toNat_natCast ny; omega
                have r24 : zv Gy a 24 q = zv (zp_set Gy b22 (2000 + (8 * n0 + 6)) (ny : Int)) a 24 q := by
                  rw [zv_eq ya24, zv_eq x24]
                  exact (((zp_set_ne (Or.inl (zp_pne hq24 hq22 (by decide)))))).symm
                have r25 : zv Gy a 25 q = zv (zp_set Gy b22 (2000 + (8 * n0 + 6)) (ny : Int)) a 25 q := by
                  rw [zv_eq ya25, zv_eq x25]
                  exact (((zp_set_ne (Or.inl (zp_pne hq25 hq22 (by decide)))))).symm
                exact ⟨r24, r25⟩
              · rw [c0] at z2
                rw [c3, c4]
                have hcr := e7 (by omega)
                rw [ef23, en] at hcr
                refine zh_crc hcr (fun q h1 h2 => ?_)
                have h3 : (q : Int) < (ne : Int) := by have := Int.toNat_natCast ne; omega
                have r24 : zv Ge a 24 q = zv (zp_set Gy b22 (2000 + (8 * n0 + 6)) (ny : Int)) a 24 q := by
                  rw [zv_eq ea24, zv_eq x24]
                  exact (((zp_set_ne (Or.inl (zp_pne hq24 hq22 (by decide)))).trans ((yb24 q (by omega))))).symm
                have r25 : zv Ge a 25 q = zv (zp_set Gy b22 (2000 + (8 * n0 + 6)) (ny : Int)) a 25 q := by
                  rw [zv_eq ea25, zv_eq x25]
                  exact (((zp_set_ne (Or.inl (zp_pne hq25 hq22 (by decide)))).trans ((yb25 q (by omega))))).symm
                exact ⟨r24, r25⟩
            · have hc2 : (c : Int) < zp_n u.2.1 a 21 := by omega
              refine zl_keep (hok0 (by omega) c hc2) (fun j hj => y22 _ (by omega)) (by omega) (fun q hq => ⟨y24 q (by omega), y25 q (by omega)⟩)
          · omega
  have loop : ∀ (n k : Nat) (its : Int) (G : Nat → Nat → Int), 8 - k < n → k ≤ 8 → n0 < 12 → -1 ≤ its → its ≤ 4 → zs_tk a G → zp_n u.2.1 a 14 ≤ G a 14 → (G a 19 = 0 → zp_n u.2.1 a 19 = 0) → G a 21 = (n0 : Int) → G a 23 = (q0 : Int) → (∀ j, j < 8 * n0 → G b22 (2000 + j) = zp_n u.2.1 b22 (2000 + j)) → (∀ q, G b24 (2000 + q) = zp_n u.2.1 b24 (2000 + q)) → (∀ q, G b25 (2000 + q) = zp_n u.2.1 b25 (2000 + q)) → G a 22 = (b22 : Int) → G a 24 = (b24 : Int) → G a 25 = (b25 : Int) → zp_J p l e R s m args below meth c Q w u [] 75 [(3, 0, (k : Int)), (2, 0, (8 * (n0 : Int))), (1, 0, its), (0, 2, (a : Int))] [] u.1 G := by
    intro n
    induction n with
    | zero => intro k its G h; exact absurd h (Nat.not_lt_zero _)
    | succ n ih =>
      intro k its G hn hk hn12 hi1 hi4 gtk g14 g19 g21 g23 z22 z24 z25 g22 g24 g25
      refine zp_load (pc := 75) hx hb (zd_X12_readLaw (75, .iload_n 3, 1, 0, []) (List.mem_of_getElem? (i := 43) rfl)) rfl (j := 0) rfl ?_
      refine zp_const (pc := 76) hx hb (zd_X12_readLaw (76, .bipush 8, 2, 0, []) (List.mem_of_getElem? (i := 44) rfl)) rfl rfl ?_
      refine zp_icmp (pc := 78) (tgt := 96) hx hb (zd_X12_readLaw (78, .if_icmp .ge 18, 3, 0, []) (List.mem_of_getElem? (i := 45) rfl)) rfl (fun (hc163 : 8 ≤ (k : Int)) => ?_) (fun (hc163 : ¬ (8 ≤ (k : Int))) => ?_)
      · exact h96 (k : Int) its G hn12 hi1 hi4 gtk g14 g19 g21 g23 z22 z24 z25 g22 g24 g25
      · refine zp_load (pc := 81) hx hb (zd_X12_readLaw (81, .aload_n 0, 1, 0, []) (List.mem_of_getElem? (i := 46) rfl)) rfl (j := 3) rfl ?_
        refine zp_getf (n := (b22 : Int)) (pc := 82) hx hb hE hw (zd_X12_readLaw (82, .getfield 42, 3, 0, []) (List.mem_of_getElem? (i := 47) rfl)) (j := 40) rfl rfl rfl hp g22 ?_
        refine zp_load (pc := 85) hx hb (zd_X12_readLaw (85, .iload_n 2, 1, 0, []) (List.mem_of_getElem? (i := 48) rfl)) rfl (j := 1) rfl ?_
        refine zp_load (pc := 86) hx hb (zd_X12_readLaw (86, .iload_n 3, 1, 0, []) (List.mem_of_getElem? (i := 49) rfl)) rfl (j := 0) rfl ?_
        refine zp_add (n := (8 * (n0 : Int) + (k : Int))) (pc := 87) hx hb (zd_X12_readLaw (87, .iadd, 1, 0, []) (List.mem_of_getElem? (i := 50) rfl)) (by omega) (zp_r0 (by omega) (by omega)) ?_
        refine zp_const (pc := 88) hx hb (zd_X12_readLaw (88, .iconst 0, 1, 0, []) (List.mem_of_getElem? (i := 51) rfl)) rfl rfl ?_
        refine zp_iast (j := (8 * n0 + k)) (pc := 89) hx hb hw heff (zd_X12_readLaw (89, .iastore, 1, 0, []) (List.mem_of_getElem? (i := 52) rfl)) (show zp_ia 1 67 = some (96, 0, 0, (-2147483648), 2147483647) from rfl) hq22 (by omega) (by omega) (zp_o0 (by omega) (by omega) (by omega) (by omega)) rfl ?_
        refine zp_iinc (L' := [(3, 0, ((k : Int) + 1)), (2, 0, (8 * (n0 : Int))), (1, 0, its), (0, 2, (a : Int))]) (n := ((k : Int) + 1)) (pc := 90) hx hb hnL (zd_X12_readLaw (90, .iinc 3 1, 3, 0, []) (List.mem_of_getElem? (i := 53) rfl)) (j := 0) rfl (by omega) (zp_r0 (by omega) (by omega)) rfl rfl ?_
        refine zp_goto (tgt := 75) (pc := 93) hx hb (zd_X12_readLaw (93, .goto (-18), 3, 0, []) (List.mem_of_getElem? (i := 54) rfl)) rfl ?_
        refine ih (k + 1) its _ (by omega) (by omega) hn12 hi1 hi4 (zs_tk_congr gtk (zp_set_ne (Or.inl (zp_pne hp hq22 (by decide)))) (zp_set_ne (Or.inl (zp_pne hp hq22 (by decide)))) (zp_set_ne (Or.inl (zp_pne hp hq22 (by decide)))) (zp_set_ne (Or.inl (zp_pne hp hq22 (by decide))))) ?_ (fun z => g19 ?_) ((zp_set_ne (Or.inl (zp_pne hp hq22 (by decide)))).trans g21) ((zp_set_ne (Or.inl (zp_pne hp hq22 (by decide)))).trans g23) (fun j hj => ?_) (fun q => ?_) (fun q => ?_) ((zp_set_ne (Or.inl (zp_pne hp hq22 (by decide)))).trans g22) ((zp_set_ne (Or.inl (zp_pne hp hq22 (by decide)))).trans g24) ((zp_set_ne (Or.inl (zp_pne hp hq22 (by decide)))).trans g25)
        · rw [zp_set_ne (Or.inl (zp_pne hp hq22 (by decide)))]; exact g14
        · rw [← z, zp_set_ne (Or.inl (zp_pne hp hq22 (by decide)))]
        · exact (zp_set_ne (Or.inr (by omega))).trans (z22 j hj)
        · exact (zp_set_ne (Or.inl (zp_pne hq24 hq22 (by decide)))).trans (z24 q)
        · exact (zp_set_ne (Or.inl (zp_pne hq25 hq22 (by decide)))).trans (z25 q)
  have h34 : ∀ (k2 its : Int), -1 ≤ its → its ≤ 4 → zp_J p l e R s m args below meth c Q w u [] 34 [(2, 0, k2), (1, 0, its), (0, 2, (a : Int))] [] u.1 (zp_n u.2.1) := by
    intro k2 its hi1 hi4
    refine zp_load (pc := 34) hx hb (zd_X12_readLaw (34, .aload_n 0, 1, 0, []) (List.mem_of_getElem? (i := 20) rfl)) rfl (j := 2) rfl ?_
    refine zp_load (pc := 35) hx hb (zd_X12_readLaw (35, .iload_n 1, 1, 0, []) (List.mem_of_getElem? (i := 21) rfl)) rfl (j := 1) rfl ?_
    refine zp_const (pc := 36) hx hb (zd_X12_readLaw (36, .iconst (-1), 1, 0, []) (List.mem_of_getElem? (i := 22) rfl)) rfl rfl ?_
    refine zp_icmp (pc := 37) (tgt := 53) hx hb (zd_X12_readLaw (37, .if_icmp .eq 16, 3, 0, []) (List.mem_of_getElem? (i := 23) rfl)) rfl (fun (hc164 : its = (-1)) => ?_) (fun (hc164 : ¬ (its = (-1))) => ?_)
    · refine zp_const (pc := 53) hx hb (zd_X12_readLaw (53, .iconst 0, 1, 0, []) (List.mem_of_getElem? (i := 30) rfl)) rfl rfl ?_
      refine zp_call (pc := 54) (how := 0) (idx := 275) (mi := 217) (S := []) hx hb hE hw heff hrm (zX_mu hW) rfl (j := 19) rfl rfl (by decide +kernel) (zd_X12_readLaw (54, .invokevirtual 275, 3, 0, []) (List.mem_of_getElem? (i := 31) rfl)) [(a : Int), 0] rfl ⟨zp_o2 hp, zp_o0 (by decide) (by decide) (by decide) (by decide), trivial⟩ (Nat.le_of_ble_eq_true rfl) htk (fun al hal rnm Pm Gm hextm hfrm hokm hcsm hpsim => ?_)
      obtain rfl := List.mem_singleton.mp hal
      obtain ⟨rfl, htm, hmm⟩ := hpsim
      have htm : zs_tk a Gm := htm
      have hmm : zs_mu a 0 (zp_n u.2.1) Gm := hmm
      have m21 : Gm a 21 = (n0 : Int) := ((zp_nf hfrm hp rfl).trans hn0)
      have m22 : Gm a 22 = (b22 : Int) := ((zp_nf hfrm hp rfl).trans hb22)
      have m23 : Gm a 23 = (q0 : Int) := ((zp_nf hfrm hp rfl).trans hq0)
      have m24 : Gm a 24 = (b24 : Int) := ((zp_nf hfrm hp rfl).trans hb24)
      have m25 : Gm a 25 = (b25 : Int) := ((zp_nf hfrm hp rfl).trans hb25)
      refine zp_load (pc := 57) hx hb (zd_X12_readLaw (57, .aload_n 0, 1, 0, []) (List.mem_of_getElem? (i := 32) rfl)) rfl (j := 2) rfl ?_
      refine zp_getf (n := (Gm a 19)) (pc := 58) hx hb hE hw (zd_X12_readLaw (58, .getfield 240, 3, 0, []) (List.mem_of_getElem? (i := 33) rfl)) (j := 37) rfl rfl rfl hp rfl ?_
      refine zp_if (pc := 61) (tgt := 65) hx hb (zd_X12_readLaw (61, .ifCond .eq 4, 3, 0, []) (List.mem_of_getElem? (i := 34) rfl)) rfl (fun (hc165 : (Gm a 19) = 0) => ?_) (fun (hc165 : ¬ ((Gm a 19) = 0)) => ?_)
      · exfalso
        unfold zs_mu at hmm
        omega
      · refine zp_vret (pc := 64) hx hb hE hQ hU5 rfl (by decide) (zd_X12_readLaw (64, .return_, 1, 0, []) (List.mem_of_getElem? (i := 35) rfl)) (j := 0) rfl ?_
        rw [hps]
        refine ⟨rfl, ?_⟩
        show zl_in a Gm ∧ zp_n u.2.1 a 14 ≤ Gm a 14 ∧ (Gm a 19 = 0 → zp_n u.2.1 a 19 = 0)
        unfold zs_mu at hmm
        exact ⟨⟨htm, by omega, by omega, by omega, by omega, fun z => by omega⟩, by omega, fun z => by omega⟩
    · refine zp_load (pc := 40) hx hb (zd_X12_readLaw (40, .aload_n 0, 1, 0, []) (List.mem_of_getElem? (i := 24) rfl)) rfl (j := 2) rfl ?_
      refine zp_getf (n := (n0 : Int)) (pc := 41) hx hb hE hw (zd_X12_readLaw (41, .getfield 371, 3, 0, []) (List.mem_of_getElem? (i := 25) rfl)) (j := 39) rfl rfl rfl hp hn0 ?_
      refine zp_const (pc := 44) hx hb (zd_X12_readLaw (44, .bipush 12, 2, 0, []) (List.mem_of_getElem? (i := 26) rfl)) rfl rfl ?_
      refine zp_icmp (pc := 46) (tgt := 53) hx hb (zd_X12_readLaw (46, .if_icmp .ge 7, 3, 0, []) (List.mem_of_getElem? (i := 27) rfl)) rfl (fun (hc166 : 12 ≤ (n0 : Int)) => ?_) (fun (hc166 : ¬ (12 ≤ (n0 : Int))) => ?_)
      · refine zp_const (pc := 53) hx hb (zd_X12_readLaw (53, .iconst 0, 1, 0, []) (List.mem_of_getElem? (i := 30) rfl)) rfl rfl ?_
        refine zp_call (pc := 54) (how := 0) (idx := 275) (mi := 217) (S := []) hx hb hE hw heff hrm (zX_mu hW) rfl (j := 19) rfl rfl (by decide +kernel) (zd_X12_readLaw (54, .invokevirtual 275, 3, 0, []) (List.mem_of_getElem? (i := 31) rfl)) [(a : Int), 0] rfl ⟨zp_o2 hp, zp_o0 (by decide) (by decide) (by decide) (by decide), trivial⟩ (Nat.le_of_ble_eq_true rfl) htk (fun al hal rnm Pm Gm hextm hfrm hokm hcsm hpsim => ?_)
        obtain rfl := List.mem_singleton.mp hal
        obtain ⟨rfl, htm, hmm⟩ := hpsim
        have htm : zs_tk a Gm := htm
        have hmm : zs_mu a 0 (zp_n u.2.1) Gm := hmm
        have m21 : Gm a 21 = (n0 : Int) := ((zp_nf hfrm hp rfl).trans hn0)
        have m22 : Gm a 22 = (b22 : Int) := ((zp_nf hfrm hp rfl).trans hb22)
        have m23 : Gm a 23 = (q0 : Int) := ((zp_nf hfrm hp rfl).trans hq0)
        have m24 : Gm a 24 = (b24 : Int) := ((zp_nf hfrm hp rfl).trans hb24)
        have m25 : Gm a 25 = (b25 : Int) := ((zp_nf hfrm hp rfl).trans hb25)
        refine zp_load (pc := 57) hx hb (zd_X12_readLaw (57, .aload_n 0, 1, 0, []) (List.mem_of_getElem? (i := 32) rfl)) rfl (j := 2) rfl ?_
        refine zp_getf (n := (Gm a 19)) (pc := 58) hx hb hE hw (zd_X12_readLaw (58, .getfield 240, 3, 0, []) (List.mem_of_getElem? (i := 33) rfl)) (j := 37) rfl rfl rfl hp rfl ?_
        refine zp_if (pc := 61) (tgt := 65) hx hb (zd_X12_readLaw (61, .ifCond .eq 4, 3, 0, []) (List.mem_of_getElem? (i := 34) rfl)) rfl (fun (hc167 : (Gm a 19) = 0) => ?_) (fun (hc167 : ¬ ((Gm a 19) = 0)) => ?_)
        · exfalso
          unfold zs_mu at hmm
          omega
        · refine zp_vret (pc := 64) hx hb hE hQ hU5 rfl (by decide) (zd_X12_readLaw (64, .return_, 1, 0, []) (List.mem_of_getElem? (i := 35) rfl)) (j := 0) rfl ?_
          rw [hps]
          refine ⟨rfl, ?_⟩
          show zl_in a Gm ∧ zp_n u.2.1 a 14 ≤ Gm a 14 ∧ (Gm a 19 = 0 → zp_n u.2.1 a 19 = 0)
          unfold zs_mu at hmm
          exact ⟨⟨htm, by omega, by omega, by omega, by omega, fun z => by omega⟩, by omega, fun z => by omega⟩
      · refine zp_const (pc := 49) hx hb (zd_X12_readLaw (49, .iconst 1, 1, 0, []) (List.mem_of_getElem? (i := 28) rfl)) rfl rfl ?_
        refine zp_goto (tgt := 54) (pc := 50) hx hb (zd_X12_readLaw (50, .goto 4, 3, 0, []) (List.mem_of_getElem? (i := 29) rfl)) rfl ?_
        refine zp_call (pc := 54) (how := 0) (idx := 275) (mi := 217) (S := []) hx hb hE hw heff hrm (zX_mu hW) rfl (j := 19) rfl rfl (by decide +kernel) (zd_X12_readLaw (54, .invokevirtual 275, 3, 0, []) (List.mem_of_getElem? (i := 31) rfl)) [(a : Int), 1] rfl ⟨zp_o2 hp, zp_o0 (by decide) (by decide) (by decide) (by decide), trivial⟩ (Nat.le_of_ble_eq_true rfl) htk (fun al hal rnm Pm Gm hextm hfrm hokm hcsm hpsim => ?_)
        obtain rfl := List.mem_singleton.mp hal
        obtain ⟨rfl, htm, hmm⟩ := hpsim
        have htm : zs_tk a Gm := htm
        have hmm : zs_mu a 1 (zp_n u.2.1) Gm := hmm
        have m21 : Gm a 21 = (n0 : Int) := ((zp_nf hfrm hp rfl).trans hn0)
        have m22 : Gm a 22 = (b22 : Int) := ((zp_nf hfrm hp rfl).trans hb22)
        have m23 : Gm a 23 = (q0 : Int) := ((zp_nf hfrm hp rfl).trans hq0)
        have m24 : Gm a 24 = (b24 : Int) := ((zp_nf hfrm hp rfl).trans hb24)
        have m25 : Gm a 25 = (b25 : Int) := ((zp_nf hfrm hp rfl).trans hb25)
        refine zp_load (pc := 57) hx hb (zd_X12_readLaw (57, .aload_n 0, 1, 0, []) (List.mem_of_getElem? (i := 32) rfl)) rfl (j := 2) rfl ?_
        refine zp_getf (n := (Gm a 19)) (pc := 58) hx hb hE hw (zd_X12_readLaw (58, .getfield 240, 3, 0, []) (List.mem_of_getElem? (i := 33) rfl)) (j := 37) rfl rfl rfl hp rfl ?_
        refine zp_if (pc := 61) (tgt := 65) hx hb (zd_X12_readLaw (61, .ifCond .eq 4, 3, 0, []) (List.mem_of_getElem? (i := 34) rfl)) rfl (fun (hc168 : (Gm a 19) = 0) => ?_) (fun (hc168 : ¬ ((Gm a 19) = 0)) => ?_)
        · have hmb : Gm a 19 = 0 ∧ zp_n u.2.1 a 19 = 0 ∧ zp_n u.2.1 a 15 ≤ Gm a 14 := by unfold zs_mu at hmm; omega
          refine zp_const (pc := 65) hx hb (zd_X12_readLaw (65, .bipush 8, 2, 0, []) (List.mem_of_getElem? (i := 36) rfl)) rfl rfl ?_
          refine zp_load (pc := 67) hx hb (zd_X12_readLaw (67, .aload_n 0, 1, 0, []) (List.mem_of_getElem? (i := 37) rfl)) rfl (j := 2) rfl ?_
          refine zp_getf (n := (n0 : Int)) (pc := 68) hx hb hE hw (zd_X12_readLaw (68, .getfield 371, 3, 0, []) (List.mem_of_getElem? (i := 38) rfl)) (j := 39) rfl rfl rfl hp m21 ?_
          refine zp_mul (n := (8 * (n0 : Int))) (pc := 71) hx hb (zd_X12_readLaw (71, .imul, 1, 0, []) (List.mem_of_getElem? (i := 39) rfl)) (by omega) (zp_r0 (by omega) (by omega)) ?_
          refine zp_store (L' := [(2, 0, (8 * (n0 : Int))), (1, 0, its), (0, 2, (a : Int))]) (pc := 72) hx hb hnL (zd_X12_readLaw (72, .istore_n 2, 1, 0, []) (List.mem_of_getElem? (i := 40) rfl)) rfl rfl rfl ?_
          refine zp_const (pc := 73) hx hb (zd_X12_readLaw (73, .iconst 0, 1, 0, []) (List.mem_of_getElem? (i := 41) rfl)) rfl rfl ?_
          refine zp_store (L' := [(3, 0, 0), (2, 0, (8 * (n0 : Int))), (1, 0, its), (0, 2, (a : Int))]) (pc := 74) hx hb hnL (zd_X12_readLaw (74, .istore_n 3, 1, 0, []) (List.mem_of_getElem? (i := 42) rfl)) rfl rfl rfl ?_
          exact loop 9 0 its Gm (by omega) (by omega) (by omega) hi1 hi4 htm (by omega) (fun _ => hmb.2.1) m21 m23 (fun j _ => zp_nc hfrm hq22 rfl _) (fun q => zp_nc hfrm hq24 rfl _) (fun q => zp_nc hfrm hq25 rfl _) m22 m24 m25
        · refine zp_vret (pc := 64) hx hb hE hQ hU5 rfl (by decide) (zd_X12_readLaw (64, .return_, 1, 0, []) (List.mem_of_getElem? (i := 35) rfl)) (j := 0) rfl ?_
          rw [hps]
          refine ⟨rfl, ?_⟩
          show zl_in a Gm ∧ zp_n u.2.1 a 14 ≤ Gm a 14 ∧ (Gm a 19 = 0 → zp_n u.2.1 a 19 = 0)
          unfold zs_mu at hmm
          exact ⟨⟨htm, by omega, by omega, by omega, by omega, fun z => by omega⟩, by omega, fun z => by omega⟩
  have lw : ∀ (n k : Nat) (its : Int), 5 - k < n → k ≤ 5 → -1 ≤ its → its ≤ 4 → zp_J p l e R s m args below meth c Q w u [] 4 [(2, 0, (k : Int)), (1, 0, its), (0, 2, (a : Int))] [] u.1 (zp_n u.2.1) := by
    intro n
    induction n with
    | zero => intro k its h; exact absurd h (Nat.not_lt_zero _)
    | succ n ih =>
      intro k its hn hk hi1 hi4
      refine zp_load (pc := 4) hx hb (zd_X12_readLaw (4, .iload_n 2, 1, 0, []) (List.mem_of_getElem? (i := 4) rfl)) rfl (j := 0) rfl ?_
      refine zp_const (pc := 5) hx hb (zd_X12_readLaw (5, .iconst 5, 1, 0, []) (List.mem_of_getElem? (i := 5) rfl)) rfl rfl ?_
      refine zp_icmp (pc := 6) (tgt := 34) hx hb (zd_X12_readLaw (6, .if_icmp .ge 28, 3, 0, []) (List.mem_of_getElem? (i := 6) rfl)) rfl (fun (hge : 5 ≤ (k : Int)) => ?_) (fun (hge : ¬ (5 ≤ (k : Int))) => ?_)
      · exact h34 (k : Int) its hi1 hi4
      · refine zp_load (pc := 9) hx hb (zd_X12_readLaw (9, .aload_n 0, 1, 0, []) (List.mem_of_getElem? (i := 7) rfl)) rfl (j := 2) rfl ?_
        refine zp_load (pc := 10) hx hb (zd_X12_readLaw (10, .aload_n 0, 1, 0, []) (List.mem_of_getElem? (i := 8) rfl)) rfl (j := 2) rfl ?_
        refine zp_getf (n := (b33 : Int)) (pc := 11) hx hb hE hw (zd_X12_readLaw (11, .getfield 98, 3, 0, []) (List.mem_of_getElem? (i := 9) rfl)) (j := 51) rfl rfl rfl hp hb33 ?_
        refine zp_load (pc := 14) hx hb (zd_X12_readLaw (14, .iload_n 2, 1, 0, []) (List.mem_of_getElem? (i := 10) rfl)) rfl (j := 0) rfl ?_
        refine zp_lald (j := k) (v := ((zp_n u.2.1) b33 (2000 + k))) (pc := 15) hx hb hw (zd_X12_readLaw (15, .laload, 1, 0, []) (List.mem_of_getElem? (i := 11) rfl)) (show zp_ia 2 74 = some (5, 1, 0, (-9223372036854775808), 9223372036854775807) from rfl) hq33 (by omega) (by omega) rfl ?_
        refine zp_sk (k := 1) (j := 0) rfl (fun hlw => ?_)
        refine zp_call (pc := 16) (how := 0) (idx := 300) (mi := 216) (S := []) hx hb hE hw heff hrm (zX_wo hW) rfl (j := 18) rfl rfl (by decide +kernel) (zd_X12_readLaw (16, .invokevirtual 300, 3, 0, []) (List.mem_of_getElem? (i := 12) rfl)) [(a : Int), ((zp_n u.2.1) b33 (2000 + k))] rfl ⟨zp_o2 hp, zp_o1 (by assumption), trivial⟩ (Nat.le_of_ble_eq_true rfl) trivial (fun al hal rnw Pw Gw hextw hfrw hokw hcsw hpsiw => ?_)
        obtain rfl := List.mem_singleton.mp hal
        have hrw := zp_int (hokw _ rfl).1
        obtain ⟨hPew, hGew, htw⟩ := hpsiw
        rw [hPew, hGew]
        refine zp_if (pc := 19) (tgt := 26) hx hb (zd_X12_readLaw (19, .ifCond .eq 7, 3, 0, []) (List.mem_of_getElem? (i := 13) rfl)) rfl (fun (hc170 : rnw = 0) => ?_) (fun (hc170 : ¬ (rnw = 0)) => ?_)
        · refine zp_load (pc := 26) hx hb (zd_X12_readLaw (26, .iload_n 1, 1, 0, []) (List.mem_of_getElem? (i := 16) rfl)) rfl (j := 1) rfl ?_
          refine zp_store (L' := [(1, 0, its), (2, 0, (k : Int)), (0, 2, (a : Int))]) (pc := 27) hx hb hnL (zd_X12_readLaw (27, .istore_n 1, 1, 0, []) (List.mem_of_getElem? (i := 17) rfl)) rfl rfl rfl ?_
          refine zp_iinc (L' := [(2, 0, ((k : Int) + 1)), (1, 0, its), (0, 2, (a : Int))]) (n := ((k : Int) + 1)) (pc := 28) hx hb hnL (zd_X12_readLaw (28, .iinc 2 1, 3, 0, []) (List.mem_of_getElem? (i := 18) rfl)) (j := 1) rfl (by omega) (zp_r0 (by omega) (by omega)) rfl rfl ?_
          refine zp_goto (tgt := 4) (pc := 31) hx hb (zd_X12_readLaw (31, .goto (-27), 3, 0, []) (List.mem_of_getElem? (i := 19) rfl)) rfl ?_
          exact ih (k + 1) its (by omega) (by omega) (by omega) (by omega)
        · refine zp_load (pc := 22) hx hb (zd_X12_readLaw (22, .iload_n 2, 1, 0, []) (List.mem_of_getElem? (i := 14) rfl)) rfl (j := 0) rfl ?_
          refine zp_goto (tgt := 27) (pc := 23) hx hb (zd_X12_readLaw (23, .goto 4, 3, 0, []) (List.mem_of_getElem? (i := 15) rfl)) rfl ?_
          refine zp_store (L' := [(1, 0, (k : Int)), (2, 0, (k : Int)), (0, 2, (a : Int))]) (pc := 27) hx hb hnL (zd_X12_readLaw (27, .istore_n 1, 1, 0, []) (List.mem_of_getElem? (i := 17) rfl)) rfl rfl rfl ?_
          refine zp_iinc (L' := [(2, 0, ((k : Int) + 1)), (1, 0, (k : Int)), (0, 2, (a : Int))]) (n := ((k : Int) + 1)) (pc := 28) hx hb hnL (zd_X12_readLaw (28, .iinc 2 1, 3, 0, []) (List.mem_of_getElem? (i := 18) rfl)) (j := 1) rfl (by omega) (zp_r0 (by omega) (by omega)) rfl rfl ?_
          refine zp_goto (tgt := 4) (pc := 31) hx hb (zd_X12_readLaw (31, .goto (-27), 3, 0, []) (List.mem_of_getElem? (i := 19) rfl)) rfl ?_
          exact ih (k + 1) (k : Int) (by omega) (by omega) (by omega) (by omega)
  refine zp_const (pc := 0) hx hb (zd_X12_readLaw (0, .iconst (-1), 1, 0, []) (List.mem_of_getElem? (i := 0) rfl)) rfl rfl ?_
  refine zp_store (L' := [(1, 0, (-1)), (0, 2, (a : Int))]) (pc := 1) hx hb hnL (zd_X12_readLaw (1, .istore_n 1, 1, 0, []) (List.mem_of_getElem? (i := 1) rfl)) rfl rfl rfl ?_
  refine zp_const (pc := 2) hx hb (zd_X12_readLaw (2, .iconst 0, 1, 0, []) (List.mem_of_getElem? (i := 2) rfl)) rfl rfl ?_
  refine zp_store (L' := [(2, 0, 0), (1, 0, (-1)), (0, 2, (a : Int))]) (pc := 3) hx hb hnL (zd_X12_readLaw (3, .istore_n 2, 1, 0, []) (List.mem_of_getElem? (i := 3) rfl)) rfl rfl rfl ?_
  exact lw 6 0 (-1) (by omega) (by omega) (by decide) (by decide)
