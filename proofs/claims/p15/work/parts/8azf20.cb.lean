/-! part cb: the reference: orders, its text exactly -/
/-- what comes of the text of orders -/
def zDoq (a : Nat) (G : Nat → Nat → Int) (B : Nat → Int) (ln : Nat) (rn : Int) : Prop := G a 13 = 0 ∧ 0 ≤ G a 30 ∧ ∃ s, yT (zy_so B ln) (zy_wo B ln) (zy_to B ln) (yt_co (zy_so B ln) (zy_wo B ln) (zy_to B ln) (ylf true B ln)) 12 0 0 s ∧ ((∃ q, s = Sum.inl q ∧ rn = -6 ∧ G a 18 = (zy_fr B ln q : Int)) ∨ ∃ L : List yK, s = Sum.inr L ∧ G a 18 = -1)
/-- the text was read -/
def zQ3 (a : Nat) (G : Nat → Nat → Int) (B : Nat → Int) (ln : Nat) : Prop := (G a 13 = 0 ∧ 0 ≤ G a 30 ∧ G a 18 = -1) ∧ ∃ L : List yK, yT (zy_so B ln) (zy_wo B ln) (zy_to B ln) (yt_co (zy_so B ln) (zy_wo B ln) (zy_to B ln) (ylf true B ln)) 12 0 0 (Sum.inr L)
theorem zQ3_end {a : Nat} {G : Nat → Nat → Int} {B : Nat → Int} {ln : Nat} {rn : Int} (h : zQ3 a G B ln) : zDoq a G B ln rn := by
  obtain ⟨⟨h1, h2, h3⟩, L, hL⟩ := h
  exact ⟨h1, h2, _, hL, Or.inr ⟨L, rfl, h3⟩⟩
theorem zQ3_fr {P : Nat → Option Nat} {a : Nat} {G G' : Nat → Nat → Int} {B : Nat → Int} {ln : Nat} {eff : List (Nat × Nat × Nat)} {ps : List Int} (h : zQ3 a G B ln) (hp : P a = some 92) (hfr : zp_fr eff ps P G G') (he : (zp_nfb eff 92 13 && (zp_nfb eff 92 30 && zp_nfb eff 92 18)) = true) : zQ3 a G' B ln := by
  simp only [Bool.and_eq_true] at he
  obtain ⟨e1, e2, e3⟩ := he
  obtain ⟨⟨h1, h2, h3⟩, hL⟩ := h
  exact ⟨⟨(zp_nf hfr hp e1).trans h1, by rw [zp_nf hfr hp e2]; exact h2, (zp_nf hfr hp e3).trans h3⟩, hL⟩
theorem zQ3_s {a b k : Nat} {v : Int} {G : Nat → Nat → Int} {B : Nat → Int} {ln : Nat} (h : zQ3 a G B ln) (hk : a ≠ b ∨ (k ≠ 13 ∧ k ≠ 30 ∧ k ≠ 18)) : zQ3 a (zp_set G b k v) B ln := by
  have hs : ∀ j, j = 13 ∨ j = 30 ∨ j = 18 → zp_set G b k v a j = G a j := fun j hj => by
    rcases hk with hk | hk
    · exact zp_set_ne (Or.inl hk)
    · exact zp_set_ne (Or.inr (by omega))
  obtain ⟨⟨h1, h2, h3⟩, hL⟩ := h
  exact ⟨⟨(hs 13 (Or.inl rfl)).trans h1, by rw [hs 30 (Or.inr (Or.inl rfl))]; exact h2, (hs 18 (Or.inr (Or.inr rfl))).trans h3⟩, hL⟩
/-- what the run of a clause asks -/
theorem zOc_pr {a c N : Nat} {G : Nat → Nat → Int} {K : yK} (h : zOc (zv G a 56) (zv G a 24) (zv G a 25) N c K) (hN : G a 23 = (N : Int)) : zo_pr a G (8 * c + 1) ∧ zo_pr a G (8 * c + 3) ∧ zo_pr a G (8 * c + 5) ∧ zv G a 56 (8 * c + 7) ≤ 20 := by
  obtain ⟨h1, h2, h3, h4, h5⟩ := h
  have hp : ∀ {i : Nat} {x : yD}, zLp (zv G a 24) (zv G a 25) N (zv G a 56 i) (zv G a 56 (i + 1)) x → zo_pr a G i := fun {i x} hl => by
    obtain ⟨g1, g2, g3, g4⟩ := zLp_r hl
    exact ⟨g1, by omega, by omega, by omega, fun _ _ => g4⟩
  have hz : ∀ {i : Nat}, zv G a 56 i = zv G a 56 (i + 1) → 0 ≤ zv G a 56 i → zv G a 56 i ≤ (N : Int) → zo_pr a G i := fun {i} e g1 g2 => ⟨g1, by omega, by omega, by omega, fun _ z => by omega⟩
  refine ⟨?_, ?_, ?_, by omega⟩
  · rcases h2 with ⟨-, -, z1, z2⟩ | ⟨x, -, -, z⟩
    · exact hz (z1.trans z2.symm) (by omega) (by omega)
    · exact hp z
  · rcases h3 with ⟨-, -, z1, z2⟩ | ⟨x, -, -, z⟩
    · exact hz (z1.trans z2.symm) (by omega) (by omega)
    · exact hp z
  · rcases h5 with ⟨-, z1, z2, z3⟩ | ⟨x, -, z, -⟩
    · exact hz z1 z2 z3
    · exact hp z
def zφD_oq (B : Nat → Int) (ln : Nat) : (Nat → Option Nat) → (Nat → Nat → Int) → List Int → Prop := fun P G ps => G (zp_0 ps) 13 = (ln : Int) ∧ ln ≤ 400 ∧ (∀ j, zv G (zp_0 ps) 12 j = B j) ∧ (∀ j, 0 ≤ B j ∧ B j ≤ 255) ∧ 0 ≤ G (zp_0 ps) 30 ∧ zDw P false (zp_0 ps) G ∧ zDt P (zp_0 ps) G
def zψD_oq (B : Nat → Int) (ln : Nat) : (Nat → Option Nat) → (Nat → Nat → Int) → List Int → (Nat → Option Nat) → (Nat → Nat → Int) → Int → Prop := fun P G ps P' G' rn => G' (zp_0 ps) 20 = 0 ∧ zDoq (zp_0 ps) G' B ln rn
set_option maxHeartbeats 8000000 in
theorem zY_oq {l : Launch} {w : zk_W} (hW : zh_W w) (B : Nat → Int) (ln : Nat) : zk_metX l w zt_dv zt_TB zK_or (zp_A (zφD_oq B ln)) (zp_B (zψD_oq B ln)) ∧ zk_cok w zt_TB zK_or := by
  refine zp_meth hW (pl := 2003) rfl (by decide +kernel) (fun p e R s m args below meth c Q u hx hb hE hQ hU5 heff hnL hok hφ => ?_)
  have hw := hW.1
  obtain ⟨p0, hps, k0⟩ := zp_ps1 hok
  obtain ⟨a, rfl, hp⟩ := zp_this k0
  have hrm : zk_Kr (zk_ev (zp_E zK_or)) = zk_Kr zK_or := rfl
  rw [hps] at hφ ⊢
  have hφ : (zp_n u.2.1) a 13 = (ln : Int) ∧ ln ≤ 400 ∧ (∀ j, zv (zp_n u.2.1) a 12 j = B j) ∧ (∀ j, 0 ≤ B j ∧ B j ≤ 255) ∧ 0 ≤ (zp_n u.2.1) a 30 ∧ zDw u.1 false a (zp_n u.2.1) ∧ zDt u.1 a (zp_n u.2.1) := hφ
  obtain ⟨h13, hl4, h12, hB, h30, hw0, hT0⟩ := hφ
  have h20 : zp_n u.2.1 a 20 = 0 := hw0.1
  show zp_J p l e R s m args below meth c Q w u [] 0 [(0, 2, (a : Int))] [] u.1 (zp_n u.2.1)
  refine zp_kn (k := 6) (a := a) hw (show zp_fd 92 6 = some (12, 2, 62, 0, 0) from rfl) rfl hp (fun hk6 => ?_)
  obtain ⟨b6, hb6, hq6⟩ := zp_this hk6
  refine zp_kn (k := 7) (a := a) hw (show zp_fd 92 7 = some (12, 2, 63, 0, 0) from rfl) rfl hp (fun hk7 => ?_)
  obtain ⟨b7, hb7, hq7⟩ := zp_this hk7
  refine zp_kn (k := 9) (a := a) hw (show zp_fd 92 9 = some (12, 2, 64, 0, 0) from rfl) rfl hp (fun hk9 => ?_)
  obtain ⟨b9, hb9, hq9⟩ := zp_this hk9
  refine zp_kn (k := 10) (a := a) hw (show zp_fd 92 10 = some (12, 2, 65, 0, 0) from rfl) rfl hp (fun hk10 => ?_)
  obtain ⟨b10, hb10, hq10⟩ := zp_this hk10
  refine zp_kn (k := 24) (a := a) hw (show zp_fd 92 24 = some (12, 2, 68, 0, 0) from rfl) rfl hp (fun hk24 => ?_)
  obtain ⟨b24, hb24, hq24⟩ := zp_this hk24
  refine zp_kn (k := 25) (a := a) hw (show zp_fd 92 25 = some (12, 2, 69, 0, 0) from rfl) rfl hp (fun hk25 => ?_)
  obtain ⟨b25, hb25, hq25⟩ := zp_this hk25
  refine zp_kn (k := 56) (a := a) hw (show zp_fd 92 56 = some (12, 2, 90, 0, 0) from rfl) rfl hp (fun hk56 => ?_)
  obtain ⟨b56, hb56, hq56⟩ := zp_this hk56
  have runs : ∀ (n i nu ncl : Nat) (P : Nat → Option Nat) (G : Nat → Nat → Int), ncl - i < n → i ≤ ncl → nu ≤ 16 → zo_or a b24 b25 b56 ncl P G → zQ3 a G B ln → 0 ≤ G a 57 → G a 57 ≤ 20 * (i : Int) → zp_J p l e R s m args below meth c Q w u [] 140 [(2, 0, (i : Int)), (1, 0, (nu : Int)), (0, 2, (a : Int))] [] P G := by
    intro n
    induction n with
    | zero => intro i nu ncl P G h; exact absurd h (Nat.not_lt_zero _)
    | succ n ih =>
      intro i nu ncl P G hn hi hnu hor h13 hd0 hd1
      have inner : ∀ (k : Nat) (kk : Nat) (P : Nat → Option Nat) (G : Nat → Nat → Int), i < ncl → (zv G a 56 (8 * i + 7) - (kk : Int)).toNat < k → zo_or a b24 b25 b56 ncl P G → zQ3 a G B ln → 0 ≤ G a 57 → G a 57 ≤ 20 * (i : Int) + (kk : Int) → kk ≤ 20 → zp_J p l e R s m args below meth c Q w u [] 150 [(3, 0, (kk : Int)), (2, 0, (i : Int)), (1, 0, (nu : Int)), (0, 2, (a : Int))] [] P G := by
        intro k
        induction k with
        | zero => intro kk P G h1 h; exact absurd h (Nat.not_lt_zero _)
        | succ k ihk =>
          intro kk P G hin hk hor h13 hd0 hd1 hd2
          have hor1 := hor
          obtain ⟨r0, r1, r2, r3, e24, e25, e56, e20, e19, e21, hncl, hprs⟩ := hor1
          have hct := (hprs i hin).2.2.2
          have hv7 : zv G a 56 (8 * i + 7) = G b56 (2000 + (8 * i + 7)) := zv_eq e56 _
          rw [hv7] at hk hct
          refine zp_load (pc := 150) hx hb (zd_X12_orders (150, .iload_n 3, 1, 0, []) (List.mem_of_getElem? (i := 82) rfl)) rfl (j := 0) rfl ?_
          refine zp_load (pc := 151) hx hb (zd_X12_orders (151, .aload_n 0, 1, 0, []) (List.mem_of_getElem? (i := 83) rfl)) rfl (j := 3) rfl ?_
          refine zp_getf (n := (b56 : Int)) (pc := 152) hx hb hE hw (zd_X12_orders (152, .getfield 149, 3, 0, []) (List.mem_of_getElem? (i := 84) rfl)) (j := 74) rfl rfl rfl r0 e56 ?_
          refine zp_const (pc := 155) hx hb (zd_X12_orders (155, .bipush 8, 2, 0, []) (List.mem_of_getElem? (i := 85) rfl)) rfl rfl ?_
          refine zp_load (pc := 157) hx hb (zd_X12_orders (157, .iload_n 2, 1, 0, []) (List.mem_of_getElem? (i := 86) rfl)) rfl (j := 1) rfl ?_
          refine zp_mul (n := (8 * (i : Int))) (pc := 158) hx hb (zd_X12_orders (158, .imul, 1, 0, []) (List.mem_of_getElem? (i := 87) rfl)) (by omega) (zp_r0 (by omega) (by omega)) ?_
          refine zp_const (pc := 159) hx hb (zd_X12_orders (159, .bipush 7, 2, 0, []) (List.mem_of_getElem? (i := 88) rfl)) rfl rfl ?_
          refine zp_add (n := (8 * (i : Int) + 7)) (pc := 161) hx hb (zd_X12_orders (161, .iadd, 1, 0, []) (List.mem_of_getElem? (i := 89) rfl)) (by omega) (zp_r0 (by omega) (by omega)) ?_
          refine zp_iald (j := (8 * i + 7)) (v := (G b56 (2000 + (8 * i + 7)))) (pc := 162) hx hb hw (zd_X12_orders (162, .iaload, 1, 0, []) (List.mem_of_getElem? (i := 90) rfl)) (show zp_ia 1 90 = some (96, 0, 0, (-2147483648), 2147483647) from rfl) r3 (by omega) (by omega) rfl (fun hk215 => ?_)
          have hk215b := zp_int hk215
          refine zp_icmp (pc := 163) (tgt := 200) hx hb (zd_X12_orders (163, .if_icmp .ge 37, 3, 0, []) (List.mem_of_getElem? (i := 91) rfl)) rfl (fun (hcq216 : (G b56 (2000 + (8 * i + 7))) ≤ (kk : Int)) => ?_) (fun (hcq216 : ¬ ((G b56 (2000 + (8 * i + 7))) ≤ (kk : Int))) => ?_)
          · refine zp_iinc (L' := [(2, 0, ((i : Int) + 1)), (3, 0, (kk : Int)), (1, 0, (nu : Int)), (0, 2, (a : Int))]) (n := ((i : Int) + 1)) (pc := 200) hx hb hnL (zd_X12_orders (200, .iinc 2 1, 3, 0, []) (List.mem_of_getElem? (i := 110) rfl)) (j := 1) rfl (by omega) (zp_r0 (by omega) (by omega)) rfl rfl ?_
            refine zp_goto (tgt := 140) (pc := 203) hx hb (zd_X12_orders (203, .goto (-63), 3, 0, []) (List.mem_of_getElem? (i := 111) rfl)) rfl ?_
            refine zp_drop (L' := [(2, 0, ((i : Int) + 1)), (1, 0, (nu : Int)), (0, 2, (a : Int))]) (by simp) ?_
            exact ih (i + 1) nu ncl P G (by omega) (by omega) hnu hor h13 hd0 (by omega)
          · refine zp_load (pc := 166) hx hb (zd_X12_orders (166, .aload_n 0, 1, 0, []) (List.mem_of_getElem? (i := 92) rfl)) rfl (j := 3) rfl ?_
            refine zp_const (pc := 167) hx hb (zd_X12_orders (167, .bipush 8, 2, 0, []) (List.mem_of_getElem? (i := 93) rfl)) rfl rfl ?_
            refine zp_load (pc := 169) hx hb (zd_X12_orders (169, .iload_n 2, 1, 0, []) (List.mem_of_getElem? (i := 94) rfl)) rfl (j := 1) rfl ?_
            refine zp_mul (n := (8 * (i : Int))) (pc := 170) hx hb (zd_X12_orders (170, .imul, 1, 0, []) (List.mem_of_getElem? (i := 95) rfl)) (by omega) (zp_r0 (by omega) (by omega)) ?_
            have hca : (8 * (i : Int)).toNat = 8 * i := by omega
            refine zp_call (pc := 171) (how := 0) (idx := 552) (mi := 290) (S := []) hx hb hE hw heff hrm (zX_ro1 hW) rfl (j := 71) rfl rfl (by decide +kernel) (zd_X12_orders (171, .invokevirtual 552, 3, 0, []) (List.mem_of_getElem? (i := 96) rfl)) [(a : Int), (8 * (i : Int))] rfl ⟨zp_o2 r0, zp_o0 (by omega) (by omega) (by omega) (by omega), trivial⟩ (Nat.le_of_ble_eq_true rfl) (show (∃ b24 b25 b56, zo_ru a b24 b25 b56 (8 * (i : Int)).toNat (G a 57) P G) ∧ 0 ≤ G a 57 ∧ G a 57 ≤ 100000 from ⟨⟨b24, b25, b56, by rw [hca]; exact zo_or_ru hor hin⟩, hd0, by omega⟩) (fun al hal rnr Pr Gr hextr hfrr hokr hcsr hpsir => ?_)
            obtain rfl := List.mem_singleton.mp hal
            have hrr := zp_int (hokr _ rfl).1
            have hzr3 : Gr a 20 = 0 ∧ 0 ≤ Gr a 57 ∧ Gr a 57 ≤ G a 57 + 1 := hpsir
            obtain ⟨hzr, hzd0, hzd1⟩ := hzr3
            have orr := zo_or_fr hor hextr hfrr (by decide +kernel) hzr
            have h13r := zQ3_fr h13 r0 hfrr (by decide +kernel)
            refine zp_if (pc := 174) (tgt := 194) hx hb (zd_X12_orders (174, .ifCond .ge 20, 3, 0, []) (List.mem_of_getElem? (i := 97) rfl)) rfl (fun (hcq217 : 0 ≤ rnr) => ?_) (fun (hcq217 : ¬ (0 ≤ rnr)) => ?_)
            · refine zp_iinc (L' := [(3, 0, ((kk : Int) + 1)), (2, 0, (i : Int)), (1, 0, (nu : Int)), (0, 2, (a : Int))]) (n := ((kk : Int) + 1)) (pc := 194) hx hb hnL (zd_X12_orders (194, .iinc 3 1, 3, 0, []) (List.mem_of_getElem? (i := 108) rfl)) (j := 0) rfl (by omega) (zp_r0 (by omega) (by omega)) rfl rfl ?_
              refine zp_goto (tgt := 150) (pc := 197) hx hb (zd_X12_orders (197, .goto (-47), 3, 0, []) (List.mem_of_getElem? (i := 109) rfl)) rfl ?_
              have hv8 : zv Gr a 56 (8 * i + 7) = G b56 (2000 + (8 * i + 7)) := by rw [zv_eq orr.2.2.2.2.2.2.1]; exact zp_nc hfrr r3 (by decide +kernel) _
              exact ihk (kk + 1) Pr Gr hin (by rw [hv8]; omega) orr h13r hzd0 (by omega) (by omega)
            · refine zp_load (pc := 177) hx hb (zd_X12_orders (177, .aload_n 0, 1, 0, []) (List.mem_of_getElem? (i := 98) rfl)) rfl (j := 3) rfl ?_
              refine zp_load (pc := 178) hx hb (zd_X12_orders (178, .iload_n 1, 1, 0, []) (List.mem_of_getElem? (i := 99) rfl)) rfl (j := 2) rfl ?_
              refine zp_call (pc := 179) (how := 0) (idx := 555) (mi := 292) (S := []) hx hb hE hw heff hrm (zX_gb hW) rfl (j := 73) rfl rfl (by decide +kernel) (zd_X12_orders (179, .invokevirtual 555, 3, 0, []) (List.mem_of_getElem? (i := 100) rfl)) [(a : Int), (nu : Int)] rfl ⟨zp_o2 orr.1, zp_o0 (by omega) (by omega) (by omega) (by omega), trivial⟩ (Nat.le_of_ble_eq_true rfl) hzr (fun al hal rng Pg Gg hextg hfrg hokg hcsg hpsig => ?_)
              obtain rfl := List.mem_singleton.mp hal
              have hzg : Gg a 20 = 0 := hpsig
              have hpg : Pg a = some 92 := hextg _ _ orr.1
              have h13g := zQ3_fr h13r orr.1 hfrg (by decide +kernel)
              refine zp_load (pc := 182) hx hb (zd_X12_orders (182, .aload_n 0, 1, 0, []) (List.mem_of_getElem? (i := 101) rfl)) rfl (j := 3) rfl ?_
              refine zp_load (pc := 183) hx hb (zd_X12_orders (183, .iload_n 2, 1, 0, []) (List.mem_of_getElem? (i := 102) rfl)) rfl (j := 1) rfl ?_
              refine zp_putf (pc := 184) hx hb hE hw heff (zd_X12_orders (184, .putfield 152, 3, 0, []) (List.mem_of_getElem? (i := 103) rfl)) (j := 77) rfl rfl rfl hpg (zp_o0 (by omega) (by omega) (by omega) (by omega)) ?_
              refine zp_load (pc := 187) hx hb (zd_X12_orders (187, .aload_n 0, 1, 0, []) (List.mem_of_getElem? (i := 104) rfl)) rfl (j := 3) rfl ?_
              refine zp_const (pc := 188) hx hb (zd_X12_orders (188, .bipush (-3), 2, 0, []) (List.mem_of_getElem? (i := 105) rfl)) rfl rfl ?_
              have z20 : (zp_set Gg a 59 (i : Int)) a 20 = 0 := ((zp_set_ne (Or.inr (by decide))).trans (hzg))
              have zq3 : zQ3 a (zp_set Gg a 59 (i : Int)) B ln := (zQ3_s h13g (Or.inr (by decide)))
              refine zp_call (pc := 190) (how := 0) (idx := 170) (mi := 183) (S := []) hx hb hE hw heff hrm (zX_te hW) rfl (j := 0) rfl rfl (by decide +kernel) (zd_X12_orders (190, .invokevirtual 170, 3, 0, []) (List.mem_of_getElem? (i := 106) rfl)) [(a : Int), (-3)] rfl ⟨zp_o2 hpg, zp_o0 (by omega) (by omega) (by omega) (by omega), trivial⟩ (Nat.le_of_ble_eq_true rfl) trivial (fun al hal rnt Pt Gt hextt hfrt hokt hcst hpsit => ?_)
              obtain rfl := List.mem_singleton.mp hal
              have hrt := zp_int (hokt _ rfl).1
              obtain ⟨rfl, hrnt⟩ := hpsit
              have hrnt : rnt = (-3) := hrnt
              have zzt : Gt a 20 = 0 := (zp_nf hfrt hpg rfl).trans z20
              have zyt := zQ3_fr zq3 hpg hfrt rfl
              refine zp_iret (pc := 193) (n := rnt) hx hb hE hQ hU5 rfl (by decide) (zd_X12_orders (193, .ireturn, 1, 0, []) (List.mem_of_getElem? (i := 107) rfl)) (j := 0) rfl (zp_o0 (by omega) (by omega) (by omega) (by omega)) ?_
              rw [hps]
              exact (show Gt a 20 = 0 ∧ zDoq a Gt B ln rnt from ⟨zzt, zQ3_end zyt⟩)
      have hor1 := hor
      obtain ⟨r0, r1, r2, r3, e24, e25, e56, e20, e19, e21, hncl, hprs⟩ := hor1
      refine zp_kn (k := 57) (a := a) (G := G) hw (show zp_fd 92 57 = some (12, 0, 0, (-2147483648), 2147483647) from rfl) rfl r0 (fun hk57 => ?_)
      have hx57 := zp_int hk57
      refine zp_load (pc := 140) hx hb (zd_X12_orders (140, .iload_n 2, 1, 0, []) (List.mem_of_getElem? (i := 76) rfl)) rfl (j := 0) rfl ?_
      refine zp_load (pc := 141) hx hb (zd_X12_orders (141, .aload_n 0, 1, 0, []) (List.mem_of_getElem? (i := 77) rfl)) rfl (j := 2) rfl ?_
      refine zp_getf (n := (ncl : Int)) (pc := 142) hx hb hE hw (zd_X12_orders (142, .getfield 371, 3, 0, []) (List.mem_of_getElem? (i := 78) rfl)) (j := 39) rfl rfl rfl r0 e21 ?_
      refine zp_icmp (pc := 145) (tgt := 206) hx hb (zd_X12_orders (145, .if_icmp .ge 61, 3, 0, []) (List.mem_of_getElem? (i := 79) rfl)) rfl (fun (hcq218 : (ncl : Int) ≤ (i : Int)) => ?_) (fun (hcq218 : ¬ ((ncl : Int) ≤ (i : Int))) => ?_)
      · refine zp_load (pc := 206) hx hb (zd_X12_orders (206, .aload_n 0, 1, 0, []) (List.mem_of_getElem? (i := 112) rfl)) rfl (j := 2) rfl ?_
        refine zp_load (pc := 207) hx hb (zd_X12_orders (207, .aload_n 0, 1, 0, []) (List.mem_of_getElem? (i := 113) rfl)) rfl (j := 2) rfl ?_
        refine zp_getf (n := (G a 57)) (pc := 208) hx hb hE hw (zd_X12_orders (208, .getfield 540, 3, 0, []) (List.mem_of_getElem? (i := 114) rfl)) (j := 75) rfl rfl rfl r0 rfl ?_
        have z20 : G a 20 = 0 := e20
        have zq3 : zQ3 a G B ln := h13
        refine zp_call (pc := 211) (how := 0) (idx := 170) (mi := 183) (S := []) hx hb hE hw heff hrm (zX_te hW) rfl (j := 0) rfl rfl (by decide +kernel) (zd_X12_orders (211, .invokevirtual 170, 3, 0, []) (List.mem_of_getElem? (i := 115) rfl)) [(a : Int), (G a 57)] rfl ⟨zp_o2 r0, zp_o0 (by omega) (by omega) (by omega) (by omega), trivial⟩ (Nat.le_of_ble_eq_true rfl) trivial (fun al hal rnt Pt Gt hextt hfrt hokt hcst hpsit => ?_)
        obtain rfl := List.mem_singleton.mp hal
        have hrt := zp_int (hokt _ rfl).1
        obtain ⟨rfl, hrnt⟩ := hpsit
        have hrnt : rnt = (G a 57) := hrnt
        have zzt : Gt a 20 = 0 := (zp_nf hfrt r0 rfl).trans z20
        have zyt := zQ3_fr zq3 r0 hfrt rfl
        refine zp_iret (pc := 214) (n := rnt) hx hb hE hQ hU5 rfl (by decide) (zd_X12_orders (214, .ireturn, 1, 0, []) (List.mem_of_getElem? (i := 116) rfl)) (j := 0) rfl (zp_o0 (by omega) (by omega) (by omega) (by omega)) ?_
        rw [hps]
        exact (show Gt a 20 = 0 ∧ zDoq a Gt B ln rnt from ⟨zzt, zQ3_end zyt⟩)
      · refine zp_const (pc := 148) hx hb (zd_X12_orders (148, .iconst 0, 1, 0, []) (List.mem_of_getElem? (i := 80) rfl)) rfl rfl ?_
        refine zp_store (L' := [(3, 0, 0), (2, 0, (i : Int)), (1, 0, (nu : Int)), (0, 2, (a : Int))]) (pc := 149) hx hb hnL (zd_X12_orders (149, .istore_n 3, 1, 0, []) (List.mem_of_getElem? (i := 81) rfl)) rfl rfl rfl ?_
        exact inner _ 0 P G (by omega) (Nat.lt_succ_self _) hor h13 hd0 (by omega) (by omega)
  have loop1 : ∀ (n i nu : Nat) (ncl : Nat) (P : Nat → Option Nat) (Gp G : Nat → Nat → Int), 16 - i < n → i ≤ 16 → nu ≤ 16 → P b6 = some 62 → P b7 = some 63 → P b9 = some 64 → P b10 = some 65 → Gp a 6 = (b6 : Int) → Gp a 7 = (b7 : Int) → Gp a 9 = (b9 : Int) → Gp a 10 = (b10 : Int) → (∀ k, G a k = Gp a k) → zo_or a b24 b25 b56 ncl P G → zQ3 a G B ln → zp_J p l e R s m args below meth c Q w u [] 104 [(2, 0, (i : Int)), (1, 0, (nu : Int)), (0, 2, (a : Int))] [] P G := by
    intro n
    induction n with
    | zero => intro i nu ncl P Gp G h; exact absurd h (Nat.not_lt_zero _)
    | succ n ih =>
      intro i nu ncl P Gp G hn hi hnu q6 q7 q9 q10 g6 g7 g9 g10 za hor h13
      have hor1 := hor
      obtain ⟨r0, r1, r2, r3, e24, e25, e56, e20, e19, e21, hncl, hprs⟩ := hor1
      refine zp_load (pc := 104) hx hb (zd_X12_orders (104, .iload_n 2, 1, 0, []) (List.mem_of_getElem? (i := 55) rfl)) rfl (j := 0) rfl ?_
      refine zp_const (pc := 105) hx hb (zd_X12_orders (105, .bipush 16, 2, 0, []) (List.mem_of_getElem? (i := 56) rfl)) rfl rfl ?_
      refine zp_icmp (pc := 107) (tgt := 128) hx hb (zd_X12_orders (107, .if_icmp .ge 21, 3, 0, []) (List.mem_of_getElem? (i := 57) rfl)) rfl (fun (hcq219 : 16 ≤ (i : Int)) => ?_) (fun (hcq219 : ¬ (16 ≤ (i : Int))) => ?_)
      · refine zp_load (pc := 128) hx hb (zd_X12_orders (128, .aload_n 0, 1, 0, []) (List.mem_of_getElem? (i := 68) rfl)) rfl (j := 2) rfl ?_
        refine zp_const (pc := 129) hx hb (zd_X12_orders (129, .iconst 0, 1, 0, []) (List.mem_of_getElem? (i := 69) rfl)) rfl rfl ?_
        refine zp_putf (pc := 130) hx hb hE hw heff (zd_X12_orders (130, .putfield 540, 3, 0, []) (List.mem_of_getElem? (i := 70) rfl)) (j := 75) rfl rfl rfl r0 (zp_o0 (by decide) (by decide) (by decide) (by decide)) ?_
        refine zp_load (pc := 133) hx hb (zd_X12_orders (133, .aload_n 0, 1, 0, []) (List.mem_of_getElem? (i := 71) rfl)) rfl (j := 2) rfl ?_
        refine zp_const (pc := 134) hx hb (zd_X12_orders (134, .iconst (-1), 1, 0, []) (List.mem_of_getElem? (i := 72) rfl)) rfl rfl ?_
        refine zp_putf (pc := 135) hx hb hE hw heff (zd_X12_orders (135, .putfield 543, 3, 0, []) (List.mem_of_getElem? (i := 73) rfl)) (j := 76) rfl rfl rfl r0 (zp_o0 (by decide) (by decide) (by decide) (by decide)) ?_
        refine zp_const (pc := 138) hx hb (zd_X12_orders (138, .iconst 0, 1, 0, []) (List.mem_of_getElem? (i := 74) rfl)) rfl rfl ?_
        refine zp_store (L' := [(2, 0, 0), (1, 0, (nu : Int)), (0, 2, (a : Int))]) (pc := 139) hx hb hnL (zd_X12_orders (139, .istore_n 2, 1, 0, []) (List.mem_of_getElem? (i := 75) rfl)) rfl rfl rfl ?_
        have z57 : (zp_set (zp_set G a 57 0) a 58 (-1)) a 57 = 0 := ((zp_set_ne (Or.inr (by decide))).trans (zp_set_self))
        exact runs (ncl + 1) 0 nu ncl P _ (by omega) (by omega) hnu (zo_or_set (k := 58) (zo_or_set (k := 57) hor r0 rfl) r0 rfl) (zQ3_s (zQ3_s h13 (Or.inr (by decide))) (Or.inr (by decide))) (by omega) (by omega)
      · refine zp_load (pc := 110) hx hb (zd_X12_orders (110, .aload_n 0, 1, 0, []) (List.mem_of_getElem? (i := 58) rfl)) rfl (j := 2) rfl ?_
        refine zp_getf (n := (b10 : Int)) (pc := 111) hx hb hE hw (zd_X12_orders (111, .getfield 32, 3, 0, []) (List.mem_of_getElem? (i := 59) rfl)) (j := 28) rfl rfl rfl r0 ((za 10).trans g10) ?_
        refine zp_load (pc := 114) hx hb (zd_X12_orders (114, .iload_n 2, 1, 0, []) (List.mem_of_getElem? (i := 60) rfl)) rfl (j := 0) rfl ?_
        refine zp_load (pc := 115) hx hb (zd_X12_orders (115, .aload_n 0, 1, 0, []) (List.mem_of_getElem? (i := 61) rfl)) rfl (j := 2) rfl ?_
        refine zp_getf (n := (b7 : Int)) (pc := 116) hx hb hE hw (zd_X12_orders (116, .getfield 26, 3, 0, []) (List.mem_of_getElem? (i := 62) rfl)) (j := 25) rfl rfl rfl r0 ((za 7).trans g7) ?_
        refine zp_load (pc := 119) hx hb (zd_X12_orders (119, .iload_n 2, 1, 0, []) (List.mem_of_getElem? (i := 63) rfl)) rfl (j := 0) rfl ?_
        refine zp_iald (j := i) (v := (G b7 (2000 + i))) (pc := 120) hx hb hw (zd_X12_orders (120, .iaload, 1, 0, []) (List.mem_of_getElem? (i := 64) rfl)) (show zp_ia 1 63 = some (16, 0, 0, 0, 3) from rfl) q7 (by omega) (by omega) rfl (fun hk220 => ?_)
        have hk220b := zp_int hk220
        refine zp_iast (j := i) (pc := 121) hx hb hw heff (zd_X12_orders (121, .iastore, 1, 0, []) (List.mem_of_getElem? (i := 65) rfl)) (show zp_ia 1 65 = some (16, 0, 0, 0, 3) from rfl) q10 (by omega) (by omega) (zp_o0 (by omega) (by omega) (by omega) (by omega)) rfl ?_
        refine zp_iinc (L' := [(2, 0, ((i : Int) + 1)), (1, 0, (nu : Int)), (0, 2, (a : Int))]) (n := ((i : Int) + 1)) (pc := 122) hx hb hnL (zd_X12_orders (122, .iinc 2 1, 3, 0, []) (List.mem_of_getElem? (i := 66) rfl)) (j := 0) rfl (by omega) (zp_r0 (by omega) (by omega)) rfl rfl ?_
        refine zp_goto (tgt := 104) (pc := 125) hx hb (zd_X12_orders (125, .goto (-21), 3, 0, []) (List.mem_of_getElem? (i := 67) rfl)) rfl ?_
        exact ih (i + 1) nu ncl P Gp _ (by omega) (by omega) hnu q6 q7 q9 q10 g6 g7 g9 g10 (fun k => (zp_set_ne (Or.inl (zp_pne r0 q10 (by decide)))).trans (za k)) (zo_or_set (k := 2000 + i) hor q10 (by simp [zo_sb])) (zQ3_s h13 (Or.inl (zp_pne r0 q10 (by decide))))
  have loop0 : ∀ (n i nu : Nat) (ncl : Nat) (P : Nat → Option Nat) (Gp G : Nat → Nat → Int), 544 - i < n → i ≤ 544 → nu ≤ 16 → P b6 = some 62 → P b7 = some 63 → P b9 = some 64 → P b10 = some 65 → Gp a 6 = (b6 : Int) → Gp a 7 = (b7 : Int) → Gp a 9 = (b9 : Int) → Gp a 10 = (b10 : Int) → (∀ k, G a k = Gp a k) → zo_or a b24 b25 b56 ncl P G → zQ3 a G B ln → zp_J p l e R s m args below meth c Q w u [] 77 [(2, 0, (i : Int)), (1, 0, (nu : Int)), (0, 2, (a : Int))] [] P G := by
    intro n
    induction n with
    | zero => intro i nu ncl P Gp G h; exact absurd h (Nat.not_lt_zero _)
    | succ n ih =>
      intro i nu ncl P Gp G hn hi hnu q6 q7 q9 q10 g6 g7 g9 g10 za hor h13
      have hor1 := hor
      obtain ⟨r0, r1, r2, r3, e24, e25, e56, e20, e19, e21, hncl, hprs⟩ := hor1
      refine zp_load (pc := 77) hx hb (zd_X12_orders (77, .iload_n 2, 1, 0, []) (List.mem_of_getElem? (i := 40) rfl)) rfl (j := 0) rfl ?_
      refine zp_const (pc := 78) hx hb (zd_X12_orders (78, .sipush 544, 3, 0, []) (List.mem_of_getElem? (i := 41) rfl)) rfl rfl ?_
      refine zp_icmp (pc := 81) (tgt := 102) hx hb (zd_X12_orders (81, .if_icmp .ge 21, 3, 0, []) (List.mem_of_getElem? (i := 42) rfl)) rfl (fun (hcq221 : 544 ≤ (i : Int)) => ?_) (fun (hcq221 : ¬ (544 ≤ (i : Int))) => ?_)
      · refine zp_const (pc := 102) hx hb (zd_X12_orders (102, .iconst 0, 1, 0, []) (List.mem_of_getElem? (i := 53) rfl)) rfl rfl ?_
        refine zp_store (L' := [(2, 0, 0), (1, 0, (nu : Int)), (0, 2, (a : Int))]) (pc := 103) hx hb hnL (zd_X12_orders (103, .istore_n 2, 1, 0, []) (List.mem_of_getElem? (i := 54) rfl)) rfl rfl rfl ?_
        exact loop1 17 0 nu ncl P Gp G (by omega) (by omega) hnu q6 q7 q9 q10 g6 g7 g9 g10 za hor h13
      · refine zp_load (pc := 84) hx hb (zd_X12_orders (84, .aload_n 0, 1, 0, []) (List.mem_of_getElem? (i := 43) rfl)) rfl (j := 2) rfl ?_
        refine zp_getf (n := (b9 : Int)) (pc := 85) hx hb hE hw (zd_X12_orders (85, .getfield 29, 3, 0, []) (List.mem_of_getElem? (i := 44) rfl)) (j := 27) rfl rfl rfl r0 ((za 9).trans g9) ?_
        refine zp_load (pc := 88) hx hb (zd_X12_orders (88, .iload_n 2, 1, 0, []) (List.mem_of_getElem? (i := 45) rfl)) rfl (j := 0) rfl ?_
        refine zp_load (pc := 89) hx hb (zd_X12_orders (89, .aload_n 0, 1, 0, []) (List.mem_of_getElem? (i := 46) rfl)) rfl (j := 2) rfl ?_
        refine zp_getf (n := (b6 : Int)) (pc := 90) hx hb hE hw (zd_X12_orders (90, .getfield 23, 3, 0, []) (List.mem_of_getElem? (i := 47) rfl)) (j := 24) rfl rfl rfl r0 ((za 6).trans g6) ?_
        refine zp_load (pc := 93) hx hb (zd_X12_orders (93, .iload_n 2, 1, 0, []) (List.mem_of_getElem? (i := 48) rfl)) rfl (j := 0) rfl ?_
        refine zp_ialdT (j := i) (v := (G b6 (2000 + i))) (pc := 94) hx hb hw (zd_X12_orders (94, .iaload, 1, 0, []) (List.mem_of_getElem? (i := 49) rfl)) (T := zo_T62) rfl rfl (zo_kd _) q6 rfl (show i < 612 by omega) rfl (fun hrow => ?_)
        refine zp_iastT (j := i) (pc := 95) hx hb hw heff (zd_X12_orders (95, .iastore, 1, 0, []) (List.mem_of_getElem? (i := 50) rfl)) (T := zo_T64) rfl rfl (by rw [zo_fj]; exact zo_kd _) q9 rfl (show i < 544 by omega) (by omega) (by rw [zo_fj]; exact hrow) (Or.inr (by decide)) rfl ?_
        refine zp_iinc (L' := [(2, 0, ((i : Int) + 1)), (1, 0, (nu : Int)), (0, 2, (a : Int))]) (n := ((i : Int) + 1)) (pc := 96) hx hb hnL (zd_X12_orders (96, .iinc 2 1, 3, 0, []) (List.mem_of_getElem? (i := 51) rfl)) (j := 0) rfl (by omega) (zp_r0 (by omega) (by omega)) rfl rfl ?_
        refine zp_goto (tgt := 77) (pc := 99) hx hb (zd_X12_orders (99, .goto (-22), 3, 0, []) (List.mem_of_getElem? (i := 52) rfl)) rfl ?_
        exact ih (i + 1) nu ncl P Gp _ (by omega) (by omega) hnu q6 q7 q9 q10 g6 g7 g9 g10 (fun k => (zp_set_ne (Or.inl (zp_pne r0 q9 (by decide)))).trans (za k)) (zo_or_set (k := 2000 + i) hor q9 (by simp [zo_sb])) (zQ3_s h13 (Or.inl (zp_pne r0 q9 (by decide))))
  have hbad : ∀ (q : Nat) (G : Nat → Nat → Int), zBad a G B ln → G a 18 = (zy_fr B ln q : Int) → yT (zy_so B ln) (zy_wo B ln) (zy_to B ln) (yt_co (zy_so B ln) (zy_wo B ln) (zy_to B ln) (ylf true B ln)) 12 0 0 (Sum.inl q) → zp_J p l e R s m args below meth c Q w u [] 46 [(0, 2, (a : Int))] [] u.1 G := by
    intro q G hbd h18 hyT
    obtain ⟨tk, n9, od, pi, cd, hD⟩ := hbd
    have hD2 := hD
    obtain ⟨⟨d13, dl, dt, d12, dB⟩, ⟨d14, d15, d16, d17⟩, ⟨d19, d18⟩, ⟨d23, d24, d25⟩, d26, ⟨d29, dp⟩, d30⟩ := hD2
    refine zp_load (pc := 46) hx hb (zd_X12_orders (46, .aload_n 0, 1, 0, []) (List.mem_of_getElem? (i := 23) rfl)) rfl (j := 0) rfl ?_
    refine zp_call (pc := 47) (how := 0) (idx := 385) (mi := 235) (S := []) hx hb hE hw heff hrm (zY_et hW 1 B ln tk n9 od pi cd) rfl (j := 37) rfl rfl (by decide +kernel) (zd_X12_orders (47, .invokevirtual 385, 3, 0, []) (List.mem_of_getElem? (i := 24) rfl)) [(a : Int)] rfl ⟨zp_o2 hp, trivial⟩ (Nat.le_of_ble_eq_true rfl) hD (fun al hal rne Pe Ge hexte hfre hoke hcse hpsie => ?_)
    obtain rfl := List.mem_singleton.mp hal
    obtain ⟨rfl, hte⟩ := hpsie
    obtain ⟨t20, t13, t30, t1, -⟩ := hte
    obtain ⟨t19, t18⟩ := t1 rfl
    have t19 : Ge a 19 = 1 := t19
    refine zp_load (pc := 50) hx hb (zd_X12_orders (50, .aload_n 0, 1, 0, []) (List.mem_of_getElem? (i := 25) rfl)) rfl (j := 0) rfl ?_
    refine zp_getf (n := 1) (pc := 51) hx hb hE hw (zd_X12_orders (51, .getfield 240, 3, 0, []) (List.mem_of_getElem? (i := 26) rfl)) (j := 37) rfl rfl rfl hp t19 ?_
    refine zp_if (pc := 54) (tgt := 64) hx hb (zd_X12_orders (54, .ifCond .eq 10, 3, 0, []) (List.mem_of_getElem? (i := 27) rfl)) rfl (fun (hcq222 : 1 = 0) => ?_) (fun (hcq222 : ¬ (1 = 0)) => ?_)
    · exfalso
      omega
    · refine zp_load (pc := 57) hx hb (zd_X12_orders (57, .aload_n 0, 1, 0, []) (List.mem_of_getElem? (i := 28) rfl)) rfl (j := 0) rfl ?_
      refine zp_const (pc := 58) hx hb (zd_X12_orders (58, .bipush (-6), 2, 0, []) (List.mem_of_getElem? (i := 29) rfl)) rfl rfl ?_
      refine zp_call (pc := 60) (how := 0) (idx := 170) (mi := 183) (S := []) hx hb hE hw heff hrm (zX_te hW) rfl (j := 0) rfl rfl (by decide +kernel) (zd_X12_orders (60, .invokevirtual 170, 3, 0, []) (List.mem_of_getElem? (i := 30) rfl)) [(a : Int), (-6)] rfl ⟨zp_o2 hp, zp_o0 (by omega) (by omega) (by omega) (by omega), trivial⟩ (Nat.le_of_ble_eq_true rfl) trivial (fun al hal rnt Pt Gt hextt hfrt hokt hcst hpsit => ?_)
      obtain rfl := List.mem_singleton.mp hal
      have hrt := zp_int (hokt _ rfl).1
      obtain ⟨rfl, hrnt⟩ := hpsit
      have hrnt : rnt = (-6) := hrnt
      refine zp_iret (pc := 63) (n := rnt) hx hb hE hQ hU5 rfl (by decide) (zd_X12_orders (63, .ireturn, 1, 0, []) (List.mem_of_getElem? (i := 31) rfl)) (j := 0) rfl (zp_o0 (by omega) (by omega) (by omega) (by omega)) ?_
      rw [hps]
      refine ⟨(zp_nf hfrt hp rfl).trans t20, (zp_nf hfrt hp rfl).trans t13, ?_, Sum.inl q, hyT, Or.inl ⟨q, rfl, hrnt, (zp_nf hfrt hp rfl).trans (t18.trans h18)⟩⟩
      show 0 ≤ Gt a 30
      rw [(zp_nf hfrt hp rfl).trans t30]
      omega
  have hbad0 : ∀ (q : Nat) (G : Nat → Nat → Int), zBad a G B ln → G a 18 = (zy_fr B ln q : Int) → yT (zy_so B ln) (zy_wo B ln) (zy_to B ln) (yt_co (zy_so B ln) (zy_wo B ln) (zy_to B ln) (ylf true B ln)) 12 0 0 (Sum.inl q) → zp_J p l e R s m args below meth c Q w u [] 19 [(0, 2, (a : Int))] [] u.1 G := by
    intro q G hbd h18 hyT
    have hbd0 := hbd
    obtain ⟨tk, n9, od, pi, cd, hD⟩ := hbd
    have hD2 := hD
    obtain ⟨⟨d13, dl, dt, d12, dB⟩, ⟨d14, d15, d16, d17⟩, ⟨d19, d18⟩, ⟨d23, d24, d25⟩, d26, ⟨d29, dp⟩, d30⟩ := hD2
    refine zp_load (pc := 19) hx hb (zd_X12_orders (19, .aload_n 0, 1, 0, []) (List.mem_of_getElem? (i := 11) rfl)) rfl (j := 0) rfl ?_
    refine zp_getf (n := 1) (pc := 20) hx hb hE hw (zd_X12_orders (20, .getfield 240, 3, 0, []) (List.mem_of_getElem? (i := 12) rfl)) (j := 37) rfl rfl rfl hp d19 ?_
    refine zp_if (pc := 23) (tgt := 46) hx hb (zd_X12_orders (23, .ifCond .ne 23, 3, 0, []) (List.mem_of_getElem? (i := 13) rfl)) rfl (fun (hcq223 : ¬ 1 = 0) => ?_) (fun (hcq223 : ¬ (¬ 1 = 0)) => ?_)
    · exact hbad q G hbd0 h18 hyT
    · exfalso
      omega
  have loopq : ∀ (n : Nat) (L : List yK) (p1 n1 od : Nat) (pi : List (Int × Int)) (cd : yC) (G : Nat → Nat → Int), 400 - zy_fr B ln p1 < n → zD a G 0 B ln p1 n1 od pi cd → n1 ≤ 50 → cd.2.2 ≤ zy_fr B ln p1 → zDw u.1 true a G → zDt u.1 a G → G a 21 = (L.length : Int) → 1 ≤ L.length → L.length ≤ 12 → zOs (zv G a 56) cd.1 cd.2.1 cd.2.2 0 L → G a 6 = (b6 : Int) → G a 7 = (b7 : Int) → G a 9 = (b9 : Int) → G a 10 = (b10 : Int) → G a 24 = (b24 : Int) → G a 25 = (b25 : Int) → G a 56 = (b56 : Int) → (∀ t, yTb (zy_so B ln) (zy_wo B ln) (zy_to B ln) (yt_co (zy_so B ln) (zy_wo B ln) (zy_to B ln) (ylf true B ln)) (12 - L.length) p1 n1 t → yT (zy_so B ln) (zy_wo B ln) (zy_to B ln) (yt_co (zy_so B ln) (zy_wo B ln) (zy_to B ln) (ylf true B ln)) 12 0 0 (yTg L t)) → zp_J p l e R s m args below meth c Q w u [] 19 [(0, 2, (a : Int))] [] u.1 G := by
    intro n
    induction n with
    | zero => intro L p1 n1 od pi cd G h; exact absurd h (Nat.not_lt_zero _)
    | succ n ih =>
      intro L p1 n1 od pi cd G hn hD hn5 hc5 hwG hTG g21 hL1 hL12 hLs g6 g7 g9 g10 g24 g25 g56 hT
      have hD2 := hD
      obtain ⟨⟨d13, dl, dt, d12, dB⟩, ⟨d14, d15, d16, d17⟩, ⟨d19, d18⟩, ⟨d23, dv24, dv25⟩, d26, ⟨d29, dp⟩, d30⟩ := hD2
      have hf := zy_nx (B := B) dt
      have hfl := zy_fr_le (B := B) dt
      refine zp_load (pc := 19) hx hb (zd_X12_orders (19, .aload_n 0, 1, 0, []) (List.mem_of_getElem? (i := 11) rfl)) rfl (j := 0) rfl ?_
      refine zp_getf (n := 0) (pc := 20) hx hb hE hw (zd_X12_orders (20, .getfield 240, 3, 0, []) (List.mem_of_getElem? (i := 12) rfl)) (j := 37) rfl rfl rfl hp d19 ?_
      refine zp_if (pc := 23) (tgt := 46) hx hb (zd_X12_orders (23, .ifCond .ne 23, 3, 0, []) (List.mem_of_getElem? (i := 13) rfl)) rfl (fun (hcq224 : ¬ 0 = 0) => ?_) (fun (hcq224 : ¬ (¬ 0 = 0)) => ?_)
      · exfalso
        omega
      · refine zp_load (pc := 26) hx hb (zd_X12_orders (26, .aload_n 0, 1, 0, []) (List.mem_of_getElem? (i := 14) rfl)) rfl (j := 0) rfl ?_
        refine zp_const (pc := 27) hx hb (zd_X12_orders (27, .bipush 59, 2, 0, []) (List.mem_of_getElem? (i := 15) rfl)) rfl rfl ?_
        refine zp_call (pc := 29) (how := 0) (idx := 313) (mi := 221) (S := []) hx hb hE hw heff hrm (zY_si hW) rfl (j := 23) rfl rfl (by decide +kernel) (zd_X12_orders (29, .invokevirtual 313, 3, 0, []) (List.mem_of_getElem? (i := 16) rfl)) [(a : Int), 59] rfl ⟨zp_o2 hp, zp_o0 (by decide) (by decide) (by decide) (by decide), trivial⟩ (Nat.le_of_ble_eq_true rfl) trivial (fun al hal rns Ps Gs hexts hfrs hoks hcss hpsis => ?_)
        obtain rfl := List.mem_singleton.mp hal
        have hrs := zp_int (hoks _ rfl).1
        obtain ⟨hPes, hGes, hts⟩ := hpsis
        rw [hPes, hGes]
        have hts : rns = 1 ↔ G a 16 = 3 ∧ G a 17 = 59 := hts
        rw [d16, d17] at hts
        refine zp_if (pc := 32) (tgt := 46) hx hb (zd_X12_orders (32, .ifCond .eq 14, 3, 0, []) (List.mem_of_getElem? (i := 17) rfl)) rfl (fun (hcq225 : rns = 0) => ?_) (fun (hcq225 : ¬ (rns = 0)) => ?_)
        · refine zp_load (pc := 46) hx hb (zd_X12_orders (46, .aload_n 0, 1, 0, []) (List.mem_of_getElem? (i := 23) rfl)) rfl (j := 0) rfl ?_
          refine zp_call (pc := 47) (how := 0) (idx := 385) (mi := 235) (S := []) hx hb hE hw heff hrm (zY_et hW 0 B ln p1 n1 od pi cd) rfl (j := 37) rfl rfl (by decide +kernel) (zd_X12_orders (47, .invokevirtual 385, 3, 0, []) (List.mem_of_getElem? (i := 24) rfl)) [(a : Int)] rfl ⟨zp_o2 hp, trivial⟩ (Nat.le_of_ble_eq_true rfl) hD (fun al hal rne Pe Ge hexte hfre hoke hcse hpsie => ?_)
          obtain rfl := List.mem_singleton.mp hal
          obtain ⟨rfl, hte⟩ := hpsie
          obtain ⟨t20, t13, t30, -, t1⟩ := hte
          obtain ⟨t2, t4⟩ := t1 rfl
          have t13 : Ge a 13 = 0 := t13
          have t20 : Ge a 20 = 0 := t20
          have t30 : Ge a 30 = (od : Int) := t30
          have hns : ¬ yr_s (zy_so B ln) (zy_wo B ln) 59 p1 = true := fun z => by have := yr_s_i.mp z; omega
          by_cases hso0 : zy_so B ln p1 = 0
          · obtain ⟨t19, t18⟩ := t2 hso0
            have t19 : Ge a 19 = 0 := t19
            have t18 : Ge a 18 = -1 := t18.trans (d18 rfl)
            have hyT := hT (Sum.inr []) (by unfold yTb; rw [if_pos hso0])
            have hyT : yT (zy_so B ln) (zy_wo B ln) (zy_to B ln) (yt_co (zy_so B ln) (zy_wo B ln) (zy_to B ln) (ylf true B ln)) 12 0 0 (Sum.inr L) := by
              have e : yTg L (Sum.inr []) = Sum.inr (L ++ []) := rfl
              rw [e, List.append_nil] at hyT
              exact hyT
            obtain ⟨ncl, hncl⟩ : ∃ x : Nat, x = L.length := ⟨_, rfl⟩
            have e6 : Ge a 6 = (b6 : Int) := (zp_nf hfre hp rfl).trans g6
            have e7 : Ge a 7 = (b7 : Int) := (zp_nf hfre hp rfl).trans g7
            have e9 : Ge a 9 = (b9 : Int) := (zp_nf hfre hp rfl).trans g9
            have e10 : Ge a 10 = (b10 : Int) := (zp_nf hfre hp rfl).trans g10
            have e24 : Ge a 24 = (b24 : Int) := (zp_nf hfre hp rfl).trans g24
            have e25 : Ge a 25 = (b25 : Int) := (zp_nf hfre hp rfl).trans g25
            have e56 : Ge a 56 = (b56 : Int) := (zp_nf hfre hp rfl).trans g56
            have e21 : Ge a 21 = (ncl : Int) := (zp_nf hfre hp rfl).trans (by rw [hncl]; exact g21)
            have e23 : Ge a 23 = (cd.2.2 : Int) := (zp_nf hfre hp rfl).trans d23
            have hLe : zOs (zv Ge a 56) (zv Ge a 24) (zv Ge a 25) cd.2.2 0 L := zOs_c (N := cd.2.2) (Nat.le_refl _) (fun j _ => ⟨?_, ?_⟩) hLs (fun j _ _ => ?_)
            rotate_left
            · rw [zv_eq e24, zp_nc hfre hq24 rfl, ← zv_eq g24]; exact dv24 j
            · rw [zv_eq e25, zp_nc hfre hq25 rfl, ← zv_eq g25]; exact dv25 j
            · rw [zv_eq e56, zp_nc hfre hq56 rfl, ← zv_eq g56]
            have hor : zo_or a b24 b25 b56 ncl u.1 Ge := ⟨hp, hq24, hq25, hq56, e24, e25, e56, t20, t19, e21, by omega, fun c hc => by
              obtain ⟨K, hK1, hK2⟩ := zOs_at hLe (i := c) (by omega)
              rw [Nat.zero_add] at hK2
              exact zOc_pr hK2 e23⟩
            have h13e : zQ3 a Ge B ln := ⟨⟨t13, by rw [t30]; omega, t18⟩, L, hyT⟩
            refine zp_load (pc := 50) hx hb (zd_X12_orders (50, .aload_n 0, 1, 0, []) (List.mem_of_getElem? (i := 25) rfl)) rfl (j := 0) rfl ?_
            refine zp_getf (n := 0) (pc := 51) hx hb hE hw (zd_X12_orders (51, .getfield 240, 3, 0, []) (List.mem_of_getElem? (i := 26) rfl)) (j := 37) rfl rfl rfl hp t19 ?_
            refine zp_if (pc := 54) (tgt := 64) hx hb (zd_X12_orders (54, .ifCond .eq 10, 3, 0, []) (List.mem_of_getElem? (i := 27) rfl)) rfl (fun (hcq226 : 0 = 0) => ?_) (fun (hcq226 : ¬ (0 = 0)) => ?_)
            · refine zp_load (pc := 64) hx hb (zd_X12_orders (64, .aload_n 0, 1, 0, []) (List.mem_of_getElem? (i := 32) rfl)) rfl (j := 0) rfl ?_
              refine zp_const (pc := 65) hx hb (zd_X12_orders (65, .bipush 17, 2, 0, []) (List.mem_of_getElem? (i := 33) rfl)) rfl rfl ?_
              refine zp_call (pc := 67) (how := 0) (idx := 174) (mi := 264) (S := []) hx hb hE hw heff hrm (zp_sw13 hW (zq_1101 hW) (by decide +kernel) (by decide +kernel)) rfl (j := 57) rfl rfl (by decide +kernel) (zd_X12_orders (67, .invokevirtual 174, 3, 0, []) (List.mem_of_getElem? (i := 34) rfl)) [(a : Int), 17] rfl ⟨zp_o2 hp, zp_o0 (by decide) (by decide) (by decide) (by decide), trivial⟩ (Nat.le_of_ble_eq_true rfl) (show Ge (zp_0 [(a : Int), 17]) 20 = 0 from t20) (fun al hal rnk Pk Gk hextk hfrk hokk hcsk hpsik => ?_)
              obtain rfl := List.mem_singleton.mp hal
              have hzk : Gk a 20 = 0 := hpsik
              have hork := zo_or_fr hor hextk hfrk (by decide +kernel) hzk
              have h13k := zQ3_fr h13e hp hfrk (by decide +kernel)
              have k6 : Gk a 6 = (b6 : Int) := (zp_nf hfrk hp rfl).trans e6
              have k7 : Gk a 7 = (b7 : Int) := (zp_nf hfrk hp rfl).trans e7
              have k9 : Gk a 9 = (b9 : Int) := (zp_nf hfrk hp rfl).trans e9
              have k10 : Gk a 10 = (b10 : Int) := (zp_nf hfrk hp rfl).trans e10
              refine zp_kn (k := 8) (a := a) (G := Gk) hw (show zp_fd 92 8 = some (12, 0, 0, 0, 16) from rfl) rfl hork.1 (fun hk8 => ?_)
              obtain ⟨nu, hnu8⟩ := zp_nat (zp_int hk8).1
              have hx8 := zp_int hk8
              rw [hnu8] at hx8
              refine zp_load (pc := 70) hx hb (zd_X12_orders (70, .aload_n 0, 1, 0, []) (List.mem_of_getElem? (i := 35) rfl)) rfl (j := 0) rfl ?_
              refine zp_getf (n := (nu : Int)) (pc := 71) hx hb hE hw (zd_X12_orders (71, .getfield 167, 3, 0, []) (List.mem_of_getElem? (i := 36) rfl)) (j := 26) rfl rfl rfl hork.1 hnu8 ?_
              refine zp_store (L' := [(1, 0, (nu : Int)), (0, 2, (a : Int))]) (pc := 74) hx hb hnL (zd_X12_orders (74, .istore_n 1, 1, 0, []) (List.mem_of_getElem? (i := 37) rfl)) rfl rfl rfl ?_
              refine zp_const (pc := 75) hx hb (zd_X12_orders (75, .iconst 0, 1, 0, []) (List.mem_of_getElem? (i := 38) rfl)) rfl rfl ?_
              refine zp_store (L' := [(2, 0, 0), (1, 0, (nu : Int)), (0, 2, (a : Int))]) (pc := 76) hx hb hnL (zd_X12_orders (76, .istore_n 2, 1, 0, []) (List.mem_of_getElem? (i := 39) rfl)) rfl rfl rfl ?_
              exact loop0 545 0 nu ncl Pk Gk Gk (by omega) (by omega) (by omega) (hextk _ _ hq6) (hextk _ _ hq7) (hextk _ _ hq9) (hextk _ _ hq10) k6 k7 k9 k10 (fun _ => rfl) hork h13k
            · exfalso
              omega
          · obtain ⟨t19, t18⟩ := t4 hso0
            have t19 : Ge a 19 = 1 := t19
            have hyT : yT (zy_so B ln) (zy_wo B ln) (zy_to B ln) (yt_co (zy_so B ln) (zy_wo B ln) (zy_to B ln) (ylf true B ln)) 12 0 0 (Sum.inl p1) := hT (Sum.inl p1) (by unfold yTb; rw [if_neg hso0, if_neg hns])
            refine zp_load (pc := 50) hx hb (zd_X12_orders (50, .aload_n 0, 1, 0, []) (List.mem_of_getElem? (i := 25) rfl)) rfl (j := 0) rfl ?_
            refine zp_getf (n := 1) (pc := 51) hx hb hE hw (zd_X12_orders (51, .getfield 240, 3, 0, []) (List.mem_of_getElem? (i := 26) rfl)) (j := 37) rfl rfl rfl hp t19 ?_
            refine zp_if (pc := 54) (tgt := 64) hx hb (zd_X12_orders (54, .ifCond .eq 10, 3, 0, []) (List.mem_of_getElem? (i := 27) rfl)) rfl (fun (hcq227 : 1 = 0) => ?_) (fun (hcq227 : ¬ (1 = 0)) => ?_)
            · exfalso
              omega
            · refine zp_load (pc := 57) hx hb (zd_X12_orders (57, .aload_n 0, 1, 0, []) (List.mem_of_getElem? (i := 28) rfl)) rfl (j := 0) rfl ?_
              refine zp_const (pc := 58) hx hb (zd_X12_orders (58, .bipush (-6), 2, 0, []) (List.mem_of_getElem? (i := 29) rfl)) rfl rfl ?_
              refine zp_call (pc := 60) (how := 0) (idx := 170) (mi := 183) (S := []) hx hb hE hw heff hrm (zX_te hW) rfl (j := 0) rfl rfl (by decide +kernel) (zd_X12_orders (60, .invokevirtual 170, 3, 0, []) (List.mem_of_getElem? (i := 30) rfl)) [(a : Int), (-6)] rfl ⟨zp_o2 hp, zp_o0 (by omega) (by omega) (by omega) (by omega), trivial⟩ (Nat.le_of_ble_eq_true rfl) trivial (fun al hal rnt Pt Gt hextt hfrt hokt hcst hpsit => ?_)
              obtain rfl := List.mem_singleton.mp hal
              have hrt := zp_int (hokt _ rfl).1
              obtain ⟨rfl, hrnt⟩ := hpsit
              have hrnt : rnt = (-6) := hrnt
              refine zp_iret (pc := 63) (n := rnt) hx hb hE hQ hU5 rfl (by decide) (zd_X12_orders (63, .ireturn, 1, 0, []) (List.mem_of_getElem? (i := 31) rfl)) (j := 0) rfl (zp_o0 (by omega) (by omega) (by omega) (by omega)) ?_
              rw [hps]
              refine ⟨(zp_nf hfrt hp rfl).trans t20, (zp_nf hfrt hp rfl).trans t13, ?_, Sum.inl p1, hyT, Or.inl ⟨p1, rfl, hrnt, (zp_nf hfrt hp rfl).trans (t18)⟩⟩
              show 0 ≤ Gt a 30
              rw [(zp_nf hfrt hp rfl).trans t30]
              omega
        · refine zp_load (pc := 35) hx hb (zd_X12_orders (35, .aload_n 0, 1, 0, []) (List.mem_of_getElem? (i := 18) rfl)) rfl (j := 0) rfl ?_
          have hs3 : zy_so B ln p1 ≠ 0 := by omega
          have hf3 := hf.2.2 hs3
          have hys : yr_s (zy_so B ln) (zy_wo B ln) 59 p1 = true := yr_s_i.mpr ⟨by omega, by omega⟩
          refine zp_call (pc := 36) (how := 0) (idx := 244) (mi := 212) (S := []) hx hb hE hw heff hrm (zY_nx hW B ln (zy_to B ln p1)) rfl (j := 14) rfl rfl (by decide +kernel) (zd_X12_orders (36, .invokevirtual 244, 3, 0, []) (List.mem_of_getElem? (i := 19) rfl)) [(a : Int)] rfl ⟨zp_o2 hp, trivial⟩ (Nat.le_of_ble_eq_true rfl) (zD_y hD) (fun al hal rnn Pn Gn hextn hfrn hokn hcsn hpsin => ?_)
          obtain rfl := List.mem_singleton.mp hal
          obtain ⟨rfl, htn⟩ := hpsin
          have hDn := zD_nx hD htn
          have hwn := zDw_fr hwG hp hfrn rfl
          have hTn := zDt_fr hTG hp hfrn rfl
          refine zp_load (pc := 39) hx hb (zd_X12_orders (39, .aload_n 0, 1, 0, []) (List.mem_of_getElem? (i := 20) rfl)) rfl (j := 0) rfl ?_
          refine zp_call (pc := 40) (how := 0) (idx := 549) (mi := 288) (S := []) hx hb hE hw heff hrm (zY_ro hW L.length B ln (zy_to B ln p1) n1 od pi cd) rfl (j := 69) rfl rfl (by decide +kernel) (zd_X12_orders (40, .invokevirtual 549, 3, 0, []) (List.mem_of_getElem? (i := 21) rfl)) [(a : Int)] rfl ⟨zp_o2 hp, trivial⟩ (Nat.le_of_ble_eq_true rfl) ⟨hDn, hn5, by omega, hwn, hTn, (zp_nf hfrn hp rfl).trans g21, hL12⟩ (fun al hal rnl Pl Gl hextl hfrl hokl hcsl hpsil => ?_)
          obtain rfl := List.mem_singleton.mp hal
          obtain ⟨rfl, htl⟩ := hpsil
          have htl : zDrd a Gn Gl B ln (zy_to B ln p1) n1 L.length cd := htl
          have hwl := zDw_fr hwn hp hfrl rfl
          have hTl := zDt_fr hTn hp hfrl rfl
          have l6 : Gl a 6 = (b6 : Int) := (zp_nf hfrl hp rfl).trans ((zp_nf hfrn hp rfl).trans g6)
          have l7 : Gl a 7 = (b7 : Int) := (zp_nf hfrl hp rfl).trans ((zp_nf hfrn hp rfl).trans g7)
          have l9 : Gl a 9 = (b9 : Int) := (zp_nf hfrl hp rfl).trans ((zp_nf hfrn hp rfl).trans g9)
          have l10 : Gl a 10 = (b10 : Int) := (zp_nf hfrl hp rfl).trans ((zp_nf hfrn hp rfl).trans g10)
          have l24 : Gl a 24 = (b24 : Int) := (zp_nf hfrl hp rfl).trans ((zp_nf hfrn hp rfl).trans g24)
          have l25 : Gl a 25 = (b25 : Int) := (zp_nf hfrl hp rfl).trans ((zp_nf hfrn hp rfl).trans g25)
          have l56 : Gl a 56 = (b56 : Int) := (zp_nf hfrl hp rfl).trans ((zp_nf hfrn hp rfl).trans g56)
          refine zp_goto (tgt := 19) (pc := 43) hx hb (zd_X12_orders (43, .goto (-24), 3, 0, []) (List.mem_of_getElem? (i := 22) rfl)) rfl ?_
          by_cases h12 : L.length = 12
          · obtain ⟨y1, y2⟩ := htl.1 h12
            exact hbad0 _ Gl y1 y2 (hT (Sum.inl (zy_to B ln p1)) (by unfold yTb; rw [if_neg hs3, if_pos hys]; rw [h12]; rfl))
          obtain ⟨sq, hsq, hcs⟩ := htl.2 (by omega)
          have hm : 12 - L.length = (12 - (L.length + 1)) + 1 := by omega
          rcases hcs with ⟨q, hq, y1, y2⟩ | ⟨p2, n2, K, od2, pi2, cd2, hq, hD2, hn2, hc2, hcc, hold, h21n, h22n, hK, hfr2⟩
          · subst hq
            exact hbad0 q Gl y1 y2 (hT (Sum.inl q) (by unfold yTb; rw [if_neg hs3, if_pos hys]; rw [hm]; exact ⟨_, hsq, Or.inl ⟨q, rfl, rfl⟩⟩))
          · subst hq
            have hln2 : (L ++ [K]).length = L.length + 1 := by rw [List.length_append]; rfl
            have hp2 := zy_fr_le (B := B) hD2.1.2.2.1
            refine ih (L ++ [K]) p2 n2 od2 pi2 cd2 Gl (by omega) hD2 hn2 hc2 hwl hTl (by rw [hln2]; exact h21n) (by omega) (by omega) ?_ l6 l7 l9 l10 l24 l25 l56 (fun t ht => ?_)
            · refine zOs_app (zOs_c hcc hold hLs (fun j _ hj => ?_)) ?_
              · rw [h22n j (by omega)]
                exact zDx_v htn (by decide) (by decide) (by decide) (by decide) j
              · rw [Nat.zero_add]
                exact hK
            · have h9 := hT (yTg [K] t) (by unfold yTb; rw [if_neg hs3, if_pos hys]; rw [hm]; rw [hln2] at ht; exact yT_b hsq ht)
              rw [yTg_g] at h9
              exact h9
  refine zp_load (pc := 0) hx hb (zd_X12_orders (0, .aload_n 0, 1, 0, []) (List.mem_of_getElem? (i := 0) rfl)) rfl (j := 0) rfl ?_
  refine zp_const (pc := 1) hx hb (zd_X12_orders (1, .iconst 0, 1, 0, []) (List.mem_of_getElem? (i := 1) rfl)) rfl rfl ?_
  refine zp_putf (pc := 2) hx hb hE hw heff (zd_X12_orders (2, .putfield 161, 3, 0, []) (List.mem_of_getElem? (i := 2) rfl)) (j := 18) rfl rfl rfl hp (zp_o0 (by decide) (by decide) (by decide) (by decide)) ?_
  refine zp_load (pc := 5) hx hb (zd_X12_orders (5, .aload_n 0, 1, 0, []) (List.mem_of_getElem? (i := 3) rfl)) rfl (j := 0) rfl ?_
  refine zp_const (pc := 6) hx hb (zd_X12_orders (6, .iconst (-1), 1, 0, []) (List.mem_of_getElem? (i := 4) rfl)) rfl rfl ?_
  refine zp_putf (pc := 7) hx hb hE hw heff (zd_X12_orders (7, .putfield 152, 3, 0, []) (List.mem_of_getElem? (i := 5) rfl)) (j := 77) rfl rfl rfl hp (zp_o0 (by decide) (by decide) (by decide) (by decide)) ?_
  refine zp_load (pc := 10) hx hb (zd_X12_orders (10, .aload_n 0, 1, 0, []) (List.mem_of_getElem? (i := 6) rfl)) rfl (j := 0) rfl ?_
  refine zp_const (pc := 11) hx hb (zd_X12_orders (11, .iconst 1, 1, 0, []) (List.mem_of_getElem? (i := 7) rfl)) rfl rfl ?_
  have c30 : (zp_set (zp_set (zp_n u.2.1) a 0 0) a 59 (-1)) a 30 = zp_n u.2.1 a 30 := ((zp_set_ne (Or.inr (by decide))).trans ((zp_set_ne (Or.inr (by decide)))))
  refine zp_call (pc := 12) (how := 0) (idx := 379) (mi := 210) (S := []) hx hb hE hw heff hrm (zY_bx hW B ln) rfl (j := 12) rfl rfl (by decide +kernel) (zd_X12_orders (12, .invokevirtual 379, 3, 0, []) (List.mem_of_getElem? (i := 8) rfl)) [(a : Int), 1] rfl ⟨zp_o2 hp, zp_o0 (by decide) (by decide) (by decide) (by decide), trivial⟩ (Nat.le_of_ble_eq_true rfl) ⟨(zp_set_ne (Or.inr (by decide))).trans ((zp_set_ne (Or.inr (by decide))).trans (h13)), hl4, fun j => (zv_sf (by decide) (Or.inr (by decide))).trans ((zv_sf (by decide) (Or.inr (by decide))).trans (h12 j)), hB, (show 0 ≤ (zp_set (zp_set (zp_n u.2.1) a 0 0) a 59 (-1)) a 30 by rw [c30]; exact h30)⟩ (fun al hal rnb Pb Gb hextb hfrb hokb hcsb hpsib => ?_)
  obtain rfl := List.mem_singleton.mp hal
  obtain ⟨rfl, htb⟩ := hpsib
  obtain ⟨x1, x2, x18, x20, x21, od, pi, hDb⟩ := htb
  have nb : ∀ b t, u.1 b = some t → t ≠ 92 → ∀ j, Gb b j = zp_n u.2.1 b j := fun b t hbt ht j => (x2 b j (zp_pne hbt hp ht)).trans ((zp_set_ne (Or.inl (zp_pne hbt hp ht))).trans (zp_set_ne (Or.inl (zp_pne hbt hp ht))))
  have hwb : zDw u.1 true a Gb := by
    obtain ⟨y0, b31, b32, ⟨y1, y2, y3⟩, y4, y5, y6⟩ := hw0
    exact ⟨x20, b31, b32, ⟨((x1 31 (by decide) (by decide) (by decide) (by decide) (by decide) (by decide) (by decide) (by decide) (by decide) (by decide)).trans ((zp_set_ne (Or.inr (by decide))).trans (zp_set_ne (Or.inr (by decide))))).trans y1, y2, fun k hk => (nb _ _ y2 (by decide) _).trans (y3 k hk)⟩, ((x1 32 (by decide) (by decide) (by decide) (by decide) (by decide) (by decide) (by decide) (by decide) (by decide) (by decide)).trans ((zp_set_ne (Or.inr (by decide))).trans (zp_set_ne (Or.inr (by decide))))).trans y4, y5, fun k hk => (nb _ _ y5 (by decide) _).trans (y6 k hk)⟩
  have hTb : zDt u.1 a Gb := by
    obtain ⟨c12, c24, c25, c27, c28, ⟨⟨e12, p12⟩, ⟨e24, p24⟩, ⟨e25, p25⟩⟩, ⟨e27, p27⟩, ⟨e28, p28⟩⟩ := hT0
    exact ⟨c12, c24, c25, c27, c28, ⟨⟨((x1 12 (by decide) (by decide) (by decide) (by decide) (by decide) (by decide) (by decide) (by decide) (by decide) (by decide)).trans ((zp_set_ne (Or.inr (by decide))).trans (zp_set_ne (Or.inr (by decide))))).trans e12, p12⟩, ⟨((x1 24 (by decide) (by decide) (by decide) (by decide) (by decide) (by decide) (by decide) (by decide) (by decide) (by decide)).trans ((zp_set_ne (Or.inr (by decide))).trans (zp_set_ne (Or.inr (by decide))))).trans e24, p24⟩, ⟨((x1 25 (by decide) (by decide) (by decide) (by decide) (by decide) (by decide) (by decide) (by decide) (by decide) (by decide)).trans ((zp_set_ne (Or.inr (by decide))).trans (zp_set_ne (Or.inr (by decide))))).trans e25, p25⟩⟩, ⟨((x1 27 (by decide) (by decide) (by decide) (by decide) (by decide) (by decide) (by decide) (by decide) (by decide) (by decide)).trans ((zp_set_ne (Or.inr (by decide))).trans (zp_set_ne (Or.inr (by decide))))).trans e27, p27⟩, ⟨((x1 28 (by decide) (by decide) (by decide) (by decide) (by decide) (by decide) (by decide) (by decide) (by decide) (by decide)).trans ((zp_set_ne (Or.inr (by decide))).trans (zp_set_ne (Or.inr (by decide))))).trans e28, p28⟩⟩
  have xb6 : Gb a 6 = (b6 : Int) := ((x1 6 (by decide) (by decide) (by decide) (by decide) (by decide) (by decide) (by decide) (by decide) (by decide) (by decide)).trans ((zp_set_ne (Or.inr (by decide))).trans (zp_set_ne (Or.inr (by decide))))).trans hb6
  have xb7 : Gb a 7 = (b7 : Int) := ((x1 7 (by decide) (by decide) (by decide) (by decide) (by decide) (by decide) (by decide) (by decide) (by decide) (by decide)).trans ((zp_set_ne (Or.inr (by decide))).trans (zp_set_ne (Or.inr (by decide))))).trans hb7
  have xb9 : Gb a 9 = (b9 : Int) := ((x1 9 (by decide) (by decide) (by decide) (by decide) (by decide) (by decide) (by decide) (by decide) (by decide) (by decide)).trans ((zp_set_ne (Or.inr (by decide))).trans (zp_set_ne (Or.inr (by decide))))).trans hb9
  have xb10 : Gb a 10 = (b10 : Int) := ((x1 10 (by decide) (by decide) (by decide) (by decide) (by decide) (by decide) (by decide) (by decide) (by decide) (by decide)).trans ((zp_set_ne (Or.inr (by decide))).trans (zp_set_ne (Or.inr (by decide))))).trans hb10
  have xb24 : Gb a 24 = (b24 : Int) := ((x1 24 (by decide) (by decide) (by decide) (by decide) (by decide) (by decide) (by decide) (by decide) (by decide) (by decide)).trans ((zp_set_ne (Or.inr (by decide))).trans (zp_set_ne (Or.inr (by decide))))).trans hb24
  have xb25 : Gb a 25 = (b25 : Int) := ((x1 25 (by decide) (by decide) (by decide) (by decide) (by decide) (by decide) (by decide) (by decide) (by decide) (by decide)).trans ((zp_set_ne (Or.inr (by decide))).trans (zp_set_ne (Or.inr (by decide))))).trans hb25
  have xb56 : Gb a 56 = (b56 : Int) := ((x1 56 (by decide) (by decide) (by decide) (by decide) (by decide) (by decide) (by decide) (by decide) (by decide) (by decide)).trans ((zp_set_ne (Or.inr (by decide))).trans (zp_set_ne (Or.inr (by decide))))).trans hb56
  have hbx21 : Gb a 21 = ((0 : Nat) : Int) := x21
  refine zp_load (pc := 15) hx hb (zd_X12_orders (15, .aload_n 0, 1, 0, []) (List.mem_of_getElem? (i := 9) rfl)) rfl (j := 0) rfl ?_
  refine zp_call (pc := 16) (how := 0) (idx := 549) (mi := 288) (S := []) hx hb hE hw heff hrm (zY_ro hW 0 B ln 0 0 od pi (fun j => zv (zp_set (zp_set (zp_n u.2.1) a 0 0) a 59 (-1)) a 24 j, fun j => zv (zp_set (zp_set (zp_n u.2.1) a 0 0) a 59 (-1)) a 25 j, 0)) rfl (j := 69) rfl rfl (by decide +kernel) (zd_X12_orders (16, .invokevirtual 549, 3, 0, []) (List.mem_of_getElem? (i := 10) rfl)) [(a : Int)] rfl ⟨zp_o2 hp, trivial⟩ (Nat.le_of_ble_eq_true rfl) ⟨hDb, by decide, Nat.zero_le _, hwb, hTb, hbx21, by decide⟩ (fun al hal rnl Pl Gl hextl hfrl hokl hcsl hpsil => ?_)
  obtain rfl := List.mem_singleton.mp hal
  obtain ⟨rfl, htl⟩ := hpsil
  have hwl := zDw_fr hwb hp hfrl rfl
  have hTl := zDt_fr hTb hp hfrl rfl
  have l6 : Gl a 6 = (b6 : Int) := (zp_nf hfrl hp rfl).trans xb6
  have l7 : Gl a 7 = (b7 : Int) := (zp_nf hfrl hp rfl).trans xb7
  have l9 : Gl a 9 = (b9 : Int) := (zp_nf hfrl hp rfl).trans xb9
  have l10 : Gl a 10 = (b10 : Int) := (zp_nf hfrl hp rfl).trans xb10
  have l24 : Gl a 24 = (b24 : Int) := (zp_nf hfrl hp rfl).trans xb24
  have l25 : Gl a 25 = (b25 : Int) := (zp_nf hfrl hp rfl).trans xb25
  have l56 : Gl a 56 = (b56 : Int) := (zp_nf hfrl hp rfl).trans xb56
  obtain ⟨sq, hsq, hcs⟩ := htl.2 (by decide)
  rcases hcs with ⟨q, hq, y1, y2⟩ | ⟨p2, n2, K, od2, pi2, cd2, hq, hD2, hn2, hc2, hcc, hold, h21n, h22n, hK, hfr2⟩
  · subst hq
    exact hbad0 q Gl y1 y2 ⟨_, hsq, Or.inl ⟨q, rfl, rfl⟩⟩
  · subst hq
    exact loopq 401 [K] p2 n2 od2 pi2 cd2 Gl (by omega) hD2 hn2 hc2 hwl hTl h21n (Nat.le_of_ble_eq_true rfl) (Nat.le_of_ble_eq_true rfl) ⟨hK, trivial⟩ l6 l7 l9 l10 l24 l25 l56 (fun t ht => yT_b hsq ht)
