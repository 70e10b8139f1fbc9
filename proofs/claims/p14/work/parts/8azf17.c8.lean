/-! part c8: the reference: readLaw, exactly -/
/-- the heads it knows -/
noncomputable def zDh (P : Nat → Option Nat) (a : Nat) (G : Nat → Nat → Int) : Prop := ∃ b33 : Nat, G a 33 = (b33 : Int) ∧ P b33 = some 74 ∧ ∀ k : Nat, k < 5 → G b33 (2000 + k) = ywh.getD k 0
theorem zDh_fr {P : Nat → Option Nat} {a : Nat} {G G' : Nat → Nat → Int} {eff : List (Nat × Nat × Nat)} {ps : List Int} (h : zDh P a G) (hp : P a = some 92) (hfr : zp_fr eff ps P G G') (he : (zp_nfb eff 92 33 && zp_ncb eff 74) = true) : zDh P a G' := by
  simp only [Bool.and_eq_true] at he
  obtain ⟨b33, h1, h2, h3⟩ := h
  exact ⟨b33, (zp_nf hfr hp he.1).trans h1, h2, fun k hk => (zp_nc hfr h2 he.2 _).trans (h3 k hk)⟩
/-- another array that is written -/
theorem zD_ow {a b i : Nat} {v : Int} {G : Nat → Nat → Int} {bad : Int} {B : Nat → Int} {ln tk nl od : Nat} {pi : List (Int × Int)} {cd : yC} {b12 b24 b25 b27 b28 : Nat} (h : zD a G bad B ln tk nl od pi cd) (hb : zDb a G b12 b24 b25 b27 b28) (ha : b ≠ a) (h12 : b12 ≠ b) (h24 : b24 ≠ b) (h25 : b25 ≠ b) (h27 : b27 ≠ b) (h28 : b28 ≠ b) : zD a (zp_set G b i v) bad B ln tk nl od pi cd := by
  have hk : ∀ k, zp_set G b i v a k = G a k := fun k => zp_set_ne (Or.inl (fun z => ha z.symm))
  have hv : ∀ k d, G a k = ((d : Nat) : Int) → d ≠ b → ∀ j, zv (zp_set G b i v) a k j = zv G a k j := fun k d hd hne j => by
    rw [zv_eq ((hk k).trans hd), zv_eq hd]
    exact zp_set_ne (Or.inl hne)
  obtain ⟨⟨e12, e24, e25, e27, e28⟩, -⟩ := hb
  refine zD_congr h (fun k _ => hk k) (fun k hkv j => ?_)
  have hk9 : k = 12 ∨ k = 24 ∨ k = 25 ∨ k = 27 ∨ k = 28 := by
    unfold zDv at hkv
    simp only [Bool.or_eq_true, beq_iff_eq] at hkv
    omega
  rcases hk9 with rfl | rfl | rfl | rfl | rfl
  · exact hv _ _ e12 h12 j
  · exact hv _ _ e24 h24 j
  · exact hv _ _ e25 h25 j
  · exact hv _ _ e27 h27 j
  · exact hv _ _ e28 h28 j
/-- what comes of a clause of a law -/
noncomputable def zDc (a : Nat) (G G' : Nat → Nat → Int) (B : Nat → Int) (ln tk nl n0 : Nat) (cd : yC) : Prop :=
  (n0 = 12 → (∃ (tk nl od : Nat) (pi : List (Int × Int)) (cd : yC), zD a G' 1 B ln tk nl od pi cd) ∧ G' a 18 = (zy_fr B ln tk : Int)) ∧
  (n0 < 12 → ∃ s, yt_cl (zy_so B ln) (zy_wo B ln) (zy_to B ln) (ylf false B ln) tk nl s ∧ ((∃ q, s = Sum.inl q ∧ (∃ (tk nl od : Nat) (pi : List (Int × Int)) (cd : yC), zD a G' 1 B ln tk nl od pi cd) ∧ G' a 18 = (zy_fr B ln q : Int)) ∨ ∃ (p2 n2 : Nat) (K : yK) (od : Nat) (pi : List (Int × Int)) (cd' : yC), s = Sum.inr (p2, n2, K) ∧ zD a G' 0 B ln p2 n2 od pi cd' ∧ n2 ≤ 50 ∧ cd'.2.2 ≤ zy_fr B ln p2 ∧ cd.2.2 ≤ cd'.2.2 ∧ (∀ j, j < cd.2.2 → cd'.1 j = cd.1 j ∧ cd'.2.1 j = cd.2.1 j) ∧ G' a 21 = ((n0 + 1 : Nat) : Int) ∧ (∀ j, j < 8 * n0 → zv G' a 22 j = zv G a 22 j) ∧ zLc (zv G' a 22) cd'.1 cd'.2.1 cd'.2.2 n0 K ∧ zy_fr B ln tk < zy_fr B ln p2))
theorem zy_rn_mid {f : Int → Bool} {B : Nat → Int} {ln : Nat} : ∀ (n p q : Nat), p ≤ q → q ≤ zy_rn f B ln n p → zy_rn f B ln n p = zy_rn f B ln (n - (q - p)) q
  | 0, p, q, h1, h2 => by
    have h2 : q ≤ p := h2
    obtain rfl : p = q := by omega
    rw [Nat.sub_self]
  | n + 1, p, q, h1, h2 => by
    by_cases e : p = q
    · subst e
      rw [Nat.sub_self]
      rfl
    · have u : zy_rn f B ln (n + 1) p = if p < ln ∧ f (B p) = true then zy_rn f B ln n (p + 1) else p := rfl
      rw [u] at h2 ⊢
      by_cases hc : p < ln ∧ f (B p) = true
      · rw [if_pos hc] at h2 ⊢
        rw [zy_rn_mid n (p + 1) q (by omega) h2, show n - (q - (p + 1)) = n + 1 - (q - p) by omega]
      · rw [if_neg hc] at h2
        omega
theorem zy_r_mid {B : Nat → Int} {ln p p1 : Nat} (h : p < p1) (hq : p1 ≤ zy_fr B ln p) : zy_fr B ln p = zy_fr B ln p1 := by
  unfold zy_fr zy_r at hq ⊢
  have e := zy_rn_mid (f := zy_bl) (B := B) (ln := ln) (ln - p) p p1 (by omega) hq
  rw [e, show ln - p - (p1 - p) = ln - p1 by omega]
theorem zy_fr_lt {B : Nat → Int} {ln p p1 : Nat} (h : p < p1) (hp : p1 ≤ ln) : zy_fr B ln p ≤ zy_fr B ln p1 := by
  by_cases hq : p1 ≤ zy_fr B ln p
  · have h1 : zy_fr B ln p = zy_fr B ln p1 := zy_r_mid h hq
    omega
  · have := (zy_fr_le (B := B) hp).1
    omega
/-- where a reading of it ends -/
theorem yZ_fr (ord : Bool) {B : Nat → Int} {ln k n p p1 n1 : Nat} {y : yD} (hp : p ≤ ln) (h : yZ (zy_so B ln) (zy_wo B ln) (zy_to B ln) (ylf ord B ln) k 0 n p yx0 (Sum.inr (p1, n1, y))) (hk : k = 3 ∨ k = 8) : zy_fr B ln p ≤ zy_fr B ln p1 := by
  obtain ⟨s, h1, h2⟩ := yZ_tot (so := zy_so B ln) (wo := zy_wo B ln) (nx := zy_to B ln) (lf := ylf ord B ln) (ln := ln) (fun p h => (zy_to_le h).2.1) (fun p h hs => by have h1 := (zy_to_le (B := B) h).2.2 hs; have h2 := (zy_fr_le (B := B) h).1; omega) (fun p p1 oo aa h hl => by have := ylf_to h hl; exact ⟨this.2.1, this.2.2.2⟩) _ k 0 n p yx0 hp (by omega) (Nat.lt_succ_self _)
  have e := yZ_det h h1
  obtain ⟨g1, g2, g3⟩ := h2 p1 n1 y e.symm
  exact zy_fr_lt (g3 (by omega)) g1
theorem zDw_o {P : Nat → Option Nat} {ord : Bool} {a b t i : Nat} {v : Int} {G : Nat → Nat → Int} (h : zDw P ord a G) (ha : b ≠ a) (ht : t ≠ 72 ∧ t ≠ 73) (hb : P b = some t) : zDw P ord a (zp_set G b i v) := by
  obtain ⟨h0, b31, b32, ⟨h1, h2, h3⟩, h4, h5, h6⟩ := h
  have n1 : b31 ≠ b := zp_pne h2 hb (fun z => ht.1 z.symm)
  have n2 : b32 ≠ b := zp_pne h5 hb (fun z => ht.2 z.symm)
  have n0 : a ≠ b := fun z => ha z.symm
  exact ⟨(zp_set_ne (Or.inl n0)).trans h0, b31, b32, ⟨(zp_set_ne (Or.inl n0)).trans h1, h2, fun j hj => (zp_set_ne (Or.inl n1)).trans (h3 j hj)⟩, (zp_set_ne (Or.inl n0)).trans h4, h5, fun j hj => (zp_set_ne (Or.inl n2)).trans (h6 j hj)⟩
noncomputable def zφD_la (n0 : Nat) (B : Nat → Int) (ln tk nl od : Nat) (pi : List (Int × Int)) (cd : yC) : (Nat → Option Nat) → (Nat → Nat → Int) → List Int → Prop := fun P G ps => zD (zp_0 ps) G 0 B ln tk nl od pi cd ∧ nl ≤ 50 ∧ cd.2.2 ≤ zy_fr B ln tk ∧ zDw P false (zp_0 ps) G ∧ zDh P (zp_0 ps) G ∧ G (zp_0 ps) 21 = (n0 : Int) ∧ n0 ≤ 12
noncomputable def zψD_la (n0 : Nat) (B : Nat → Int) (ln tk nl od : Nat) (pi : List (Int × Int)) (cd : yC) : (Nat → Option Nat) → (Nat → Nat → Int) → List Int → (Nat → Option Nat) → (Nat → Nat → Int) → Int → Prop := fun P G ps P' G' rn => P' = P ∧ zDc (zp_0 ps) G G' B ln tk nl n0 cd
set_option maxHeartbeats 8000000 in
theorem zY_la {l : Launch} {w : zk_W} (hW : zh_W w) (n0 : Nat) (B : Nat → Int) (ln tk nl od : Nat) (pi : List (Int × Int)) (cd : yC) : zk_metX l w zt_dv zt_TB zK_la (zp_A (zφD_la n0 B ln tk nl od pi cd)) (zp_B (zψD_la n0 B ln tk nl od pi cd)) ∧ zk_cok w zt_TB zK_la := by
  refine zp_meth hW (pl := 1700) rfl (by decide +kernel) (fun p e R s m args below meth c Q u hx hb hE hQ hU5 heff hnL hok hφ => ?_)
  have hw := hW.1
  obtain ⟨p0, hps, k0⟩ := zp_ps1 hok
  obtain ⟨a, rfl, hp⟩ := zp_this k0
  have hrm : zk_Kr (zk_ev (zp_E zK_la)) = zk_Kr zK_la := rfl
  rw [hps] at hφ ⊢
  have hφ : zD a (zp_n u.2.1) 0 B ln tk nl od pi cd ∧ nl ≤ 50 ∧ cd.2.2 ≤ zy_fr B ln tk ∧ zDw u.1 false a (zp_n u.2.1) ∧ zDh u.1 a (zp_n u.2.1) ∧ (zp_n u.2.1) a 21 = (n0 : Int) ∧ n0 ≤ 12 := hφ
  obtain ⟨hD, hn5, hc5, hw0, hh0, h21, hn12⟩ := hφ
  have hD2 := hD
  obtain ⟨⟨d13, dl, dt, d12, dB⟩, ⟨d14, d15, d16, d17⟩, ⟨d19, d18⟩, ⟨d23, d24, d25⟩, d26, ⟨d29, dp⟩, d30⟩ := hD2
  have hh02 := hh0
  obtain ⟨b33, hb33, hq33, hwd⟩ := hh02
  show zp_J p l e R s m args below meth c Q w u [] 0 [(0, 2, (a : Int))] [] u.1 (zp_n u.2.1)
  refine zp_kn (k := 12) (a := a) hw (show zp_fd 92 12 = some (12, 2, 66, 0, 0) from rfl) rfl hp (fun hk12 => ?_)
  obtain ⟨b12, hb12, hq12⟩ := zp_this hk12
  refine zp_kn (k := 22) (a := a) hw (show zp_fd 92 22 = some (12, 2, 67, 0, 0) from rfl) rfl hp (fun hk22 => ?_)
  obtain ⟨b22, hb22, hq22⟩ := zp_this hk22
  refine zp_kn (k := 24) (a := a) hw (show zp_fd 92 24 = some (12, 2, 68, 0, 0) from rfl) rfl hp (fun hk24 => ?_)
  obtain ⟨b24, hb24, hq24⟩ := zp_this hk24
  refine zp_kn (k := 25) (a := a) hw (show zp_fd 92 25 = some (12, 2, 69, 0, 0) from rfl) rfl hp (fun hk25 => ?_)
  obtain ⟨b25, hb25, hq25⟩ := zp_this hk25
  refine zp_kn (k := 27) (a := a) hw (show zp_fd 92 27 = some (12, 2, 70, 0, 0) from rfl) rfl hp (fun hk27 => ?_)
  obtain ⟨b27, hb27, hq27⟩ := zp_this hk27
  refine zp_kn (k := 28) (a := a) hw (show zp_fd 92 28 = some (12, 2, 71, 0, 0) from rfl) rfl hp (fun hk28 => ?_)
  obtain ⟨b28, hb28, hq28⟩ := zp_this hk28
  obtain ⟨so, hso⟩ : ∃ x : Nat, x = zy_so B ln tk := ⟨_, rfl⟩
  rw [← hso] at d16
  obtain ⟨wv, hwv⟩ : ∃ x : Int, x = zy_wo B ln tk := ⟨_, rfl⟩
  rw [← hwv] at d17
  have hft := zy_nx (B := B) dt
  have h96 : ∀ (k3 its : Int) (G : Nat → Nat → Int), n0 < 12 → its = yt_hl (zy_so B ln) (zy_wo B ln) tk → ¬ its = -1 → zD a G 0 B ln (zy_to B ln tk) nl od pi cd → zDw u.1 false a G → G a 21 = (n0 : Int) → G a 22 = (b22 : Int) → (∀ j, j < 8 * n0 → G b22 (2000 + j) = zp_n u.2.1 b22 (2000 + j)) → zp_J p l e R s m args below meth c Q w u [] 96 [(3, 0, k3), (2, 0, (8 * (n0 : Int))), (1, 0, its), (0, 2, (a : Int))] [] u.1 G := by
    intro k3 its G hn0 hits hne hG hwG g21 g22 z22
    have hs1 : so = 1 := by
      rw [yt_hl_eq, ← hso] at hits
      by_cases z : so = 1
      · exact z
      · rw [if_neg z] at hits
        exact absurd hits hne
    have hir : 0 ≤ its ∧ its ≤ 4 := by
      rw [yt_hl_eq, if_pos (by omega)] at hits
      have := ych_r ywh 0 (zy_wo B ln tk)
      have e : (ywh.length : Int) = 5 := rfl
      omega
    have hft2 := hft.2.2 (by omega)
    have hfr2 := zy_fr_le (B := B) hft.1
    have hG2 := hG
    obtain ⟨⟨g13, gl, gt, g12, gB⟩, ⟨g14, g15, g16, g17⟩, ⟨g19, g18⟩, ⟨g23, g24, g25⟩, g26, ⟨g29, gp⟩, g30⟩ := hG2
    obtain ⟨nc, hnc⟩ : ∃ x : Nat, x = cd.2.2 := ⟨_, rfl⟩
    rw [← hnc] at g23
    refine zp_kn (k := 12) (a := a) (G := G) hw (show zp_fd 92 12 = some (12, 2, 66, 0, 0) from rfl) rfl hp (fun hk12x => ?_)
    obtain ⟨c12, hc12, hr12⟩ := zp_this hk12x
    refine zp_kn (k := 24) (a := a) (G := G) hw (show zp_fd 92 24 = some (12, 2, 68, 0, 0) from rfl) rfl hp (fun hk24x => ?_)
    obtain ⟨c24, hc24, hr24⟩ := zp_this hk24x
    refine zp_kn (k := 25) (a := a) (G := G) hw (show zp_fd 92 25 = some (12, 2, 69, 0, 0) from rfl) rfl hp (fun hk25x => ?_)
    obtain ⟨c25, hc25, hr25⟩ := zp_this hk25x
    refine zp_kn (k := 27) (a := a) (G := G) hw (show zp_fd 92 27 = some (12, 2, 70, 0, 0) from rfl) rfl hp (fun hk27x => ?_)
    obtain ⟨c27, hc27, hr27⟩ := zp_this hk27x
    refine zp_kn (k := 28) (a := a) (G := G) hw (show zp_fd 92 28 = some (12, 2, 71, 0, 0) from rfl) rfl hp (fun hk28x => ?_)
    obtain ⟨c28, hc28, hr28⟩ := zp_this hk28x
    have hDb : zDb a G c12 c24 c25 c27 c28 := ⟨⟨hc12, hc24, hc25, hc27, hc28⟩, ⟨zp_pne hr24 hp (by decide), zp_pne hr25 hp (by decide), zp_pne hr27 hp (by decide), zp_pne hr28 hp (by decide)⟩, ⟨zp_pne hr12 hr24 (by decide), zp_pne hr12 hr25 (by decide), zp_pne hr12 hr27 (by decide), zp_pne hr12 hr28 (by decide)⟩, zp_pne hr24 hr25 (by decide), zp_pne hr24 hr27 (by decide), zp_pne hr24 hr28 (by decide), zp_pne hr25 hr27 (by decide), zp_pne hr25 hr28 (by decide), zp_pne hr27 hr28 (by decide)⟩
    have hx12 : c12 ≠ b22 := zp_pne hr12 hq22 (by decide)
    have hx24 : c24 ≠ b22 := zp_pne hr24 hq22 (by decide)
    have hx25 : c25 ≠ b22 := zp_pne hr25 hq22 (by decide)
    have hx27 : c27 ≠ b22 := zp_pne hr27 hq22 (by decide)
    have hx28 : c28 ≠ b22 := zp_pne hr28 hq22 (by decide)
    have hA22 : zp_n u.2.1 a 22 = (b22 : Int) := hb22
    have hb22 : b22 ≠ a := zp_pne hq22 hp (by decide)
    refine zp_load (pc := 96) hx hb (zd_X12_readLaw (96, .aload_n 0, 1, 0, []) (List.mem_of_getElem? (i := 55) rfl)) rfl (j := 3) rfl ?_
    refine zp_getf (n := (b22 : Int)) (pc := 97) hx hb hE hw (zd_X12_readLaw (97, .getfield 42, 3, 0, []) (List.mem_of_getElem? (i := 56) rfl)) (j := 40) rfl rfl rfl hp g22 ?_
    refine zp_load (pc := 100) hx hb (zd_X12_readLaw (100, .iload_n 2, 1, 0, []) (List.mem_of_getElem? (i := 57) rfl)) rfl (j := 1) rfl ?_
    refine zp_load (pc := 101) hx hb (zd_X12_readLaw (101, .iload_n 1, 1, 0, []) (List.mem_of_getElem? (i := 58) rfl)) rfl (j := 2) rfl ?_
    refine zp_iast (j := (8 * n0)) (pc := 102) hx hb hw heff (zd_X12_readLaw (102, .iastore, 1, 0, []) (List.mem_of_getElem? (i := 59) rfl)) (show zp_ia 1 67 = some (96, 0, 0, (-2147483648), 2147483647) from rfl) hq22 (by omega) (by omega) (zp_o0 (by omega) (by omega) (by omega) (by omega)) rfl ?_
    refine zp_load (pc := 103) hx hb (zd_X12_readLaw (103, .aload_n 0, 1, 0, []) (List.mem_of_getElem? (i := 60) rfl)) rfl (j := 3) rfl ?_
    refine zp_dup (pc := 104) hx hb (zd_X12_readLaw (104, .dup, 1, 0, []) (List.mem_of_getElem? (i := 61) rfl)) (show (2 : Nat) ≠ 1 by decide) ?_
    refine zp_getf (n := (n0 : Int)) (pc := 105) hx hb hE hw (zd_X12_readLaw (105, .getfield 371, 3, 0, []) (List.mem_of_getElem? (i := 62) rfl)) (j := 39) rfl rfl rfl hp ((zp_set_ne (Or.inl (zp_pne hp hq22 (by decide)))).trans (g21)) ?_
    refine zp_const (pc := 108) hx hb (zd_X12_readLaw (108, .iconst 1, 1, 0, []) (List.mem_of_getElem? (i := 63) rfl)) rfl rfl ?_
    refine zp_add (n := ((n0 : Int) + 1)) (pc := 109) hx hb (zd_X12_readLaw (109, .iadd, 1, 0, []) (List.mem_of_getElem? (i := 64) rfl)) (by omega) (zp_r0 (by omega) (by omega)) ?_
    refine zp_putf (pc := 110) hx hb hE hw heff (zd_X12_readLaw (110, .putfield 371, 3, 0, []) (List.mem_of_getElem? (i := 65) rfl)) (j := 39) rfl rfl rfl hp (zp_o0 (by omega) (by omega) (by omega) (by omega)) ?_
    refine zp_load (pc := 113) hx hb (zd_X12_readLaw (113, .aload_n 0, 1, 0, []) (List.mem_of_getElem? (i := 66) rfl)) rfl (j := 3) rfl ?_
    refine zp_getf (n := (b22 : Int)) (pc := 114) hx hb hE hw (zd_X12_readLaw (114, .getfield 42, 3, 0, []) (List.mem_of_getElem? (i := 67) rfl)) (j := 40) rfl rfl rfl hp ((zp_set_ne (Or.inr (by decide))).trans ((zp_set_ne (Or.inl (zp_pne hp hq22 (by decide)))).trans (g22))) ?_
    refine zp_load (pc := 117) hx hb (zd_X12_readLaw (117, .iload_n 2, 1, 0, []) (List.mem_of_getElem? (i := 68) rfl)) rfl (j := 1) rfl ?_
    refine zp_const (pc := 118) hx hb (zd_X12_readLaw (118, .iconst 3, 1, 0, []) (List.mem_of_getElem? (i := 69) rfl)) rfl rfl ?_
    refine zp_add (n := (8 * (n0 : Int) + 3)) (pc := 119) hx hb (zd_X12_readLaw (119, .iadd, 1, 0, []) (List.mem_of_getElem? (i := 70) rfl)) (by omega) (zp_r0 (by omega) (by omega)) ?_
    refine zp_load (pc := 120) hx hb (zd_X12_readLaw (120, .aload_n 0, 1, 0, []) (List.mem_of_getElem? (i := 71) rfl)) rfl (j := 3) rfl ?_
    refine zp_getf (n := (nc : Int)) (pc := 121) hx hb hE hw (zd_X12_readLaw (121, .getfield 279, 3, 0, []) (List.mem_of_getElem? (i := 72) rfl)) (j := 41) rfl rfl rfl hp ((zp_set_ne (Or.inr (by decide))).trans ((zp_set_ne (Or.inl (zp_pne hp hq22 (by decide)))).trans (g23))) ?_
    refine zp_iast (j := (8 * n0 + 3)) (pc := 124) hx hb hw heff (zd_X12_readLaw (124, .iastore, 1, 0, []) (List.mem_of_getElem? (i := 73) rfl)) (show zp_ia 1 67 = some (96, 0, 0, (-2147483648), 2147483647) from rfl) hq22 (by omega) (by omega) (zp_o0 (by omega) (by omega) (by omega) (by omega)) rfl ?_
    refine zp_load (pc := 125) hx hb (zd_X12_readLaw (125, .iload_n 1, 1, 0, []) (List.mem_of_getElem? (i := 74) rfl)) rfl (j := 2) rfl ?_
    refine zp_const (pc := 126) hx hb (zd_X12_readLaw (126, .iconst 4, 1, 0, []) (List.mem_of_getElem? (i := 75) rfl)) rfl rfl ?_
    refine zp_icmp (pc := 127) (tgt := 135) hx hb (zd_X12_readLaw (127, .if_icmp .eq 8, 3, 0, []) (List.mem_of_getElem? (i := 76) rfl)) rfl (fun (hcq21 : its = 4) => ?_) (fun (hcq21 : ¬ (its = 4)) => ?_)
    · have hD1 : zD a (zp_set (zp_set (zp_set G b22 (2000 + (8 * n0)) its) a 21 ((n0 : Int) + 1)) b22 (2000 + (8 * n0 + 3)) (nc : Int)) 0 B ln (zy_to B ln tk) nl od pi cd := (zD_ow (zD_f (k := 21) (zD_ow hG hDb hb22 hx12 hx24 hx25 hx27 hx28) rfl rfl (by decide)) (zDb_s (b := a) (k := 21) (zDb_s hDb (Or.inl hb22)) (Or.inr rfl)) hb22 hx12 hx24 hx25 hx27 hx28)
      have hdbe : zDb a (zp_set (zp_set (zp_set G b22 (2000 + (8 * n0)) its) a 21 ((n0 : Int) + 1)) b22 (2000 + (8 * n0 + 3)) (nc : Int)) c12 c24 c25 c27 c28 := (zDb_s (zDb_s (b := a) (k := 21) (zDb_s hDb (Or.inl hb22)) (Or.inr rfl)) (Or.inl hb22))
      have hwe : zDw u.1 false a (zp_set (zp_set (zp_set G b22 (2000 + (8 * n0)) its) a 21 ((n0 : Int) + 1)) b22 (2000 + (8 * n0 + 3)) (nc : Int)) := (zDw_o (zDw_s (zDw_o hwG (zp_pne hq22 hp (by decide)) (by decide) hq22) hp (by decide)) (zp_pne hq22 hp (by decide)) (by decide) hq22)
      have hDx := hD1
      refine zp_load (pc := 135) hx hb (zd_X12_readLaw (135, .aload_n 0, 1, 0, []) (List.mem_of_getElem? (i := 80) rfl)) rfl (j := 3) rfl ?_
      refine zp_getf (n := (b22 : Int)) (pc := 136) hx hb hE hw (zd_X12_readLaw (136, .getfield 42, 3, 0, []) (List.mem_of_getElem? (i := 81) rfl)) (j := 40) rfl rfl rfl hp ((zp_set_ne (Or.inl (zp_pne hp hq22 (by decide)))).trans ((zp_set_ne (Or.inr (by decide))).trans ((zp_set_ne (Or.inl (zp_pne hp hq22 (by decide)))).trans (g22)))) ?_
      refine zp_load (pc := 139) hx hb (zd_X12_readLaw (139, .iload_n 2, 1, 0, []) (List.mem_of_getElem? (i := 82) rfl)) rfl (j := 1) rfl ?_
      refine zp_const (pc := 140) hx hb (zd_X12_readLaw (140, .iconst 4, 1, 0, []) (List.mem_of_getElem? (i := 83) rfl)) rfl rfl ?_
      refine zp_add (n := (8 * (n0 : Int) + 4)) (pc := 141) hx hb (zd_X12_readLaw (141, .iadd, 1, 0, []) (List.mem_of_getElem? (i := 84) rfl)) (by omega) (zp_r0 (by omega) (by omega)) ?_
      refine zp_load (pc := 142) hx hb (zd_X12_readLaw (142, .aload_n 0, 1, 0, []) (List.mem_of_getElem? (i := 85) rfl)) rfl (j := 3) rfl ?_
      refine zp_getf (n := (nc : Int)) (pc := 143) hx hb hE hw (zd_X12_readLaw (143, .getfield 279, 3, 0, []) (List.mem_of_getElem? (i := 86) rfl)) (j := 41) rfl rfl rfl hp ((zp_set_ne (Or.inl (zp_pne hp hq22 (by decide)))).trans ((zp_set_ne (Or.inr (by decide))).trans ((zp_set_ne (Or.inl (zp_pne hp hq22 (by decide)))).trans (g23)))) ?_
      refine zp_iast (j := (8 * n0 + 4)) (pc := 146) hx hb hw heff (zd_X12_readLaw (146, .iastore, 1, 0, []) (List.mem_of_getElem? (i := 87) rfl)) (show zp_ia 1 67 = some (96, 0, 0, (-2147483648), 2147483647) from rfl) hq22 (by omega) (by omega) (zp_o0 (by omega) (by omega) (by omega) (by omega)) rfl ?_
      refine zp_load (pc := 147) hx hb (zd_X12_readLaw (147, .aload_n 0, 1, 0, []) (List.mem_of_getElem? (i := 88) rfl)) rfl (j := 3) rfl ?_
      refine zp_getf (n := (b22 : Int)) (pc := 148) hx hb hE hw (zd_X12_readLaw (148, .getfield 42, 3, 0, []) (List.mem_of_getElem? (i := 89) rfl)) (j := 40) rfl rfl rfl hp ((zp_set_ne (Or.inl (zp_pne hp hq22 (by decide)))).trans ((zp_set_ne (Or.inl (zp_pne hp hq22 (by decide)))).trans ((zp_set_ne (Or.inr (by decide))).trans ((zp_set_ne (Or.inl (zp_pne hp hq22 (by decide)))).trans (g22))))) ?_
      refine zp_load (pc := 151) hx hb (zd_X12_readLaw (151, .iload_n 2, 1, 0, []) (List.mem_of_getElem? (i := 90) rfl)) rfl (j := 1) rfl ?_
      refine zp_const (pc := 152) hx hb (zd_X12_readLaw (152, .iconst 5, 1, 0, []) (List.mem_of_getElem? (i := 91) rfl)) rfl rfl ?_
      refine zp_add (n := (8 * (n0 : Int) + 5)) (pc := 153) hx hb (zd_X12_readLaw (153, .iadd, 1, 0, []) (List.mem_of_getElem? (i := 92) rfl)) (by omega) (zp_r0 (by omega) (by omega)) ?_
      refine zp_load (pc := 154) hx hb (zd_X12_readLaw (154, .aload_n 0, 1, 0, []) (List.mem_of_getElem? (i := 93) rfl)) rfl (j := 3) rfl ?_
      refine zp_getf (n := (nc : Int)) (pc := 155) hx hb hE hw (zd_X12_readLaw (155, .getfield 279, 3, 0, []) (List.mem_of_getElem? (i := 94) rfl)) (j := 41) rfl rfl rfl hp ((zp_set_ne (Or.inl (zp_pne hp hq22 (by decide)))).trans ((zp_set_ne (Or.inl (zp_pne hp hq22 (by decide)))).trans ((zp_set_ne (Or.inr (by decide))).trans ((zp_set_ne (Or.inl (zp_pne hp hq22 (by decide)))).trans (g23))))) ?_
      refine zp_iast (j := (8 * n0 + 5)) (pc := 158) hx hb hw heff (zd_X12_readLaw (158, .iastore, 1, 0, []) (List.mem_of_getElem? (i := 95) rfl)) (show zp_ia 1 67 = some (96, 0, 0, (-2147483648), 2147483647) from rfl) hq22 (by omega) (by omega) (zp_o0 (by omega) (by omega) (by omega) (by omega)) rfl ?_
      refine zp_load (pc := 159) hx hb (zd_X12_readLaw (159, .aload_n 0, 1, 0, []) (List.mem_of_getElem? (i := 96) rfl)) rfl (j := 3) rfl ?_
      refine zp_getf (n := (G a 19)) (pc := 160) hx hb hE hw (zd_X12_readLaw (160, .getfield 240, 3, 0, []) (List.mem_of_getElem? (i := 97) rfl)) (j := 37) rfl rfl rfl hp ((zp_set_ne (Or.inl (zp_pne hp hq22 (by decide)))).trans ((zp_set_ne (Or.inl (zp_pne hp hq22 (by decide)))).trans ((zp_set_ne (Or.inl (zp_pne hp hq22 (by decide)))).trans ((zp_set_ne (Or.inr (by decide))).trans ((zp_set_ne (Or.inl (zp_pne hp hq22 (by decide))))))))) ?_
      refine zp_if (pc := 163) (tgt := 185) hx hb (zd_X12_readLaw (163, .ifCond .ne 22, 3, 0, []) (List.mem_of_getElem? (i := 98) rfl)) rfl (fun (hcq22 : ¬ (G a 19) = 0) => ?_) (fun (hcq22 : ¬ (¬ (G a 19) = 0)) => ?_)
      · refine zp_load (pc := 185) hx hb (zd_X12_readLaw (185, .aload_n 0, 1, 0, []) (List.mem_of_getElem? (i := 108) rfl)) rfl (j := 3) rfl ?_
        refine zp_getf (n := (b22 : Int)) (pc := 186) hx hb hE hw (zd_X12_readLaw (186, .getfield 42, 3, 0, []) (List.mem_of_getElem? (i := 109) rfl)) (j := 40) rfl rfl rfl hp ((zp_set_ne (Or.inl (zp_pne hp hq22 (by decide)))).trans ((zp_set_ne (Or.inl (zp_pne hp hq22 (by decide)))).trans ((zp_set_ne (Or.inl (zp_pne hp hq22 (by decide)))).trans ((zp_set_ne (Or.inr (by decide))).trans ((zp_set_ne (Or.inl (zp_pne hp hq22 (by decide)))).trans (g22)))))) ?_
        refine zp_load (pc := 189) hx hb (zd_X12_readLaw (189, .iload_n 2, 1, 0, []) (List.mem_of_getElem? (i := 110) rfl)) rfl (j := 1) rfl ?_
        refine zp_const (pc := 190) hx hb (zd_X12_readLaw (190, .bipush 6, 2, 0, []) (List.mem_of_getElem? (i := 111) rfl)) rfl rfl ?_
        refine zp_add (n := (8 * (n0 : Int) + 6)) (pc := 192) hx hb (zd_X12_readLaw (192, .iadd, 1, 0, []) (List.mem_of_getElem? (i := 112) rfl)) (by omega) (zp_r0 (by omega) (by omega)) ?_
        refine zp_load (pc := 193) hx hb (zd_X12_readLaw (193, .aload_n 0, 1, 0, []) (List.mem_of_getElem? (i := 113) rfl)) rfl (j := 3) rfl ?_
        refine zp_getf (n := (nc : Int)) (pc := 194) hx hb hE hw (zd_X12_readLaw (194, .getfield 279, 3, 0, []) (List.mem_of_getElem? (i := 114) rfl)) (j := 41) rfl rfl rfl hp ((zp_set_ne (Or.inl (zp_pne hp hq22 (by decide)))).trans ((zp_set_ne (Or.inl (zp_pne hp hq22 (by decide)))).trans ((zp_set_ne (Or.inl (zp_pne hp hq22 (by decide)))).trans ((zp_set_ne (Or.inr (by decide))).trans ((zp_set_ne (Or.inl (zp_pne hp hq22 (by decide)))).trans (g23)))))) ?_
        refine zp_iast (j := (8 * n0 + 6)) (pc := 197) hx hb hw heff (zd_X12_readLaw (197, .iastore, 1, 0, []) (List.mem_of_getElem? (i := 115) rfl)) (show zp_ia 1 67 = some (96, 0, 0, (-2147483648), 2147483647) from rfl) hq22 (by omega) (by omega) (zp_o0 (by omega) (by omega) (by omega) (by omega)) rfl ?_
        refine zp_vret (pc := 198) hx hb hE hQ hU5 rfl (by decide) (zd_X12_readLaw (198, .return_, 1, 0, []) (List.mem_of_getElem? (i := 116) rfl)) (j := 0) rfl ?_
        rw [hps]
        refine ⟨rfl, fun z => by omega, fun _ => ?_⟩
        refine ⟨Sum.inr ((zy_to B ln tk), nl, (its, none, none, 1, none)), ?_, Or.inr ⟨(zy_to B ln tk), nl, (its, none, none, 1, none), od, pi, cd, rfl, ?_, ?_, ?_, ?_, ?_, ?_, ?_, ?_, ?_⟩⟩
        · unfold yt_cl
          rw [← hits, if_neg hne]
          refine ⟨Sum.inr (zy_to B ln tk, nl, none), ?_, Or.inr ⟨zy_to B ln tk, nl, none, rfl, ?_⟩⟩
          · rw [if_pos (by omega)]
          · exact ⟨Sum.inr ((zy_to B ln tk), nl, none), by unfold yt_if; rw [if_neg (fun z => by have := yr_w_i.mp z; omega)], Or.inr ⟨(zy_to B ln tk), nl, none, rfl, rfl⟩⟩
        · exact (zD_ow (zD_ow (zD_ow (zD_ow (zD_f (k := 21) (zD_ow hG hDb hb22 hx12 hx24 hx25 hx27 hx28) rfl rfl (by decide)) (zDb_s (b := a) (k := 21) (zDb_s hDb (Or.inl hb22)) (Or.inr rfl)) hb22 hx12 hx24 hx25 hx27 hx28) (zDb_s (zDb_s (b := a) (k := 21) (zDb_s hDb (Or.inl hb22)) (Or.inr rfl)) (Or.inl hb22)) hb22 hx12 hx24 hx25 hx27 hx28) (zDb_s (zDb_s (zDb_s (b := a) (k := 21) (zDb_s hDb (Or.inl hb22)) (Or.inr rfl)) (Or.inl hb22)) (Or.inl hb22)) hb22 hx12 hx24 hx25 hx27 hx28) (zDb_s (zDb_s (zDb_s (zDb_s (b := a) (k := 21) (zDb_s hDb (Or.inl hb22)) (Or.inr rfl)) (Or.inl hb22)) (Or.inl hb22)) (Or.inl hb22)) hb22 hx12 hx24 hx25 hx27 hx28)
        · omega
        · omega
        · have l0 := hnc
          omega
        · intro j hj
          exact ⟨rfl, rfl⟩
        · exact (((zp_set_ne (Or.inl (zp_pne hp hq22 (by decide)))).trans ((zp_set_ne (Or.inl (zp_pne hp hq22 (by decide)))).trans ((zp_set_ne (Or.inl (zp_pne hp hq22 (by decide)))).trans ((zp_set_ne (Or.inl (zp_pne hp hq22 (by decide)))).trans (zp_set_self)))))).trans (by omega)
        · intro j hj
          exact (zv_eq (show (zp_set (zp_set (zp_set (zp_set (zp_set (zp_set G b22 (2000 + (8 * n0)) its) a 21 ((n0 : Int) + 1)) b22 (2000 + (8 * n0 + 3)) (nc : Int)) b22 (2000 + (8 * n0 + 4)) (nc : Int)) b22 (2000 + (8 * n0 + 5)) (nc : Int)) b22 (2000 + (8 * n0 + 6)) (nc : Int)) a 22 = (b22 : Int) from ((zp_set_ne (Or.inl (zp_pne hp hq22 (by decide)))).trans ((zp_set_ne (Or.inl (zp_pne hp hq22 (by decide)))).trans ((zp_set_ne (Or.inl (zp_pne hp hq22 (by decide)))).trans ((zp_set_ne (Or.inl (zp_pne hp hq22 (by decide)))).trans ((zp_set_ne (Or.inr (by decide))).trans ((zp_set_ne (Or.inl (zp_pne hp hq22 (by decide)))).trans (g22)))))))) j).trans ((((zp_set_ne (Or.inr (by omega))).trans ((zp_set_ne (Or.inr (by omega))).trans ((zp_set_ne (Or.inr (by omega))).trans ((zp_set_ne (Or.inr (by omega))).trans ((zp_set_ne (Or.inl (zp_pne hq22 hp (by decide)))).trans ((zp_set_ne (Or.inr (by omega))).trans ((z22 j hj))))))))).trans (zv_eq hA22 j).symm)
        · have x22 : (zp_set (zp_set (zp_set (zp_set (zp_set (zp_set G b22 (2000 + (8 * n0)) its) a 21 ((n0 : Int) + 1)) b22 (2000 + (8 * n0 + 3)) (nc : Int)) b22 (2000 + (8 * n0 + 4)) (nc : Int)) b22 (2000 + (8 * n0 + 5)) (nc : Int)) b22 (2000 + (8 * n0 + 6)) (nc : Int)) a 22 = (b22 : Int) := ((zp_set_ne (Or.inl (zp_pne hp hq22 (by decide)))).trans ((zp_set_ne (Or.inl (zp_pne hp hq22 (by decide)))).trans ((zp_set_ne (Or.inl (zp_pne hp hq22 (by decide)))).trans ((zp_set_ne (Or.inl (zp_pne hp hq22 (by decide)))).trans ((zp_set_ne (Or.inr (by decide))).trans ((zp_set_ne (Or.inl (zp_pne hp hq22 (by decide)))).trans (g22)))))))
          have q0 : zv (zp_set (zp_set (zp_set (zp_set (zp_set (zp_set G b22 (2000 + (8 * n0)) its) a 21 ((n0 : Int) + 1)) b22 (2000 + (8 * n0 + 3)) (nc : Int)) b22 (2000 + (8 * n0 + 4)) (nc : Int)) b22 (2000 + (8 * n0 + 5)) (nc : Int)) b22 (2000 + (8 * n0 + 6)) (nc : Int)) a 22 (8 * n0) = its := by rw [zv_eq x22]; exact ((zp_set_ne (Or.inr (by omega))).trans ((zp_set_ne (Or.inr (by omega))).trans ((zp_set_ne (Or.inr (by omega))).trans ((zp_set_ne (Or.inr (by omega))).trans ((zp_set_ne (Or.inl (zp_pne hq22 hp (by decide)))).trans (zp_set_self))))))
          have q3 : zv (zp_set (zp_set (zp_set (zp_set (zp_set (zp_set G b22 (2000 + (8 * n0)) its) a 21 ((n0 : Int) + 1)) b22 (2000 + (8 * n0 + 3)) (nc : Int)) b22 (2000 + (8 * n0 + 4)) (nc : Int)) b22 (2000 + (8 * n0 + 5)) (nc : Int)) b22 (2000 + (8 * n0 + 6)) (nc : Int)) a 22 (8 * n0 + 3) = (nc : Int) := by rw [zv_eq x22]; exact ((zp_set_ne (Or.inr (by omega))).trans ((zp_set_ne (Or.inr (by omega))).trans ((zp_set_ne (Or.inr (by omega))).trans (zp_set_self))))
          have q4 : zv (zp_set (zp_set (zp_set (zp_set (zp_set (zp_set G b22 (2000 + (8 * n0)) its) a 21 ((n0 : Int) + 1)) b22 (2000 + (8 * n0 + 3)) (nc : Int)) b22 (2000 + (8 * n0 + 4)) (nc : Int)) b22 (2000 + (8 * n0 + 5)) (nc : Int)) b22 (2000 + (8 * n0 + 6)) (nc : Int)) a 22 (8 * n0 + 4) = (nc : Int) := by rw [zv_eq x22]; exact ((zp_set_ne (Or.inr (by omega))).trans ((zp_set_ne (Or.inr (by omega))).trans (zp_set_self)))
          have q5 : zv (zp_set (zp_set (zp_set (zp_set (zp_set (zp_set G b22 (2000 + (8 * n0)) its) a 21 ((n0 : Int) + 1)) b22 (2000 + (8 * n0 + 3)) (nc : Int)) b22 (2000 + (8 * n0 + 4)) (nc : Int)) b22 (2000 + (8 * n0 + 5)) (nc : Int)) b22 (2000 + (8 * n0 + 6)) (nc : Int)) a 22 (8 * n0 + 5) = (nc : Int) := by rw [zv_eq x22]; exact ((zp_set_ne (Or.inr (by omega))).trans (zp_set_self))
          have q6 : zv (zp_set (zp_set (zp_set (zp_set (zp_set (zp_set G b22 (2000 + (8 * n0)) its) a 21 ((n0 : Int) + 1)) b22 (2000 + (8 * n0 + 3)) (nc : Int)) b22 (2000 + (8 * n0 + 4)) (nc : Int)) b22 (2000 + (8 * n0 + 5)) (nc : Int)) b22 (2000 + (8 * n0 + 6)) (nc : Int)) a 22 (8 * n0 + 6) = (nc : Int) := by rw [zv_eq x22]; exact zp_set_self
          unfold zLc
          rw [show zp_0 [(a : Int)] = a from rfl, q0, q3, q4, q5, q6]
          refine ⟨rfl, hir.1, hir.2, ?_, by omega, ?_⟩
          · exact Or.inl ⟨rfl, by show its = 4; omega⟩
          · exact Or.inl ⟨rfl, rfl, by omega, by omega⟩
        · have hfin : zy_fr B ln tk + 1 ≤ zy_fr B ln (zy_to B ln tk) := by
            omega
          omega
      · have hst6 : zD a (zp_set (zp_set (zp_set (zp_set (zp_set G b22 (2000 + (8 * n0)) its) a 21 ((n0 : Int) + 1)) b22 (2000 + (8 * n0 + 3)) (nc : Int)) b22 (2000 + (8 * n0 + 4)) (nc : Int)) b22 (2000 + (8 * n0 + 5)) (nc : Int)) 0 B ln (zy_to B ln tk) nl od pi cd := (zD_ow (zD_ow (zD_ow (zD_f (k := 21) (zD_ow hG hDb hb22 hx12 hx24 hx25 hx27 hx28) rfl rfl (by decide)) (zDb_s (b := a) (k := 21) (zDb_s hDb (Or.inl hb22)) (Or.inr rfl)) hb22 hx12 hx24 hx25 hx27 hx28) (zDb_s (zDb_s (b := a) (k := 21) (zDb_s hDb (Or.inl hb22)) (Or.inr rfl)) (Or.inl hb22)) hb22 hx12 hx24 hx25 hx27 hx28) (zDb_s (zDb_s (zDb_s (b := a) (k := 21) (zDb_s hDb (Or.inl hb22)) (Or.inr rfl)) (Or.inl hb22)) (Or.inl hb22)) hb22 hx12 hx24 hx25 hx27 hx28)
        have hdb6 : zDb a (zp_set (zp_set (zp_set (zp_set (zp_set G b22 (2000 + (8 * n0)) its) a 21 ((n0 : Int) + 1)) b22 (2000 + (8 * n0 + 3)) (nc : Int)) b22 (2000 + (8 * n0 + 4)) (nc : Int)) b22 (2000 + (8 * n0 + 5)) (nc : Int)) c12 c24 c25 c27 c28 := (zDb_s (zDb_s (zDb_s (zDb_s (b := a) (k := 21) (zDb_s hDb (Or.inl hb22)) (Or.inr rfl)) (Or.inl hb22)) (Or.inl hb22)) (Or.inl hb22))
        have hst62 := hst6
        obtain ⟨⟨i13, il, it, i12, iB⟩, ⟨i14, i15, i16, i17⟩, ⟨i19, i18⟩, ⟨i23, i24, i25⟩, i26, ⟨i29, ip⟩, i30⟩ := hst62
        obtain ⟨so6, hso6⟩ : ∃ x : Nat, x = zy_so B ln (zy_to B ln tk) := ⟨_, rfl⟩
        rw [← hso6] at i16
        obtain ⟨wv6, hwv6⟩ : ∃ x : Int, x = zy_wo B ln (zy_to B ln tk) := ⟨_, rfl⟩
        rw [← hwv6] at i17
        have hwt6 : zDw u.1 false a (zp_set (zp_set (zp_set (zp_set (zp_set G b22 (2000 + (8 * n0)) its) a 21 ((n0 : Int) + 1)) b22 (2000 + (8 * n0 + 3)) (nc : Int)) b22 (2000 + (8 * n0 + 4)) (nc : Int)) b22 (2000 + (8 * n0 + 5)) (nc : Int)) := (zDw_o (zDw_o (zDw_o (zDw_s (zDw_o hwG (zp_pne hq22 hp (by decide)) (by decide) hq22) hp (by decide)) (zp_pne hq22 hp (by decide)) (by decide) hq22) (zp_pne hq22 hp (by decide)) (by decide) hq22) (zp_pne hq22 hp (by decide)) (by decide) hq22)
        have hf6 := zy_nx (B := B) it
        refine zp_load (pc := 166) hx hb (zd_X12_readLaw (166, .aload_n 0, 1, 0, []) (List.mem_of_getElem? (i := 99) rfl)) rfl (j := 3) rfl ?_
        refine zp_ldc2 (pc := 167) hx hb hE (zd_X12_readLaw (167, .ldc2_w 377, 3, 0, []) (List.mem_of_getElem? (i := 100) rfl)) (j := 104) rfl ?_
        refine zp_call (pc := 170) (how := 0) (idx := 300) (mi := 216) (S := []) hx hb hE hw heff hrm (zY_wo hW) rfl (j := 18) rfl rfl (by decide +kernel) (zd_X12_readLaw (170, .invokevirtual 300, 3, 0, []) (List.mem_of_getElem? (i := 101) rfl)) [(a : Int), 294] rfl ⟨zp_o2 hp, zp_o1 ⟨by decide, by decide⟩, trivial⟩ (Nat.le_of_ble_eq_true rfl) trivial (fun al hal rnw Pw Gw hextw hfrw hokw hcsw hpsiw => ?_)
        obtain rfl := List.mem_singleton.mp hal
        have hrw := zp_int (hokw _ rfl).1
        obtain ⟨hPew, hGew, htw⟩ := hpsiw
        rw [hPew, hGew]
        have htw : rnw = 1 ↔ (zp_set (zp_set (zp_set (zp_set (zp_set G b22 (2000 + (8 * n0)) its) a 21 ((n0 : Int) + 1)) b22 (2000 + (8 * n0 + 3)) (nc : Int)) b22 (2000 + (8 * n0 + 4)) (nc : Int)) b22 (2000 + (8 * n0 + 5)) (nc : Int)) a 16 = 1 ∧ (zp_set (zp_set (zp_set (zp_set (zp_set G b22 (2000 + (8 * n0)) its) a 21 ((n0 : Int) + 1)) b22 (2000 + (8 * n0 + 3)) (nc : Int)) b22 (2000 + (8 * n0 + 4)) (nc : Int)) b22 (2000 + (8 * n0 + 5)) (nc : Int)) a 17 = 294 := htw
        rw [i16, i17] at htw
        refine zp_if (pc := 173) (tgt := 185) hx hb (zd_X12_readLaw (173, .ifCond .eq 12, 3, 0, []) (List.mem_of_getElem? (i := 102) rfl)) rfl (fun (hcq23 : rnw = 0) => ?_) (fun (hcq23 : ¬ (rnw = 0)) => ?_)
        · refine zp_load (pc := 185) hx hb (zd_X12_readLaw (185, .aload_n 0, 1, 0, []) (List.mem_of_getElem? (i := 108) rfl)) rfl (j := 3) rfl ?_
          refine zp_getf (n := (b22 : Int)) (pc := 186) hx hb hE hw (zd_X12_readLaw (186, .getfield 42, 3, 0, []) (List.mem_of_getElem? (i := 109) rfl)) (j := 40) rfl rfl rfl hp ((zp_set_ne (Or.inl (zp_pne hp hq22 (by decide)))).trans ((zp_set_ne (Or.inl (zp_pne hp hq22 (by decide)))).trans ((zp_set_ne (Or.inl (zp_pne hp hq22 (by decide)))).trans ((zp_set_ne (Or.inr (by decide))).trans ((zp_set_ne (Or.inl (zp_pne hp hq22 (by decide)))).trans (g22)))))) ?_
          refine zp_load (pc := 189) hx hb (zd_X12_readLaw (189, .iload_n 2, 1, 0, []) (List.mem_of_getElem? (i := 110) rfl)) rfl (j := 1) rfl ?_
          refine zp_const (pc := 190) hx hb (zd_X12_readLaw (190, .bipush 6, 2, 0, []) (List.mem_of_getElem? (i := 111) rfl)) rfl rfl ?_
          refine zp_add (n := (8 * (n0 : Int) + 6)) (pc := 192) hx hb (zd_X12_readLaw (192, .iadd, 1, 0, []) (List.mem_of_getElem? (i := 112) rfl)) (by omega) (zp_r0 (by omega) (by omega)) ?_
          refine zp_load (pc := 193) hx hb (zd_X12_readLaw (193, .aload_n 0, 1, 0, []) (List.mem_of_getElem? (i := 113) rfl)) rfl (j := 3) rfl ?_
          refine zp_getf (n := (nc : Int)) (pc := 194) hx hb hE hw (zd_X12_readLaw (194, .getfield 279, 3, 0, []) (List.mem_of_getElem? (i := 114) rfl)) (j := 41) rfl rfl rfl hp ((zp_set_ne (Or.inl (zp_pne hp hq22 (by decide)))).trans ((zp_set_ne (Or.inl (zp_pne hp hq22 (by decide)))).trans ((zp_set_ne (Or.inl (zp_pne hp hq22 (by decide)))).trans ((zp_set_ne (Or.inr (by decide))).trans ((zp_set_ne (Or.inl (zp_pne hp hq22 (by decide)))).trans (g23)))))) ?_
          refine zp_iast (j := (8 * n0 + 6)) (pc := 197) hx hb hw heff (zd_X12_readLaw (197, .iastore, 1, 0, []) (List.mem_of_getElem? (i := 115) rfl)) (show zp_ia 1 67 = some (96, 0, 0, (-2147483648), 2147483647) from rfl) hq22 (by omega) (by omega) (zp_o0 (by omega) (by omega) (by omega) (by omega)) rfl ?_
          refine zp_vret (pc := 198) hx hb hE hQ hU5 rfl (by decide) (zd_X12_readLaw (198, .return_, 1, 0, []) (List.mem_of_getElem? (i := 116) rfl)) (j := 0) rfl ?_
          rw [hps]
          refine ⟨rfl, fun z => by omega, fun _ => ?_⟩
          refine ⟨Sum.inr ((zy_to B ln tk), nl, (its, none, none, 1, none)), ?_, Or.inr ⟨(zy_to B ln tk), nl, (its, none, none, 1, none), od, pi, cd, rfl, ?_, ?_, ?_, ?_, ?_, ?_, ?_, ?_, ?_⟩⟩
          · unfold yt_cl
            rw [← hits, if_neg hne]
            refine ⟨Sum.inr (zy_to B ln tk, nl, none), ?_, Or.inr ⟨zy_to B ln tk, nl, none, rfl, ?_⟩⟩
            · rw [if_pos (by omega)]
            · exact ⟨Sum.inr ((zy_to B ln tk), nl, none), by unfold yt_if; rw [if_neg (fun z => by have := yr_w_i.mp z; omega)], Or.inr ⟨(zy_to B ln tk), nl, none, rfl, rfl⟩⟩
          · exact (zD_ow (zD_ow (zD_ow (zD_ow (zD_f (k := 21) (zD_ow hG hDb hb22 hx12 hx24 hx25 hx27 hx28) rfl rfl (by decide)) (zDb_s (b := a) (k := 21) (zDb_s hDb (Or.inl hb22)) (Or.inr rfl)) hb22 hx12 hx24 hx25 hx27 hx28) (zDb_s (zDb_s (b := a) (k := 21) (zDb_s hDb (Or.inl hb22)) (Or.inr rfl)) (Or.inl hb22)) hb22 hx12 hx24 hx25 hx27 hx28) (zDb_s (zDb_s (zDb_s (b := a) (k := 21) (zDb_s hDb (Or.inl hb22)) (Or.inr rfl)) (Or.inl hb22)) (Or.inl hb22)) hb22 hx12 hx24 hx25 hx27 hx28) (zDb_s (zDb_s (zDb_s (zDb_s (b := a) (k := 21) (zDb_s hDb (Or.inl hb22)) (Or.inr rfl)) (Or.inl hb22)) (Or.inl hb22)) (Or.inl hb22)) hb22 hx12 hx24 hx25 hx27 hx28)
          · omega
          · omega
          · have l0 := hnc
            omega
          · intro j hj
            exact ⟨rfl, rfl⟩
          · exact (((zp_set_ne (Or.inl (zp_pne hp hq22 (by decide)))).trans ((zp_set_ne (Or.inl (zp_pne hp hq22 (by decide)))).trans ((zp_set_ne (Or.inl (zp_pne hp hq22 (by decide)))).trans ((zp_set_ne (Or.inl (zp_pne hp hq22 (by decide)))).trans (zp_set_self)))))).trans (by omega)
          · intro j hj
            exact (zv_eq (show (zp_set (zp_set (zp_set (zp_set (zp_set (zp_set G b22 (2000 + (8 * n0)) its) a 21 ((n0 : Int) + 1)) b22 (2000 + (8 * n0 + 3)) (nc : Int)) b22 (2000 + (8 * n0 + 4)) (nc : Int)) b22 (2000 + (8 * n0 + 5)) (nc : Int)) b22 (2000 + (8 * n0 + 6)) (nc : Int)) a 22 = (b22 : Int) from ((zp_set_ne (Or.inl (zp_pne hp hq22 (by decide)))).trans ((zp_set_ne (Or.inl (zp_pne hp hq22 (by decide)))).trans ((zp_set_ne (Or.inl (zp_pne hp hq22 (by decide)))).trans ((zp_set_ne (Or.inl (zp_pne hp hq22 (by decide)))).trans ((zp_set_ne (Or.inr (by decide))).trans ((zp_set_ne (Or.inl (zp_pne hp hq22 (by decide)))).trans (g22)))))))) j).trans ((((zp_set_ne (Or.inr (by omega))).trans ((zp_set_ne (Or.inr (by omega))).trans ((zp_set_ne (Or.inr (by omega))).trans ((zp_set_ne (Or.inr (by omega))).trans ((zp_set_ne (Or.inl (zp_pne hq22 hp (by decide)))).trans ((zp_set_ne (Or.inr (by omega))).trans ((z22 j hj))))))))).trans (zv_eq hA22 j).symm)
          · have x22 : (zp_set (zp_set (zp_set (zp_set (zp_set (zp_set G b22 (2000 + (8 * n0)) its) a 21 ((n0 : Int) + 1)) b22 (2000 + (8 * n0 + 3)) (nc : Int)) b22 (2000 + (8 * n0 + 4)) (nc : Int)) b22 (2000 + (8 * n0 + 5)) (nc : Int)) b22 (2000 + (8 * n0 + 6)) (nc : Int)) a 22 = (b22 : Int) := ((zp_set_ne (Or.inl (zp_pne hp hq22 (by decide)))).trans ((zp_set_ne (Or.inl (zp_pne hp hq22 (by decide)))).trans ((zp_set_ne (Or.inl (zp_pne hp hq22 (by decide)))).trans ((zp_set_ne (Or.inl (zp_pne hp hq22 (by decide)))).trans ((zp_set_ne (Or.inr (by decide))).trans ((zp_set_ne (Or.inl (zp_pne hp hq22 (by decide)))).trans (g22)))))))
            have q0 : zv (zp_set (zp_set (zp_set (zp_set (zp_set (zp_set G b22 (2000 + (8 * n0)) its) a 21 ((n0 : Int) + 1)) b22 (2000 + (8 * n0 + 3)) (nc : Int)) b22 (2000 + (8 * n0 + 4)) (nc : Int)) b22 (2000 + (8 * n0 + 5)) (nc : Int)) b22 (2000 + (8 * n0 + 6)) (nc : Int)) a 22 (8 * n0) = its := by rw [zv_eq x22]; exact ((zp_set_ne (Or.inr (by omega))).trans ((zp_set_ne (Or.inr (by omega))).trans ((zp_set_ne (Or.inr (by omega))).trans ((zp_set_ne (Or.inr (by omega))).trans ((zp_set_ne (Or.inl (zp_pne hq22 hp (by decide)))).trans (zp_set_self))))))
            have q3 : zv (zp_set (zp_set (zp_set (zp_set (zp_set (zp_set G b22 (2000 + (8 * n0)) its) a 21 ((n0 : Int) + 1)) b22 (2000 + (8 * n0 + 3)) (nc : Int)) b22 (2000 + (8 * n0 + 4)) (nc : Int)) b22 (2000 + (8 * n0 + 5)) (nc : Int)) b22 (2000 + (8 * n0 + 6)) (nc : Int)) a 22 (8 * n0 + 3) = (nc : Int) := by rw [zv_eq x22]; exact ((zp_set_ne (Or.inr (by omega))).trans ((zp_set_ne (Or.inr (by omega))).trans ((zp_set_ne (Or.inr (by omega))).trans (zp_set_self))))
            have q4 : zv (zp_set (zp_set (zp_set (zp_set (zp_set (zp_set G b22 (2000 + (8 * n0)) its) a 21 ((n0 : Int) + 1)) b22 (2000 + (8 * n0 + 3)) (nc : Int)) b22 (2000 + (8 * n0 + 4)) (nc : Int)) b22 (2000 + (8 * n0 + 5)) (nc : Int)) b22 (2000 + (8 * n0 + 6)) (nc : Int)) a 22 (8 * n0 + 4) = (nc : Int) := by rw [zv_eq x22]; exact ((zp_set_ne (Or.inr (by omega))).trans ((zp_set_ne (Or.inr (by omega))).trans (zp_set_self)))
            have q5 : zv (zp_set (zp_set (zp_set (zp_set (zp_set (zp_set G b22 (2000 + (8 * n0)) its) a 21 ((n0 : Int) + 1)) b22 (2000 + (8 * n0 + 3)) (nc : Int)) b22 (2000 + (8 * n0 + 4)) (nc : Int)) b22 (2000 + (8 * n0 + 5)) (nc : Int)) b22 (2000 + (8 * n0 + 6)) (nc : Int)) a 22 (8 * n0 + 5) = (nc : Int) := by rw [zv_eq x22]; exact ((zp_set_ne (Or.inr (by omega))).trans (zp_set_self))
            have q6 : zv (zp_set (zp_set (zp_set (zp_set (zp_set (zp_set G b22 (2000 + (8 * n0)) its) a 21 ((n0 : Int) + 1)) b22 (2000 + (8 * n0 + 3)) (nc : Int)) b22 (2000 + (8 * n0 + 4)) (nc : Int)) b22 (2000 + (8 * n0 + 5)) (nc : Int)) b22 (2000 + (8 * n0 + 6)) (nc : Int)) a 22 (8 * n0 + 6) = (nc : Int) := by rw [zv_eq x22]; exact zp_set_self
            unfold zLc
            rw [show zp_0 [(a : Int)] = a from rfl, q0, q3, q4, q5, q6]
            refine ⟨rfl, hir.1, hir.2, ?_, by omega, ?_⟩
            · exact Or.inl ⟨rfl, by show its = 4; omega⟩
            · exact Or.inl ⟨rfl, rfl, by omega, by omega⟩
          · have hfin : zy_fr B ln tk + 1 ≤ zy_fr B ln (zy_to B ln tk) := by
              omega
            omega
        · refine zp_load (pc := 176) hx hb (zd_X12_readLaw (176, .aload_n 0, 1, 0, []) (List.mem_of_getElem? (i := 103) rfl)) rfl (j := 3) rfl ?_
          refine zp_call (pc := 177) (how := 0) (idx := 244) (mi := 212) (S := []) hx hb hE hw heff hrm (zY_nx hW B ln (zy_to B ln (zy_to B ln tk))) rfl (j := 14) rfl rfl (by decide +kernel) (zd_X12_readLaw (177, .invokevirtual 244, 3, 0, []) (List.mem_of_getElem? (i := 104) rfl)) [(a : Int)] rfl ⟨zp_o2 hp, trivial⟩ (Nat.le_of_ble_eq_true rfl) (zD_y hst6) (fun al hal rnn Pn Gn hextn hfrn hokn hcsn hpsin => ?_)
          obtain rfl := List.mem_singleton.mp hal
          obtain ⟨rfl, htn⟩ := hpsin
          have hstn := zD_nx hst6 htn
          have hwn := zDw_fr hwt6 hp hfrn rfl
          have hn12 : Gn a 12 = (c12 : Int) := (zp_nf hfrn hp rfl).trans hdb6.1.1
          have hn24 : Gn a 24 = (c24 : Int) := (zp_nf hfrn hp rfl).trans hdb6.1.2.1
          have hn25 : Gn a 25 = (c25 : Int) := (zp_nf hfrn hp rfl).trans hdb6.1.2.2.1
          have hn27 : Gn a 27 = (c27 : Int) := (zp_nf hfrn hp rfl).trans hdb6.1.2.2.2.1
          have hn28 : Gn a 28 = (c28 : Int) := (zp_nf hfrn hp rfl).trans hdb6.1.2.2.2.2
          refine zp_load (pc := 180) hx hb (zd_X12_readLaw (180, .aload_n 0, 1, 0, []) (List.mem_of_getElem? (i := 105) rfl)) rfl (j := 3) rfl ?_
          refine zp_const (pc := 181) hx hb (zd_X12_readLaw (181, .iconst 1, 1, 0, []) (List.mem_of_getElem? (i := 106) rfl)) rfl rfl ?_
          have hf7 := hf6.2.2 (by omega)
          refine zp_call (pc := 182) (how := 0) (idx := 374) (mi := 218) (S := []) hx hb hE hw heff hrm (zY_ex hW false B ln (zy_to B ln (zy_to B ln tk)) nl od pi cd) rfl (j := 20) rfl rfl (by decide +kernel) (zd_X12_readLaw (182, .invokevirtual 374, 3, 0, []) (List.mem_of_getElem? (i := 107) rfl)) [(a : Int), 1] rfl ⟨zp_o2 hp, zp_o0 (by decide) (by decide) (by decide) (by decide), trivial⟩ (Nat.le_of_ble_eq_true rfl) ⟨hstn, by omega, by omega, hwn⟩ (fun al hal rny Py Gy hexty hfry hoky hcsy hpsiy => ?_)
          obtain rfl := List.mem_singleton.mp hal
          obtain ⟨rfl, hty⟩ := hpsiy
          have hty : zDe_ false a Gy B ln (zy_to B ln (zy_to B ln tk)) nl cd (decide ((1 : Int) = 1)) := hty
          obtain ⟨sy, hsy1, hsy2⟩ := hty
          have hsy1 : yZ (zy_so B ln) (zy_wo B ln) (zy_to B ln) (ylf false B ln) 8 0 nl (zy_to B ln (zy_to B ln tk)) yx0 sy := hsy1
          rcases hsy2 with ⟨q9, hq9, ⟨tk9, nl9, od9, pi9, cd9, hB9⟩, h18⟩ | ⟨p2, n2, y2, ky, od2, cd2, hs9, hnn2, hm25, hD2, hF2, hc25, hT2⟩
          · subst hq9
            have hB92 := hB9
            obtain ⟨⟨b13, bl, bt, b12, bB⟩, ⟨b14, b15, b16, b17⟩, ⟨b19, b18⟩, ⟨b23, b24, b25⟩, b26, ⟨b29, bp⟩, b30⟩ := hB92
            obtain ⟨n9, hn9⟩ : ∃ x : Nat, x = cd9.2.2 := ⟨_, rfl⟩
            rw [← hn9] at b23
            refine zp_kn (k := 23) (a := a) (G := Gy) hw (show zp_fd 92 23 = some (12, 0, 0, 0, 400) from rfl) rfl hp (fun hk23 => ?_)
            have hx23 := zp_int hk23
            rw [b23] at hx23
            refine zp_load (pc := 185) hx hb (zd_X12_readLaw (185, .aload_n 0, 1, 0, []) (List.mem_of_getElem? (i := 108) rfl)) rfl (j := 3) rfl ?_
            refine zp_getf (n := (b22 : Int)) (pc := 186) hx hb hE hw (zd_X12_readLaw (186, .getfield 42, 3, 0, []) (List.mem_of_getElem? (i := 109) rfl)) (j := 40) rfl rfl rfl hp ((zp_nf hfry hp rfl).trans ((zp_nf hfrn hp rfl).trans ((zp_set_ne (Or.inl (zp_pne hp hq22 (by decide)))).trans ((zp_set_ne (Or.inl (zp_pne hp hq22 (by decide)))).trans ((zp_set_ne (Or.inl (zp_pne hp hq22 (by decide)))).trans ((zp_set_ne (Or.inr (by decide))).trans ((zp_set_ne (Or.inl (zp_pne hp hq22 (by decide)))).trans (g22)))))))) ?_
            refine zp_load (pc := 189) hx hb (zd_X12_readLaw (189, .iload_n 2, 1, 0, []) (List.mem_of_getElem? (i := 110) rfl)) rfl (j := 1) rfl ?_
            refine zp_const (pc := 190) hx hb (zd_X12_readLaw (190, .bipush 6, 2, 0, []) (List.mem_of_getElem? (i := 111) rfl)) rfl rfl ?_
            refine zp_add (n := (8 * (n0 : Int) + 6)) (pc := 192) hx hb (zd_X12_readLaw (192, .iadd, 1, 0, []) (List.mem_of_getElem? (i := 112) rfl)) (by omega) (zp_r0 (by omega) (by omega)) ?_
            refine zp_load (pc := 193) hx hb (zd_X12_readLaw (193, .aload_n 0, 1, 0, []) (List.mem_of_getElem? (i := 113) rfl)) rfl (j := 3) rfl ?_
            refine zp_getf (n := (n9 : Int)) (pc := 194) hx hb hE hw (zd_X12_readLaw (194, .getfield 279, 3, 0, []) (List.mem_of_getElem? (i := 114) rfl)) (j := 41) rfl rfl rfl hp b23 ?_
            refine zp_iast (j := (8 * n0 + 6)) (pc := 197) hx hb hw heff (zd_X12_readLaw (197, .iastore, 1, 0, []) (List.mem_of_getElem? (i := 115) rfl)) (show zp_ia 1 67 = some (96, 0, 0, (-2147483648), 2147483647) from rfl) hq22 (by omega) (by omega) (zp_o0 (by omega) (by omega) (by omega) (by omega)) rfl ?_
            refine zp_vret (pc := 198) hx hb hE hQ hU5 rfl (by decide) (zd_X12_readLaw (198, .return_, 1, 0, []) (List.mem_of_getElem? (i := 116) rfl)) (j := 0) rfl ?_
            rw [hps]
            refine ⟨rfl, fun z => by omega, fun _ => ?_⟩
            refine ⟨Sum.inl q9, ?_, Or.inl ⟨q9, rfl, ?_⟩⟩
            · unfold yt_cl
              rw [← hits, if_neg hne]
              refine ⟨Sum.inr (zy_to B ln tk, nl, none), ?_, Or.inr ⟨zy_to B ln tk, nl, none, rfl, ?_⟩⟩
              · rw [if_pos (by omega)]
              · exact ⟨Sum.inl q9, by unfold yt_if; rw [if_pos (yr_w_i.mpr ⟨by omega, by omega⟩)]; exact ⟨_, hsy1, Or.inl ⟨q9, rfl, rfl⟩⟩, Or.inl ⟨q9, rfl, rfl⟩⟩
            · have hdb9 : zDb a Gy c12 c24 c25 c27 c28 := ⟨⟨(zp_nf hfry hp rfl).trans hn12, (zp_nf hfry hp rfl).trans hn24, (zp_nf hfry hp rfl).trans hn25, (zp_nf hfry hp rfl).trans hn27, (zp_nf hfry hp rfl).trans hn28⟩, hDb.2⟩
              exact ⟨⟨_, _, _, _, _, (zD_ow hB9 hdb9 hb22 hx12 hx24 hx25 hx27 hx28)⟩, (zp_set_ne (Or.inl (fun z => hb22 z.symm))).trans (h18)⟩
          · subst hs9
            have hT2 := hT2 (by decide)
            have hD22 := hD2
            obtain ⟨⟨v13, vl, vt, v12, vB⟩, ⟨v14, v15, v16, v17⟩, ⟨v19, v18⟩, ⟨v23, v24, v25⟩, v26, ⟨v29, vp⟩, v30⟩ := hD22
            obtain ⟨nc2, hnc2⟩ : ∃ x : Nat, x = cd2.2.2 := ⟨_, rfl⟩
            rw [← hnc2] at v23
            refine zp_kn (k := 23) (a := a) (G := Gy) hw (show zp_fd 92 23 = some (12, 0, 0, 0, 400) from rfl) rfl hp (fun hk23 => ?_)
            have hx23 := zp_int hk23
            rw [v23] at hx23
            have hv12 : Gy a 12 = (c12 : Int) := (zp_nf hfry hp rfl).trans hn12
            have hv24 : Gy a 24 = (c24 : Int) := (zp_nf hfry hp rfl).trans hn24
            have hv25 : Gy a 25 = (c25 : Int) := (zp_nf hfry hp rfl).trans hn25
            have hv27 : Gy a 27 = (c27 : Int) := (zp_nf hfry hp rfl).trans hn27
            have hv28 : Gy a 28 = (c28 : Int) := (zp_nf hfry hp rfl).trans hn28
            have hdb2 : zDb a Gy c12 c24 c25 c27 c28 := ⟨⟨hv12, hv24, hv25, hv27, hv28⟩, hDb.2⟩
            refine zp_load (pc := 185) hx hb (zd_X12_readLaw (185, .aload_n 0, 1, 0, []) (List.mem_of_getElem? (i := 108) rfl)) rfl (j := 3) rfl ?_
            refine zp_getf (n := (b22 : Int)) (pc := 186) hx hb hE hw (zd_X12_readLaw (186, .getfield 42, 3, 0, []) (List.mem_of_getElem? (i := 109) rfl)) (j := 40) rfl rfl rfl hp ((zp_nf hfry hp rfl).trans ((zp_nf hfrn hp rfl).trans ((zp_set_ne (Or.inl (zp_pne hp hq22 (by decide)))).trans ((zp_set_ne (Or.inl (zp_pne hp hq22 (by decide)))).trans ((zp_set_ne (Or.inl (zp_pne hp hq22 (by decide)))).trans ((zp_set_ne (Or.inr (by decide))).trans ((zp_set_ne (Or.inl (zp_pne hp hq22 (by decide)))).trans (g22)))))))) ?_
            refine zp_load (pc := 189) hx hb (zd_X12_readLaw (189, .iload_n 2, 1, 0, []) (List.mem_of_getElem? (i := 110) rfl)) rfl (j := 1) rfl ?_
            refine zp_const (pc := 190) hx hb (zd_X12_readLaw (190, .bipush 6, 2, 0, []) (List.mem_of_getElem? (i := 111) rfl)) rfl rfl ?_
            refine zp_add (n := (8 * (n0 : Int) + 6)) (pc := 192) hx hb (zd_X12_readLaw (192, .iadd, 1, 0, []) (List.mem_of_getElem? (i := 112) rfl)) (by omega) (zp_r0 (by omega) (by omega)) ?_
            refine zp_load (pc := 193) hx hb (zd_X12_readLaw (193, .aload_n 0, 1, 0, []) (List.mem_of_getElem? (i := 113) rfl)) rfl (j := 3) rfl ?_
            refine zp_getf (n := (nc2 : Int)) (pc := 194) hx hb hE hw (zd_X12_readLaw (194, .getfield 279, 3, 0, []) (List.mem_of_getElem? (i := 114) rfl)) (j := 41) rfl rfl rfl hp v23 ?_
            refine zp_iast (j := (8 * n0 + 6)) (pc := 197) hx hb hw heff (zd_X12_readLaw (197, .iastore, 1, 0, []) (List.mem_of_getElem? (i := 115) rfl)) (show zp_ia 1 67 = some (96, 0, 0, (-2147483648), 2147483647) from rfl) hq22 (by omega) (by omega) (zp_o0 (by omega) (by omega) (by omega) (by omega)) rfl ?_
            refine zp_vret (pc := 198) hx hb hE hQ hU5 rfl (by decide) (zd_X12_readLaw (198, .return_, 1, 0, []) (List.mem_of_getElem? (i := 116) rfl)) (j := 0) rfl ?_
            rw [hps]
            refine ⟨rfl, fun z => by omega, fun _ => ?_⟩
            refine ⟨Sum.inr (p2, n2, (its, none, none, 1, some y2)), ?_, Or.inr ⟨p2, n2, (its, none, none, 1, some y2), od2, [], cd2, rfl, ?_, ?_, ?_, ?_, ?_, ?_, ?_, ?_, ?_⟩⟩
            · unfold yt_cl
              rw [← hits, if_neg hne]
              refine ⟨Sum.inr (zy_to B ln tk, nl, none), ?_, Or.inr ⟨zy_to B ln tk, nl, none, rfl, ?_⟩⟩
              · rw [if_pos (by omega)]
              · exact ⟨Sum.inr (p2, n2, some y2), by unfold yt_if; rw [if_pos (yr_w_i.mpr ⟨by omega, by omega⟩)]; exact ⟨_, hsy1, Or.inr ⟨p2, n2, y2, rfl, rfl⟩⟩, Or.inr ⟨p2, n2, some y2, rfl, rfl⟩⟩
            · exact (zD_ow hD2 hdb2 hb22 hx12 hx24 hx25 hx27 hx28)
            · omega
            · omega
            · have l0 := hnc
              have l2 := yF_lt hF2
              omega
            · intro j hj
              exact hF2.1 j hj
            · exact (((zp_set_ne (Or.inl (zp_pne hp hq22 (by decide)))).trans (((zp_nf hfry hp rfl).trans ((zp_nf hfrn hp rfl).trans ((zp_set_ne (Or.inl (zp_pne hp hq22 (by decide)))).trans ((zp_set_ne (Or.inl (zp_pne hp hq22 (by decide)))).trans ((zp_set_ne (Or.inl (zp_pne hp hq22 (by decide)))).trans (zp_set_self))))))))).trans (by omega)
            · intro j hj
              exact (zv_eq (show (zp_set Gy b22 (2000 + (8 * n0 + 6)) (nc2 : Int)) a 22 = (b22 : Int) from ((zp_set_ne (Or.inl (zp_pne hp hq22 (by decide)))).trans (((zp_nf hfry hp rfl).trans ((zp_nf hfrn hp rfl).trans ((zp_set_ne (Or.inl (zp_pne hp hq22 (by decide)))).trans ((zp_set_ne (Or.inl (zp_pne hp hq22 (by decide)))).trans ((zp_set_ne (Or.inl (zp_pne hp hq22 (by decide)))).trans ((zp_set_ne (Or.inr (by decide))).trans ((zp_set_ne (Or.inl (zp_pne hp hq22 (by decide)))).trans (g22))))))))))) j).trans ((((zp_set_ne (Or.inr (by omega))).trans (((zp_nc hfry hq22 rfl (2000 + j)).trans ((zp_nc hfrn hq22 rfl (2000 + j)).trans ((zp_set_ne (Or.inr (by omega))).trans ((zp_set_ne (Or.inr (by omega))).trans ((zp_set_ne (Or.inr (by omega))).trans ((zp_set_ne (Or.inl (zp_pne hq22 hp (by decide)))).trans ((zp_set_ne (Or.inr (by omega))).trans ((z22 j hj)))))))))))).trans (zv_eq hA22 j).symm)
            · have x22 : (zp_set Gy b22 (2000 + (8 * n0 + 6)) (nc2 : Int)) a 22 = (b22 : Int) := ((zp_set_ne (Or.inl (zp_pne hp hq22 (by decide)))).trans (((zp_nf hfry hp rfl).trans ((zp_nf hfrn hp rfl).trans ((zp_set_ne (Or.inl (zp_pne hp hq22 (by decide)))).trans ((zp_set_ne (Or.inl (zp_pne hp hq22 (by decide)))).trans ((zp_set_ne (Or.inl (zp_pne hp hq22 (by decide)))).trans ((zp_set_ne (Or.inr (by decide))).trans ((zp_set_ne (Or.inl (zp_pne hp hq22 (by decide)))).trans (g22))))))))))
              have q0 : zv (zp_set Gy b22 (2000 + (8 * n0 + 6)) (nc2 : Int)) a 22 (8 * n0) = its := by rw [zv_eq x22]; exact ((zp_set_ne (Or.inr (by omega))).trans (((zp_nc hfry hq22 rfl (2000 + (8 * n0))).trans ((zp_nc hfrn hq22 rfl (2000 + (8 * n0))).trans ((zp_set_ne (Or.inr (by omega))).trans ((zp_set_ne (Or.inr (by omega))).trans ((zp_set_ne (Or.inr (by omega))).trans ((zp_set_ne (Or.inl (zp_pne hq22 hp (by decide)))).trans (zp_set_self)))))))))
              have q3 : zv (zp_set Gy b22 (2000 + (8 * n0 + 6)) (nc2 : Int)) a 22 (8 * n0 + 3) = (nc : Int) := by rw [zv_eq x22]; exact ((zp_set_ne (Or.inr (by omega))).trans (((zp_nc hfry hq22 rfl (2000 + (8 * n0 + 3))).trans ((zp_nc hfrn hq22 rfl (2000 + (8 * n0 + 3))).trans ((zp_set_ne (Or.inr (by omega))).trans ((zp_set_ne (Or.inr (by omega))).trans (zp_set_self)))))))
              have q4 : zv (zp_set Gy b22 (2000 + (8 * n0 + 6)) (nc2 : Int)) a 22 (8 * n0 + 4) = (nc : Int) := by rw [zv_eq x22]; exact ((zp_set_ne (Or.inr (by omega))).trans (((zp_nc hfry hq22 rfl (2000 + (8 * n0 + 4))).trans ((zp_nc hfrn hq22 rfl (2000 + (8 * n0 + 4))).trans ((zp_set_ne (Or.inr (by omega))).trans (zp_set_self))))))
              have q5 : zv (zp_set Gy b22 (2000 + (8 * n0 + 6)) (nc2 : Int)) a 22 (8 * n0 + 5) = (nc : Int) := by rw [zv_eq x22]; exact ((zp_set_ne (Or.inr (by omega))).trans (((zp_nc hfry hq22 rfl (2000 + (8 * n0 + 5))).trans ((zp_nc hfrn hq22 rfl (2000 + (8 * n0 + 5))).trans zp_set_self))))
              have q6 : zv (zp_set Gy b22 (2000 + (8 * n0 + 6)) (nc2 : Int)) a 22 (8 * n0 + 6) = (nc2 : Int) := by rw [zv_eq x22]; exact zp_set_self
              unfold zLc
              rw [show zp_0 [(a : Int)] = a from rfl, q0, q3, q4, q5, q6]
              have l2 := yF_lt hF2
              refine ⟨rfl, hir.1, hir.2, ?_, by omega, ?_⟩
              · exact Or.inl ⟨rfl, by show its = 4; omega⟩
              · obtain ⟨z1, f2, z2⟩ := hF2
                exact Or.inr ⟨y2, rfl, ⟨nc, nc2, ky, f2, rfl, rfl, by omega, by omega, by rw [hnc, hnc2]; exact z2⟩, hT2⟩
            · have hfin : zy_fr B ln tk + 1 ≤ zy_fr B ln p2 := by
                have g2 := yZ_fr false hf6.1 hsy1 (Or.inr rfl)
                omega
              omega
    · refine zp_load (pc := 130) hx hb (zd_X12_readLaw (130, .aload_n 0, 1, 0, []) (List.mem_of_getElem? (i := 77) rfl)) rfl (j := 3) rfl ?_
      refine zp_const (pc := 131) hx hb (zd_X12_readLaw (131, .iconst 0, 1, 0, []) (List.mem_of_getElem? (i := 78) rfl)) rfl rfl ?_
      have hste : zD a (zp_set (zp_set (zp_set G b22 (2000 + (8 * n0)) its) a 21 ((n0 : Int) + 1)) b22 (2000 + (8 * n0 + 3)) (nc : Int)) 0 B ln (zy_to B ln tk) nl od pi cd := (zD_ow (zD_f (k := 21) (zD_ow hG hDb hb22 hx12 hx24 hx25 hx27 hx28) rfl rfl (by decide)) (zDb_s (b := a) (k := 21) (zDb_s hDb (Or.inl hb22)) (Or.inr rfl)) hb22 hx12 hx24 hx25 hx27 hx28)
      have hwte : zDw u.1 false a (zp_set (zp_set (zp_set G b22 (2000 + (8 * n0)) its) a 21 ((n0 : Int) + 1)) b22 (2000 + (8 * n0 + 3)) (nc : Int)) := (zDw_o (zDw_s (zDw_o hwG (zp_pne hq22 hp (by decide)) (by decide) hq22) hp (by decide)) (zp_pne hq22 hp (by decide)) (by decide) hq22)
      have hdbe : zDb a (zp_set (zp_set (zp_set G b22 (2000 + (8 * n0)) its) a 21 ((n0 : Int) + 1)) b22 (2000 + (8 * n0 + 3)) (nc : Int)) c12 c24 c25 c27 c28 := (zDb_s (zDb_s (b := a) (k := 21) (zDb_s hDb (Or.inl hb22)) (Or.inr rfl)) (Or.inl hb22))
      refine zp_call (pc := 132) (how := 0) (idx := 374) (mi := 218) (S := []) hx hb hE hw heff hrm (zY_ex hW false B ln (zy_to B ln tk) nl od pi cd) rfl (j := 20) rfl rfl (by decide +kernel) (zd_X12_readLaw (132, .invokevirtual 374, 3, 0, []) (List.mem_of_getElem? (i := 79) rfl)) [(a : Int), 0] rfl ⟨zp_o2 hp, zp_o0 (by decide) (by decide) (by decide) (by decide), trivial⟩ (Nat.le_of_ble_eq_true rfl) ⟨hste, hn5, by omega, hwte⟩ (fun al hal rne Pe Ge hexte hfre hoke hcse hpsie => ?_)
      obtain rfl := List.mem_singleton.mp hal
      obtain ⟨rfl, hte⟩ := hpsie
      have hte : zDe_ false a Ge B ln (zy_to B ln tk) nl cd (decide ((0 : Int) = 1)) := hte
      have hwe := zDw_fr hwte hp hfre rfl
      obtain ⟨se, hse1, hse2⟩ := hte
      have hse1 : yZ (zy_so B ln) (zy_wo B ln) (zy_to B ln) (ylf false B ln) 3 0 nl (zy_to B ln tk) yx0 se := hse1
      rcases hse2 with ⟨q9, hq9, ⟨tk9, nl9, od9, pi9, cd9, hB9⟩, h18⟩ | ⟨p1, n1, y1, kx, od1, cd1, hs9, hnn1, hn15, hD1, hF1, hc15, -⟩
      · subst hq9
        have hB92 := hB9
        obtain ⟨⟨b13, bl, bt, b12, bB⟩, ⟨b14, b15, b16, b17⟩, ⟨b19, b18⟩, ⟨b23, b24, b25⟩, b26, ⟨b29, bp⟩, b30⟩ := hB92
        obtain ⟨n9, hn9⟩ : ∃ x : Nat, x = cd9.2.2 := ⟨_, rfl⟩
        rw [← hn9] at b23
        refine zp_kn (k := 23) (a := a) (G := Ge) hw (show zp_fd 92 23 = some (12, 0, 0, 0, 400) from rfl) rfl hp (fun hk23 => ?_)
        have hx23 := zp_int hk23
        rw [b23] at hx23
        refine zp_load (pc := 135) hx hb (zd_X12_readLaw (135, .aload_n 0, 1, 0, []) (List.mem_of_getElem? (i := 80) rfl)) rfl (j := 3) rfl ?_
        refine zp_getf (n := (b22 : Int)) (pc := 136) hx hb hE hw (zd_X12_readLaw (136, .getfield 42, 3, 0, []) (List.mem_of_getElem? (i := 81) rfl)) (j := 40) rfl rfl rfl hp ((zp_nf hfre hp rfl).trans ((zp_set_ne (Or.inl (zp_pne hp hq22 (by decide)))).trans ((zp_set_ne (Or.inr (by decide))).trans ((zp_set_ne (Or.inl (zp_pne hp hq22 (by decide)))).trans (g22))))) ?_
        refine zp_load (pc := 139) hx hb (zd_X12_readLaw (139, .iload_n 2, 1, 0, []) (List.mem_of_getElem? (i := 82) rfl)) rfl (j := 1) rfl ?_
        refine zp_const (pc := 140) hx hb (zd_X12_readLaw (140, .iconst 4, 1, 0, []) (List.mem_of_getElem? (i := 83) rfl)) rfl rfl ?_
        refine zp_add (n := (8 * (n0 : Int) + 4)) (pc := 141) hx hb (zd_X12_readLaw (141, .iadd, 1, 0, []) (List.mem_of_getElem? (i := 84) rfl)) (by omega) (zp_r0 (by omega) (by omega)) ?_
        refine zp_load (pc := 142) hx hb (zd_X12_readLaw (142, .aload_n 0, 1, 0, []) (List.mem_of_getElem? (i := 85) rfl)) rfl (j := 3) rfl ?_
        refine zp_getf (n := (n9 : Int)) (pc := 143) hx hb hE hw (zd_X12_readLaw (143, .getfield 279, 3, 0, []) (List.mem_of_getElem? (i := 86) rfl)) (j := 41) rfl rfl rfl hp b23 ?_
        refine zp_iast (j := (8 * n0 + 4)) (pc := 146) hx hb hw heff (zd_X12_readLaw (146, .iastore, 1, 0, []) (List.mem_of_getElem? (i := 87) rfl)) (show zp_ia 1 67 = some (96, 0, 0, (-2147483648), 2147483647) from rfl) hq22 (by omega) (by omega) (zp_o0 (by omega) (by omega) (by omega) (by omega)) rfl ?_
        refine zp_load (pc := 147) hx hb (zd_X12_readLaw (147, .aload_n 0, 1, 0, []) (List.mem_of_getElem? (i := 88) rfl)) rfl (j := 3) rfl ?_
        refine zp_getf (n := (b22 : Int)) (pc := 148) hx hb hE hw (zd_X12_readLaw (148, .getfield 42, 3, 0, []) (List.mem_of_getElem? (i := 89) rfl)) (j := 40) rfl rfl rfl hp ((zp_set_ne (Or.inl (zp_pne hp hq22 (by decide)))).trans (((zp_nf hfre hp rfl).trans ((zp_set_ne (Or.inl (zp_pne hp hq22 (by decide)))).trans ((zp_set_ne (Or.inr (by decide))).trans ((zp_set_ne (Or.inl (zp_pne hp hq22 (by decide)))).trans (g22))))))) ?_
        refine zp_load (pc := 151) hx hb (zd_X12_readLaw (151, .iload_n 2, 1, 0, []) (List.mem_of_getElem? (i := 90) rfl)) rfl (j := 1) rfl ?_
        refine zp_const (pc := 152) hx hb (zd_X12_readLaw (152, .iconst 5, 1, 0, []) (List.mem_of_getElem? (i := 91) rfl)) rfl rfl ?_
        refine zp_add (n := (8 * (n0 : Int) + 5)) (pc := 153) hx hb (zd_X12_readLaw (153, .iadd, 1, 0, []) (List.mem_of_getElem? (i := 92) rfl)) (by omega) (zp_r0 (by omega) (by omega)) ?_
        refine zp_load (pc := 154) hx hb (zd_X12_readLaw (154, .aload_n 0, 1, 0, []) (List.mem_of_getElem? (i := 93) rfl)) rfl (j := 3) rfl ?_
        refine zp_getf (n := (n9 : Int)) (pc := 155) hx hb hE hw (zd_X12_readLaw (155, .getfield 279, 3, 0, []) (List.mem_of_getElem? (i := 94) rfl)) (j := 41) rfl rfl rfl hp ((zp_set_ne (Or.inl (zp_pne hp hq22 (by decide)))).trans (b23)) ?_
        refine zp_iast (j := (8 * n0 + 5)) (pc := 158) hx hb hw heff (zd_X12_readLaw (158, .iastore, 1, 0, []) (List.mem_of_getElem? (i := 95) rfl)) (show zp_ia 1 67 = some (96, 0, 0, (-2147483648), 2147483647) from rfl) hq22 (by omega) (by omega) (zp_o0 (by omega) (by omega) (by omega) (by omega)) rfl ?_
        refine zp_load (pc := 159) hx hb (zd_X12_readLaw (159, .aload_n 0, 1, 0, []) (List.mem_of_getElem? (i := 96) rfl)) rfl (j := 3) rfl ?_
        refine zp_getf (n := 1) (pc := 160) hx hb hE hw (zd_X12_readLaw (160, .getfield 240, 3, 0, []) (List.mem_of_getElem? (i := 97) rfl)) (j := 37) rfl rfl rfl hp ((zp_set_ne (Or.inl (zp_pne hp hq22 (by decide)))).trans ((zp_set_ne (Or.inl (zp_pne hp hq22 (by decide)))).trans (b19))) ?_
        refine zp_if (pc := 163) (tgt := 185) hx hb (zd_X12_readLaw (163, .ifCond .ne 22, 3, 0, []) (List.mem_of_getElem? (i := 98) rfl)) rfl (fun (hcq24 : ¬ 1 = 0) => ?_) (fun (hcq24 : ¬ (¬ 1 = 0)) => ?_)
        · refine zp_load (pc := 185) hx hb (zd_X12_readLaw (185, .aload_n 0, 1, 0, []) (List.mem_of_getElem? (i := 108) rfl)) rfl (j := 3) rfl ?_
          refine zp_getf (n := (b22 : Int)) (pc := 186) hx hb hE hw (zd_X12_readLaw (186, .getfield 42, 3, 0, []) (List.mem_of_getElem? (i := 109) rfl)) (j := 40) rfl rfl rfl hp ((zp_set_ne (Or.inl (zp_pne hp hq22 (by decide)))).trans ((zp_set_ne (Or.inl (zp_pne hp hq22 (by decide)))).trans (((zp_nf hfre hp rfl).trans ((zp_set_ne (Or.inl (zp_pne hp hq22 (by decide)))).trans ((zp_set_ne (Or.inr (by decide))).trans ((zp_set_ne (Or.inl (zp_pne hp hq22 (by decide)))).trans (g22)))))))) ?_
          refine zp_load (pc := 189) hx hb (zd_X12_readLaw (189, .iload_n 2, 1, 0, []) (List.mem_of_getElem? (i := 110) rfl)) rfl (j := 1) rfl ?_
          refine zp_const (pc := 190) hx hb (zd_X12_readLaw (190, .bipush 6, 2, 0, []) (List.mem_of_getElem? (i := 111) rfl)) rfl rfl ?_
          refine zp_add (n := (8 * (n0 : Int) + 6)) (pc := 192) hx hb (zd_X12_readLaw (192, .iadd, 1, 0, []) (List.mem_of_getElem? (i := 112) rfl)) (by omega) (zp_r0 (by omega) (by omega)) ?_
          refine zp_load (pc := 193) hx hb (zd_X12_readLaw (193, .aload_n 0, 1, 0, []) (List.mem_of_getElem? (i := 113) rfl)) rfl (j := 3) rfl ?_
          refine zp_getf (n := (n9 : Int)) (pc := 194) hx hb hE hw (zd_X12_readLaw (194, .getfield 279, 3, 0, []) (List.mem_of_getElem? (i := 114) rfl)) (j := 41) rfl rfl rfl hp ((zp_set_ne (Or.inl (zp_pne hp hq22 (by decide)))).trans ((zp_set_ne (Or.inl (zp_pne hp hq22 (by decide)))).trans (b23))) ?_
          refine zp_iast (j := (8 * n0 + 6)) (pc := 197) hx hb hw heff (zd_X12_readLaw (197, .iastore, 1, 0, []) (List.mem_of_getElem? (i := 115) rfl)) (show zp_ia 1 67 = some (96, 0, 0, (-2147483648), 2147483647) from rfl) hq22 (by omega) (by omega) (zp_o0 (by omega) (by omega) (by omega) (by omega)) rfl ?_
          refine zp_vret (pc := 198) hx hb hE hQ hU5 rfl (by decide) (zd_X12_readLaw (198, .return_, 1, 0, []) (List.mem_of_getElem? (i := 116) rfl)) (j := 0) rfl ?_
          rw [hps]
          refine ⟨rfl, fun z => by omega, fun _ => ?_⟩
          refine ⟨Sum.inl q9, ?_, Or.inl ⟨q9, rfl, ?_⟩⟩
          · unfold yt_cl
            rw [← hits, if_neg hne]
            refine ⟨Sum.inl q9, ?_, Or.inl ⟨q9, rfl, rfl⟩⟩
            rw [if_neg (by omega)]
            exact ⟨_, hse1, Or.inl ⟨q9, rfl, rfl⟩⟩
          · have hdb9 : zDb a Ge c12 c24 c25 c27 c28 := ⟨⟨(zp_nf hfre hp rfl).trans hdbe.1.1, (zp_nf hfre hp rfl).trans hdbe.1.2.1, (zp_nf hfre hp rfl).trans hdbe.1.2.2.1, (zp_nf hfre hp rfl).trans hdbe.1.2.2.2.1, (zp_nf hfre hp rfl).trans hdbe.1.2.2.2.2⟩, hDb.2⟩
            exact ⟨⟨_, _, _, _, _, (zD_ow (zD_ow (zD_ow hB9 hdb9 hb22 hx12 hx24 hx25 hx27 hx28) (zDb_s hdb9 (Or.inl hb22)) hb22 hx12 hx24 hx25 hx27 hx28) (zDb_s (zDb_s hdb9 (Or.inl hb22)) (Or.inl hb22)) hb22 hx12 hx24 hx25 hx27 hx28)⟩, (zp_set_ne (Or.inl (fun z => hb22 z.symm))).trans ((zp_set_ne (Or.inl (fun z => hb22 z.symm))).trans ((zp_set_ne (Or.inl (fun z => hb22 z.symm))).trans (h18)))⟩
        · exfalso
          omega
      · subst hs9
        have hD12 := hD1
        obtain ⟨⟨y13, yl, yt, y12, yB⟩, ⟨y14, y15, y16, y17⟩, ⟨y19, y18⟩, ⟨y23, y24, y25⟩, y26, ⟨y29, yp⟩, y30⟩ := hD12
        obtain ⟨nc1, hnc1⟩ : ∃ x : Nat, x = cd1.2.2 := ⟨_, rfl⟩
        rw [← hnc1] at y23
        refine zp_kn (k := 23) (a := a) (G := Ge) hw (show zp_fd 92 23 = some (12, 0, 0, 0, 400) from rfl) rfl hp (fun hk23 => ?_)
        have hx23 := zp_int hk23
        rw [y23] at hx23
        have he12 : Ge a 12 = (c12 : Int) := (zp_nf hfre hp rfl).trans hdbe.1.1
        have he24 : Ge a 24 = (c24 : Int) := (zp_nf hfre hp rfl).trans hdbe.1.2.1
        have he25 : Ge a 25 = (c25 : Int) := (zp_nf hfre hp rfl).trans hdbe.1.2.2.1
        have he27 : Ge a 27 = (c27 : Int) := (zp_nf hfre hp rfl).trans hdbe.1.2.2.2.1
        have he28 : Ge a 28 = (c28 : Int) := (zp_nf hfre hp rfl).trans hdbe.1.2.2.2.2
        have hdb1 : zDb a Ge c12 c24 c25 c27 c28 := ⟨⟨he12, he24, he25, he27, he28⟩, hDb.2⟩
        refine zp_load (pc := 135) hx hb (zd_X12_readLaw (135, .aload_n 0, 1, 0, []) (List.mem_of_getElem? (i := 80) rfl)) rfl (j := 3) rfl ?_
        refine zp_getf (n := (b22 : Int)) (pc := 136) hx hb hE hw (zd_X12_readLaw (136, .getfield 42, 3, 0, []) (List.mem_of_getElem? (i := 81) rfl)) (j := 40) rfl rfl rfl hp ((zp_nf hfre hp rfl).trans ((zp_set_ne (Or.inl (zp_pne hp hq22 (by decide)))).trans ((zp_set_ne (Or.inr (by decide))).trans ((zp_set_ne (Or.inl (zp_pne hp hq22 (by decide)))).trans (g22))))) ?_
        refine zp_load (pc := 139) hx hb (zd_X12_readLaw (139, .iload_n 2, 1, 0, []) (List.mem_of_getElem? (i := 82) rfl)) rfl (j := 1) rfl ?_
        refine zp_const (pc := 140) hx hb (zd_X12_readLaw (140, .iconst 4, 1, 0, []) (List.mem_of_getElem? (i := 83) rfl)) rfl rfl ?_
        refine zp_add (n := (8 * (n0 : Int) + 4)) (pc := 141) hx hb (zd_X12_readLaw (141, .iadd, 1, 0, []) (List.mem_of_getElem? (i := 84) rfl)) (by omega) (zp_r0 (by omega) (by omega)) ?_
        refine zp_load (pc := 142) hx hb (zd_X12_readLaw (142, .aload_n 0, 1, 0, []) (List.mem_of_getElem? (i := 85) rfl)) rfl (j := 3) rfl ?_
        refine zp_getf (n := (nc1 : Int)) (pc := 143) hx hb hE hw (zd_X12_readLaw (143, .getfield 279, 3, 0, []) (List.mem_of_getElem? (i := 86) rfl)) (j := 41) rfl rfl rfl hp y23 ?_
        refine zp_iast (j := (8 * n0 + 4)) (pc := 146) hx hb hw heff (zd_X12_readLaw (146, .iastore, 1, 0, []) (List.mem_of_getElem? (i := 87) rfl)) (show zp_ia 1 67 = some (96, 0, 0, (-2147483648), 2147483647) from rfl) hq22 (by omega) (by omega) (zp_o0 (by omega) (by omega) (by omega) (by omega)) rfl ?_
        refine zp_load (pc := 147) hx hb (zd_X12_readLaw (147, .aload_n 0, 1, 0, []) (List.mem_of_getElem? (i := 88) rfl)) rfl (j := 3) rfl ?_
        refine zp_getf (n := (b22 : Int)) (pc := 148) hx hb hE hw (zd_X12_readLaw (148, .getfield 42, 3, 0, []) (List.mem_of_getElem? (i := 89) rfl)) (j := 40) rfl rfl rfl hp ((zp_set_ne (Or.inl (zp_pne hp hq22 (by decide)))).trans (((zp_nf hfre hp rfl).trans ((zp_set_ne (Or.inl (zp_pne hp hq22 (by decide)))).trans ((zp_set_ne (Or.inr (by decide))).trans ((zp_set_ne (Or.inl (zp_pne hp hq22 (by decide)))).trans (g22))))))) ?_
        refine zp_load (pc := 151) hx hb (zd_X12_readLaw (151, .iload_n 2, 1, 0, []) (List.mem_of_getElem? (i := 90) rfl)) rfl (j := 1) rfl ?_
        refine zp_const (pc := 152) hx hb (zd_X12_readLaw (152, .iconst 5, 1, 0, []) (List.mem_of_getElem? (i := 91) rfl)) rfl rfl ?_
        refine zp_add (n := (8 * (n0 : Int) + 5)) (pc := 153) hx hb (zd_X12_readLaw (153, .iadd, 1, 0, []) (List.mem_of_getElem? (i := 92) rfl)) (by omega) (zp_r0 (by omega) (by omega)) ?_
        refine zp_load (pc := 154) hx hb (zd_X12_readLaw (154, .aload_n 0, 1, 0, []) (List.mem_of_getElem? (i := 93) rfl)) rfl (j := 3) rfl ?_
        refine zp_getf (n := (nc1 : Int)) (pc := 155) hx hb hE hw (zd_X12_readLaw (155, .getfield 279, 3, 0, []) (List.mem_of_getElem? (i := 94) rfl)) (j := 41) rfl rfl rfl hp ((zp_set_ne (Or.inl (zp_pne hp hq22 (by decide)))).trans (y23)) ?_
        refine zp_iast (j := (8 * n0 + 5)) (pc := 158) hx hb hw heff (zd_X12_readLaw (158, .iastore, 1, 0, []) (List.mem_of_getElem? (i := 95) rfl)) (show zp_ia 1 67 = some (96, 0, 0, (-2147483648), 2147483647) from rfl) hq22 (by omega) (by omega) (zp_o0 (by omega) (by omega) (by omega) (by omega)) rfl ?_
        refine zp_load (pc := 159) hx hb (zd_X12_readLaw (159, .aload_n 0, 1, 0, []) (List.mem_of_getElem? (i := 96) rfl)) rfl (j := 3) rfl ?_
        refine zp_getf (n := 0) (pc := 160) hx hb hE hw (zd_X12_readLaw (160, .getfield 240, 3, 0, []) (List.mem_of_getElem? (i := 97) rfl)) (j := 37) rfl rfl rfl hp ((zp_set_ne (Or.inl (zp_pne hp hq22 (by decide)))).trans ((zp_set_ne (Or.inl (zp_pne hp hq22 (by decide)))).trans (y19))) ?_
        refine zp_if (pc := 163) (tgt := 185) hx hb (zd_X12_readLaw (163, .ifCond .ne 22, 3, 0, []) (List.mem_of_getElem? (i := 98) rfl)) rfl (fun (hcq25 : ¬ 0 = 0) => ?_) (fun (hcq25 : ¬ (¬ 0 = 0)) => ?_)
        · exfalso
          omega
        · have hst6 : zD a (zp_set (zp_set Ge b22 (2000 + (8 * n0 + 4)) (nc1 : Int)) b22 (2000 + (8 * n0 + 5)) (nc1 : Int)) 0 B ln p1 n1 od1 [] cd1 := (zD_ow (zD_ow hD1 hdb1 hb22 hx12 hx24 hx25 hx27 hx28) (zDb_s hdb1 (Or.inl hb22)) hb22 hx12 hx24 hx25 hx27 hx28)
          have hdb6 : zDb a (zp_set (zp_set Ge b22 (2000 + (8 * n0 + 4)) (nc1 : Int)) b22 (2000 + (8 * n0 + 5)) (nc1 : Int)) c12 c24 c25 c27 c28 := (zDb_s (zDb_s hdb1 (Or.inl hb22)) (Or.inl hb22))
          have hst62 := hst6
          obtain ⟨⟨i13, il, it, i12, iB⟩, ⟨i14, i15, i16, i17⟩, ⟨i19, i18⟩, ⟨i23, i24, i25⟩, i26, ⟨i29, ip⟩, i30⟩ := hst62
          obtain ⟨so6, hso6⟩ : ∃ x : Nat, x = zy_so B ln p1 := ⟨_, rfl⟩
          rw [← hso6] at i16
          obtain ⟨wv6, hwv6⟩ : ∃ x : Int, x = zy_wo B ln p1 := ⟨_, rfl⟩
          rw [← hwv6] at i17
          have hwt6 : zDw u.1 false a (zp_set (zp_set Ge b22 (2000 + (8 * n0 + 4)) (nc1 : Int)) b22 (2000 + (8 * n0 + 5)) (nc1 : Int)) := (zDw_o (zDw_o hwe (zp_pne hq22 hp (by decide)) (by decide) hq22) (zp_pne hq22 hp (by decide)) (by decide) hq22)
          have hf6 := zy_nx (B := B) it
          refine zp_load (pc := 166) hx hb (zd_X12_readLaw (166, .aload_n 0, 1, 0, []) (List.mem_of_getElem? (i := 99) rfl)) rfl (j := 3) rfl ?_
          refine zp_ldc2 (pc := 167) hx hb hE (zd_X12_readLaw (167, .ldc2_w 377, 3, 0, []) (List.mem_of_getElem? (i := 100) rfl)) (j := 104) rfl ?_
          refine zp_call (pc := 170) (how := 0) (idx := 300) (mi := 216) (S := []) hx hb hE hw heff hrm (zY_wo hW) rfl (j := 18) rfl rfl (by decide +kernel) (zd_X12_readLaw (170, .invokevirtual 300, 3, 0, []) (List.mem_of_getElem? (i := 101) rfl)) [(a : Int), 294] rfl ⟨zp_o2 hp, zp_o1 ⟨by decide, by decide⟩, trivial⟩ (Nat.le_of_ble_eq_true rfl) trivial (fun al hal rnw Pw Gw hextw hfrw hokw hcsw hpsiw => ?_)
          obtain rfl := List.mem_singleton.mp hal
          have hrw := zp_int (hokw _ rfl).1
          obtain ⟨hPew, hGew, htw⟩ := hpsiw
          rw [hPew, hGew]
          have htw : rnw = 1 ↔ (zp_set (zp_set Ge b22 (2000 + (8 * n0 + 4)) (nc1 : Int)) b22 (2000 + (8 * n0 + 5)) (nc1 : Int)) a 16 = 1 ∧ (zp_set (zp_set Ge b22 (2000 + (8 * n0 + 4)) (nc1 : Int)) b22 (2000 + (8 * n0 + 5)) (nc1 : Int)) a 17 = 294 := htw
          rw [i16, i17] at htw
          refine zp_if (pc := 173) (tgt := 185) hx hb (zd_X12_readLaw (173, .ifCond .eq 12, 3, 0, []) (List.mem_of_getElem? (i := 102) rfl)) rfl (fun (hcq26 : rnw = 0) => ?_) (fun (hcq26 : ¬ (rnw = 0)) => ?_)
          · refine zp_load (pc := 185) hx hb (zd_X12_readLaw (185, .aload_n 0, 1, 0, []) (List.mem_of_getElem? (i := 108) rfl)) rfl (j := 3) rfl ?_
            refine zp_getf (n := (b22 : Int)) (pc := 186) hx hb hE hw (zd_X12_readLaw (186, .getfield 42, 3, 0, []) (List.mem_of_getElem? (i := 109) rfl)) (j := 40) rfl rfl rfl hp ((zp_set_ne (Or.inl (zp_pne hp hq22 (by decide)))).trans ((zp_set_ne (Or.inl (zp_pne hp hq22 (by decide)))).trans (((zp_nf hfre hp rfl).trans ((zp_set_ne (Or.inl (zp_pne hp hq22 (by decide)))).trans ((zp_set_ne (Or.inr (by decide))).trans ((zp_set_ne (Or.inl (zp_pne hp hq22 (by decide)))).trans (g22)))))))) ?_
            refine zp_load (pc := 189) hx hb (zd_X12_readLaw (189, .iload_n 2, 1, 0, []) (List.mem_of_getElem? (i := 110) rfl)) rfl (j := 1) rfl ?_
            refine zp_const (pc := 190) hx hb (zd_X12_readLaw (190, .bipush 6, 2, 0, []) (List.mem_of_getElem? (i := 111) rfl)) rfl rfl ?_
            refine zp_add (n := (8 * (n0 : Int) + 6)) (pc := 192) hx hb (zd_X12_readLaw (192, .iadd, 1, 0, []) (List.mem_of_getElem? (i := 112) rfl)) (by omega) (zp_r0 (by omega) (by omega)) ?_
            refine zp_load (pc := 193) hx hb (zd_X12_readLaw (193, .aload_n 0, 1, 0, []) (List.mem_of_getElem? (i := 113) rfl)) rfl (j := 3) rfl ?_
            refine zp_getf (n := (nc1 : Int)) (pc := 194) hx hb hE hw (zd_X12_readLaw (194, .getfield 279, 3, 0, []) (List.mem_of_getElem? (i := 114) rfl)) (j := 41) rfl rfl rfl hp ((zp_set_ne (Or.inl (zp_pne hp hq22 (by decide)))).trans ((zp_set_ne (Or.inl (zp_pne hp hq22 (by decide)))).trans (y23))) ?_
            refine zp_iast (j := (8 * n0 + 6)) (pc := 197) hx hb hw heff (zd_X12_readLaw (197, .iastore, 1, 0, []) (List.mem_of_getElem? (i := 115) rfl)) (show zp_ia 1 67 = some (96, 0, 0, (-2147483648), 2147483647) from rfl) hq22 (by omega) (by omega) (zp_o0 (by omega) (by omega) (by omega) (by omega)) rfl ?_
            refine zp_vret (pc := 198) hx hb hE hQ hU5 rfl (by decide) (zd_X12_readLaw (198, .return_, 1, 0, []) (List.mem_of_getElem? (i := 116) rfl)) (j := 0) rfl ?_
            rw [hps]
            refine ⟨rfl, fun z => by omega, fun _ => ?_⟩
            refine ⟨Sum.inr (p1, n1, (its, some y1, none, 1, none)), ?_, Or.inr ⟨p1, n1, (its, some y1, none, 1, none), od1, [], cd1, rfl, ?_, ?_, ?_, ?_, ?_, ?_, ?_, ?_, ?_⟩⟩
            · unfold yt_cl
              rw [← hits, if_neg hne]
              refine ⟨Sum.inr (p1, n1, some y1), ?_, Or.inr ⟨p1, n1, some y1, rfl, ?_⟩⟩
              · rw [if_neg (by omega)]
                exact ⟨_, hse1, Or.inr ⟨p1, n1, y1, rfl, rfl⟩⟩
              · exact ⟨Sum.inr (p1, n1, none), by unfold yt_if; rw [if_neg (fun z => by have := yr_w_i.mp z; omega)], Or.inr ⟨p1, n1, none, rfl, rfl⟩⟩
            · exact (zD_ow (zD_ow (zD_ow hD1 hdb1 hb22 hx12 hx24 hx25 hx27 hx28) (zDb_s hdb1 (Or.inl hb22)) hb22 hx12 hx24 hx25 hx27 hx28) (zDb_s (zDb_s hdb1 (Or.inl hb22)) (Or.inl hb22)) hb22 hx12 hx24 hx25 hx27 hx28)
            · omega
            · omega
            · have l1 := yF_lt hF1
              omega
            · intro j hj
              have l1 := yF_lt hF1
              have e1 := hF1.1 j hj
              exact e1
            · exact (((zp_set_ne (Or.inl (zp_pne hp hq22 (by decide)))).trans ((zp_set_ne (Or.inl (zp_pne hp hq22 (by decide)))).trans ((zp_set_ne (Or.inl (zp_pne hp hq22 (by decide)))).trans (((zp_nf hfre hp rfl).trans ((zp_set_ne (Or.inl (zp_pne hp hq22 (by decide)))).trans (zp_set_self)))))))).trans (by omega)
            · intro j hj
              exact (zv_eq (show (zp_set (zp_set (zp_set Ge b22 (2000 + (8 * n0 + 4)) (nc1 : Int)) b22 (2000 + (8 * n0 + 5)) (nc1 : Int)) b22 (2000 + (8 * n0 + 6)) (nc1 : Int)) a 22 = (b22 : Int) from ((zp_set_ne (Or.inl (zp_pne hp hq22 (by decide)))).trans ((zp_set_ne (Or.inl (zp_pne hp hq22 (by decide)))).trans ((zp_set_ne (Or.inl (zp_pne hp hq22 (by decide)))).trans (((zp_nf hfre hp rfl).trans ((zp_set_ne (Or.inl (zp_pne hp hq22 (by decide)))).trans ((zp_set_ne (Or.inr (by decide))).trans ((zp_set_ne (Or.inl (zp_pne hp hq22 (by decide)))).trans (g22)))))))))) j).trans ((((zp_set_ne (Or.inr (by omega))).trans ((zp_set_ne (Or.inr (by omega))).trans ((zp_set_ne (Or.inr (by omega))).trans (((zp_nc hfre hq22 rfl (2000 + j)).trans ((zp_set_ne (Or.inr (by omega))).trans ((zp_set_ne (Or.inl (zp_pne hq22 hp (by decide)))).trans ((zp_set_ne (Or.inr (by omega))).trans ((z22 j hj))))))))))).trans (zv_eq hA22 j).symm)
            · have x22 : (zp_set (zp_set (zp_set Ge b22 (2000 + (8 * n0 + 4)) (nc1 : Int)) b22 (2000 + (8 * n0 + 5)) (nc1 : Int)) b22 (2000 + (8 * n0 + 6)) (nc1 : Int)) a 22 = (b22 : Int) := ((zp_set_ne (Or.inl (zp_pne hp hq22 (by decide)))).trans ((zp_set_ne (Or.inl (zp_pne hp hq22 (by decide)))).trans ((zp_set_ne (Or.inl (zp_pne hp hq22 (by decide)))).trans (((zp_nf hfre hp rfl).trans ((zp_set_ne (Or.inl (zp_pne hp hq22 (by decide)))).trans ((zp_set_ne (Or.inr (by decide))).trans ((zp_set_ne (Or.inl (zp_pne hp hq22 (by decide)))).trans (g22)))))))))
              have q0 : zv (zp_set (zp_set (zp_set Ge b22 (2000 + (8 * n0 + 4)) (nc1 : Int)) b22 (2000 + (8 * n0 + 5)) (nc1 : Int)) b22 (2000 + (8 * n0 + 6)) (nc1 : Int)) a 22 (8 * n0) = its := by rw [zv_eq x22]; exact ((zp_set_ne (Or.inr (by omega))).trans ((zp_set_ne (Or.inr (by omega))).trans ((zp_set_ne (Or.inr (by omega))).trans (((zp_nc hfre hq22 rfl (2000 + (8 * n0))).trans ((zp_set_ne (Or.inr (by omega))).trans ((zp_set_ne (Or.inl (zp_pne hq22 hp (by decide)))).trans (zp_set_self))))))))
              have q3 : zv (zp_set (zp_set (zp_set Ge b22 (2000 + (8 * n0 + 4)) (nc1 : Int)) b22 (2000 + (8 * n0 + 5)) (nc1 : Int)) b22 (2000 + (8 * n0 + 6)) (nc1 : Int)) a 22 (8 * n0 + 3) = (nc : Int) := by rw [zv_eq x22]; exact ((zp_set_ne (Or.inr (by omega))).trans ((zp_set_ne (Or.inr (by omega))).trans ((zp_set_ne (Or.inr (by omega))).trans (((zp_nc hfre hq22 rfl (2000 + (8 * n0 + 3))).trans zp_set_self)))))
              have q4 : zv (zp_set (zp_set (zp_set Ge b22 (2000 + (8 * n0 + 4)) (nc1 : Int)) b22 (2000 + (8 * n0 + 5)) (nc1 : Int)) b22 (2000 + (8 * n0 + 6)) (nc1 : Int)) a 22 (8 * n0 + 4) = (nc1 : Int) := by rw [zv_eq x22]; exact ((zp_set_ne (Or.inr (by omega))).trans ((zp_set_ne (Or.inr (by omega))).trans (zp_set_self)))
              have q5 : zv (zp_set (zp_set (zp_set Ge b22 (2000 + (8 * n0 + 4)) (nc1 : Int)) b22 (2000 + (8 * n0 + 5)) (nc1 : Int)) b22 (2000 + (8 * n0 + 6)) (nc1 : Int)) a 22 (8 * n0 + 5) = (nc1 : Int) := by rw [zv_eq x22]; exact ((zp_set_ne (Or.inr (by omega))).trans (zp_set_self))
              have q6 : zv (zp_set (zp_set (zp_set Ge b22 (2000 + (8 * n0 + 4)) (nc1 : Int)) b22 (2000 + (8 * n0 + 5)) (nc1 : Int)) b22 (2000 + (8 * n0 + 6)) (nc1 : Int)) a 22 (8 * n0 + 6) = (nc1 : Int) := by rw [zv_eq x22]; exact zp_set_self
              unfold zLc
              rw [show zp_0 [(a : Int)] = a from rfl, q0, q3, q4, q5, q6]
              have l1 := yF_lt hF1
              refine ⟨rfl, hir.1, hir.2, ?_, by omega, ?_⟩
              · obtain ⟨z1, f1, z2⟩ := hF1
                exact Or.inr ⟨y1, rfl, by show ¬ its = 4; omega, nc, nc1, kx, f1, rfl, rfl, by omega, by omega, by rw [hnc, hnc1]; exact z2⟩
              · exact Or.inl ⟨rfl, rfl, by omega, by omega⟩
            · have hfin : zy_fr B ln tk + 1 ≤ zy_fr B ln p1 := by
                have g1 := yZ_fr false hft.1 hse1 (Or.inl rfl)
                omega
              omega
          · refine zp_load (pc := 176) hx hb (zd_X12_readLaw (176, .aload_n 0, 1, 0, []) (List.mem_of_getElem? (i := 103) rfl)) rfl (j := 3) rfl ?_
            refine zp_call (pc := 177) (how := 0) (idx := 244) (mi := 212) (S := []) hx hb hE hw heff hrm (zY_nx hW B ln (zy_to B ln p1)) rfl (j := 14) rfl rfl (by decide +kernel) (zd_X12_readLaw (177, .invokevirtual 244, 3, 0, []) (List.mem_of_getElem? (i := 104) rfl)) [(a : Int)] rfl ⟨zp_o2 hp, trivial⟩ (Nat.le_of_ble_eq_true rfl) (zD_y hst6) (fun al hal rnn Pn Gn hextn hfrn hokn hcsn hpsin => ?_)
            obtain rfl := List.mem_singleton.mp hal
            obtain ⟨rfl, htn⟩ := hpsin
            have hstn := zD_nx hst6 htn
            have hwn := zDw_fr hwt6 hp hfrn rfl
            have hn12 : Gn a 12 = (c12 : Int) := (zp_nf hfrn hp rfl).trans hdb6.1.1
            have hn24 : Gn a 24 = (c24 : Int) := (zp_nf hfrn hp rfl).trans hdb6.1.2.1
            have hn25 : Gn a 25 = (c25 : Int) := (zp_nf hfrn hp rfl).trans hdb6.1.2.2.1
            have hn27 : Gn a 27 = (c27 : Int) := (zp_nf hfrn hp rfl).trans hdb6.1.2.2.2.1
            have hn28 : Gn a 28 = (c28 : Int) := (zp_nf hfrn hp rfl).trans hdb6.1.2.2.2.2
            refine zp_load (pc := 180) hx hb (zd_X12_readLaw (180, .aload_n 0, 1, 0, []) (List.mem_of_getElem? (i := 105) rfl)) rfl (j := 3) rfl ?_
            refine zp_const (pc := 181) hx hb (zd_X12_readLaw (181, .iconst 1, 1, 0, []) (List.mem_of_getElem? (i := 106) rfl)) rfl rfl ?_
            have hf7 := hf6.2.2 (by omega)
            refine zp_call (pc := 182) (how := 0) (idx := 374) (mi := 218) (S := []) hx hb hE hw heff hrm (zY_ex hW false B ln (zy_to B ln p1) n1 od1 [] cd1) rfl (j := 20) rfl rfl (by decide +kernel) (zd_X12_readLaw (182, .invokevirtual 374, 3, 0, []) (List.mem_of_getElem? (i := 107) rfl)) [(a : Int), 1] rfl ⟨zp_o2 hp, zp_o0 (by decide) (by decide) (by decide) (by decide), trivial⟩ (Nat.le_of_ble_eq_true rfl) ⟨hstn, by omega, by omega, hwn⟩ (fun al hal rny Py Gy hexty hfry hoky hcsy hpsiy => ?_)
            obtain rfl := List.mem_singleton.mp hal
            obtain ⟨rfl, hty⟩ := hpsiy
            have hty : zDe_ false a Gy B ln (zy_to B ln p1) n1 cd1 (decide ((1 : Int) = 1)) := hty
            obtain ⟨sy, hsy1, hsy2⟩ := hty
            have hsy1 : yZ (zy_so B ln) (zy_wo B ln) (zy_to B ln) (ylf false B ln) 8 0 n1 (zy_to B ln p1) yx0 sy := hsy1
            rcases hsy2 with ⟨q9, hq9, ⟨tk9, nl9, od9, pi9, cd9, hB9⟩, h18⟩ | ⟨p2, n2, y2, ky, od2, cd2, hs9, hnn2, hm25, hD2, hF2, hc25, hT2⟩
            · subst hq9
              have hB92 := hB9
              obtain ⟨⟨b13, bl, bt, b12, bB⟩, ⟨b14, b15, b16, b17⟩, ⟨b19, b18⟩, ⟨b23, b24, b25⟩, b26, ⟨b29, bp⟩, b30⟩ := hB92
              obtain ⟨n9, hn9⟩ : ∃ x : Nat, x = cd9.2.2 := ⟨_, rfl⟩
              rw [← hn9] at b23
              refine zp_kn (k := 23) (a := a) (G := Gy) hw (show zp_fd 92 23 = some (12, 0, 0, 0, 400) from rfl) rfl hp (fun hk23 => ?_)
              have hx23 := zp_int hk23
              rw [b23] at hx23
              refine zp_load (pc := 185) hx hb (zd_X12_readLaw (185, .aload_n 0, 1, 0, []) (List.mem_of_getElem? (i := 108) rfl)) rfl (j := 3) rfl ?_
              refine zp_getf (n := (b22 : Int)) (pc := 186) hx hb hE hw (zd_X12_readLaw (186, .getfield 42, 3, 0, []) (List.mem_of_getElem? (i := 109) rfl)) (j := 40) rfl rfl rfl hp ((zp_nf hfry hp rfl).trans ((zp_nf hfrn hp rfl).trans ((zp_set_ne (Or.inl (zp_pne hp hq22 (by decide)))).trans ((zp_set_ne (Or.inl (zp_pne hp hq22 (by decide)))).trans (((zp_nf hfre hp rfl).trans ((zp_set_ne (Or.inl (zp_pne hp hq22 (by decide)))).trans ((zp_set_ne (Or.inr (by decide))).trans ((zp_set_ne (Or.inl (zp_pne hp hq22 (by decide)))).trans (g22)))))))))) ?_
              refine zp_load (pc := 189) hx hb (zd_X12_readLaw (189, .iload_n 2, 1, 0, []) (List.mem_of_getElem? (i := 110) rfl)) rfl (j := 1) rfl ?_
              refine zp_const (pc := 190) hx hb (zd_X12_readLaw (190, .bipush 6, 2, 0, []) (List.mem_of_getElem? (i := 111) rfl)) rfl rfl ?_
              refine zp_add (n := (8 * (n0 : Int) + 6)) (pc := 192) hx hb (zd_X12_readLaw (192, .iadd, 1, 0, []) (List.mem_of_getElem? (i := 112) rfl)) (by omega) (zp_r0 (by omega) (by omega)) ?_
              refine zp_load (pc := 193) hx hb (zd_X12_readLaw (193, .aload_n 0, 1, 0, []) (List.mem_of_getElem? (i := 113) rfl)) rfl (j := 3) rfl ?_
              refine zp_getf (n := (n9 : Int)) (pc := 194) hx hb hE hw (zd_X12_readLaw (194, .getfield 279, 3, 0, []) (List.mem_of_getElem? (i := 114) rfl)) (j := 41) rfl rfl rfl hp b23 ?_
              refine zp_iast (j := (8 * n0 + 6)) (pc := 197) hx hb hw heff (zd_X12_readLaw (197, .iastore, 1, 0, []) (List.mem_of_getElem? (i := 115) rfl)) (show zp_ia 1 67 = some (96, 0, 0, (-2147483648), 2147483647) from rfl) hq22 (by omega) (by omega) (zp_o0 (by omega) (by omega) (by omega) (by omega)) rfl ?_
              refine zp_vret (pc := 198) hx hb hE hQ hU5 rfl (by decide) (zd_X12_readLaw (198, .return_, 1, 0, []) (List.mem_of_getElem? (i := 116) rfl)) (j := 0) rfl ?_
              rw [hps]
              refine ⟨rfl, fun z => by omega, fun _ => ?_⟩
              refine ⟨Sum.inl q9, ?_, Or.inl ⟨q9, rfl, ?_⟩⟩
              · unfold yt_cl
                rw [← hits, if_neg hne]
                refine ⟨Sum.inr (p1, n1, some y1), ?_, Or.inr ⟨p1, n1, some y1, rfl, ?_⟩⟩
                · rw [if_neg (by omega)]
                  exact ⟨_, hse1, Or.inr ⟨p1, n1, y1, rfl, rfl⟩⟩
                · exact ⟨Sum.inl q9, by unfold yt_if; rw [if_pos (yr_w_i.mpr ⟨by omega, by omega⟩)]; exact ⟨_, hsy1, Or.inl ⟨q9, rfl, rfl⟩⟩, Or.inl ⟨q9, rfl, rfl⟩⟩
              · have hdb9 : zDb a Gy c12 c24 c25 c27 c28 := ⟨⟨(zp_nf hfry hp rfl).trans hn12, (zp_nf hfry hp rfl).trans hn24, (zp_nf hfry hp rfl).trans hn25, (zp_nf hfry hp rfl).trans hn27, (zp_nf hfry hp rfl).trans hn28⟩, hDb.2⟩
                exact ⟨⟨_, _, _, _, _, (zD_ow hB9 hdb9 hb22 hx12 hx24 hx25 hx27 hx28)⟩, (zp_set_ne (Or.inl (fun z => hb22 z.symm))).trans (h18)⟩
            · subst hs9
              have hT2 := hT2 (by decide)
              have hD22 := hD2
              obtain ⟨⟨v13, vl, vt, v12, vB⟩, ⟨v14, v15, v16, v17⟩, ⟨v19, v18⟩, ⟨v23, v24, v25⟩, v26, ⟨v29, vp⟩, v30⟩ := hD22
              obtain ⟨nc2, hnc2⟩ : ∃ x : Nat, x = cd2.2.2 := ⟨_, rfl⟩
              rw [← hnc2] at v23
              refine zp_kn (k := 23) (a := a) (G := Gy) hw (show zp_fd 92 23 = some (12, 0, 0, 0, 400) from rfl) rfl hp (fun hk23 => ?_)
              have hx23 := zp_int hk23
              rw [v23] at hx23
              have hv12 : Gy a 12 = (c12 : Int) := (zp_nf hfry hp rfl).trans hn12
              have hv24 : Gy a 24 = (c24 : Int) := (zp_nf hfry hp rfl).trans hn24
              have hv25 : Gy a 25 = (c25 : Int) := (zp_nf hfry hp rfl).trans hn25
              have hv27 : Gy a 27 = (c27 : Int) := (zp_nf hfry hp rfl).trans hn27
              have hv28 : Gy a 28 = (c28 : Int) := (zp_nf hfry hp rfl).trans hn28
              have hdb2 : zDb a Gy c12 c24 c25 c27 c28 := ⟨⟨hv12, hv24, hv25, hv27, hv28⟩, hDb.2⟩
              refine zp_load (pc := 185) hx hb (zd_X12_readLaw (185, .aload_n 0, 1, 0, []) (List.mem_of_getElem? (i := 108) rfl)) rfl (j := 3) rfl ?_
              refine zp_getf (n := (b22 : Int)) (pc := 186) hx hb hE hw (zd_X12_readLaw (186, .getfield 42, 3, 0, []) (List.mem_of_getElem? (i := 109) rfl)) (j := 40) rfl rfl rfl hp ((zp_nf hfry hp rfl).trans ((zp_nf hfrn hp rfl).trans ((zp_set_ne (Or.inl (zp_pne hp hq22 (by decide)))).trans ((zp_set_ne (Or.inl (zp_pne hp hq22 (by decide)))).trans (((zp_nf hfre hp rfl).trans ((zp_set_ne (Or.inl (zp_pne hp hq22 (by decide)))).trans ((zp_set_ne (Or.inr (by decide))).trans ((zp_set_ne (Or.inl (zp_pne hp hq22 (by decide)))).trans (g22)))))))))) ?_
              refine zp_load (pc := 189) hx hb (zd_X12_readLaw (189, .iload_n 2, 1, 0, []) (List.mem_of_getElem? (i := 110) rfl)) rfl (j := 1) rfl ?_
              refine zp_const (pc := 190) hx hb (zd_X12_readLaw (190, .bipush 6, 2, 0, []) (List.mem_of_getElem? (i := 111) rfl)) rfl rfl ?_
              refine zp_add (n := (8 * (n0 : Int) + 6)) (pc := 192) hx hb (zd_X12_readLaw (192, .iadd, 1, 0, []) (List.mem_of_getElem? (i := 112) rfl)) (by omega) (zp_r0 (by omega) (by omega)) ?_
              refine zp_load (pc := 193) hx hb (zd_X12_readLaw (193, .aload_n 0, 1, 0, []) (List.mem_of_getElem? (i := 113) rfl)) rfl (j := 3) rfl ?_
              refine zp_getf (n := (nc2 : Int)) (pc := 194) hx hb hE hw (zd_X12_readLaw (194, .getfield 279, 3, 0, []) (List.mem_of_getElem? (i := 114) rfl)) (j := 41) rfl rfl rfl hp v23 ?_
              refine zp_iast (j := (8 * n0 + 6)) (pc := 197) hx hb hw heff (zd_X12_readLaw (197, .iastore, 1, 0, []) (List.mem_of_getElem? (i := 115) rfl)) (show zp_ia 1 67 = some (96, 0, 0, (-2147483648), 2147483647) from rfl) hq22 (by omega) (by omega) (zp_o0 (by omega) (by omega) (by omega) (by omega)) rfl ?_
              refine zp_vret (pc := 198) hx hb hE hQ hU5 rfl (by decide) (zd_X12_readLaw (198, .return_, 1, 0, []) (List.mem_of_getElem? (i := 116) rfl)) (j := 0) rfl ?_
              rw [hps]
              refine ⟨rfl, fun z => by omega, fun _ => ?_⟩
              refine ⟨Sum.inr (p2, n2, (its, some y1, none, 1, some y2)), ?_, Or.inr ⟨p2, n2, (its, some y1, none, 1, some y2), od2, [], cd2, rfl, ?_, ?_, ?_, ?_, ?_, ?_, ?_, ?_, ?_⟩⟩
              · unfold yt_cl
                rw [← hits, if_neg hne]
                refine ⟨Sum.inr (p1, n1, some y1), ?_, Or.inr ⟨p1, n1, some y1, rfl, ?_⟩⟩
                · rw [if_neg (by omega)]
                  exact ⟨_, hse1, Or.inr ⟨p1, n1, y1, rfl, rfl⟩⟩
                · exact ⟨Sum.inr (p2, n2, some y2), by unfold yt_if; rw [if_pos (yr_w_i.mpr ⟨by omega, by omega⟩)]; exact ⟨_, hsy1, Or.inr ⟨p2, n2, y2, rfl, rfl⟩⟩, Or.inr ⟨p2, n2, some y2, rfl, rfl⟩⟩
              · exact (zD_ow hD2 hdb2 hb22 hx12 hx24 hx25 hx27 hx28)
              · omega
              · omega
              · have l1 := yF_lt hF1
                have l2 := yF_lt hF2
                omega
              · intro j hj
                have l1 := yF_lt hF1
                have e1 := hF1.1 j hj
                have e2 := hF2.1 j (by omega)
                exact ⟨e2.1.trans e1.1, e2.2.trans e1.2⟩
              · exact (((zp_set_ne (Or.inl (zp_pne hp hq22 (by decide)))).trans (((zp_nf hfry hp rfl).trans ((zp_nf hfrn hp rfl).trans ((zp_set_ne (Or.inl (zp_pne hp hq22 (by decide)))).trans ((zp_set_ne (Or.inl (zp_pne hp hq22 (by decide)))).trans (((zp_nf hfre hp rfl).trans ((zp_set_ne (Or.inl (zp_pne hp hq22 (by decide)))).trans (zp_set_self))))))))))).trans (by omega)
              · intro j hj
                exact (zv_eq (show (zp_set Gy b22 (2000 + (8 * n0 + 6)) (nc2 : Int)) a 22 = (b22 : Int) from ((zp_set_ne (Or.inl (zp_pne hp hq22 (by decide)))).trans (((zp_nf hfry hp rfl).trans ((zp_nf hfrn hp rfl).trans ((zp_set_ne (Or.inl (zp_pne hp hq22 (by decide)))).trans ((zp_set_ne (Or.inl (zp_pne hp hq22 (by decide)))).trans (((zp_nf hfre hp rfl).trans ((zp_set_ne (Or.inl (zp_pne hp hq22 (by decide)))).trans ((zp_set_ne (Or.inr (by decide))).trans ((zp_set_ne (Or.inl (zp_pne hp hq22 (by decide)))).trans (g22))))))))))))) j).trans ((((zp_set_ne (Or.inr (by omega))).trans (((zp_nc hfry hq22 rfl (2000 + j)).trans ((zp_nc hfrn hq22 rfl (2000 + j)).trans ((zp_set_ne (Or.inr (by omega))).trans ((zp_set_ne (Or.inr (by omega))).trans (((zp_nc hfre hq22 rfl (2000 + j)).trans ((zp_set_ne (Or.inr (by omega))).trans ((zp_set_ne (Or.inl (zp_pne hq22 hp (by decide)))).trans ((zp_set_ne (Or.inr (by omega))).trans ((z22 j hj)))))))))))))).trans (zv_eq hA22 j).symm)
              · have x22 : (zp_set Gy b22 (2000 + (8 * n0 + 6)) (nc2 : Int)) a 22 = (b22 : Int) := ((zp_set_ne (Or.inl (zp_pne hp hq22 (by decide)))).trans (((zp_nf hfry hp rfl).trans ((zp_nf hfrn hp rfl).trans ((zp_set_ne (Or.inl (zp_pne hp hq22 (by decide)))).trans ((zp_set_ne (Or.inl (zp_pne hp hq22 (by decide)))).trans (((zp_nf hfre hp rfl).trans ((zp_set_ne (Or.inl (zp_pne hp hq22 (by decide)))).trans ((zp_set_ne (Or.inr (by decide))).trans ((zp_set_ne (Or.inl (zp_pne hp hq22 (by decide)))).trans (g22))))))))))))
                have q0 : zv (zp_set Gy b22 (2000 + (8 * n0 + 6)) (nc2 : Int)) a 22 (8 * n0) = its := by rw [zv_eq x22]; exact ((zp_set_ne (Or.inr (by omega))).trans (((zp_nc hfry hq22 rfl (2000 + (8 * n0))).trans ((zp_nc hfrn hq22 rfl (2000 + (8 * n0))).trans ((zp_set_ne (Or.inr (by omega))).trans ((zp_set_ne (Or.inr (by omega))).trans (((zp_nc hfre hq22 rfl (2000 + (8 * n0))).trans ((zp_set_ne (Or.inr (by omega))).trans ((zp_set_ne (Or.inl (zp_pne hq22 hp (by decide)))).trans (zp_set_self)))))))))))
                have q3 : zv (zp_set Gy b22 (2000 + (8 * n0 + 6)) (nc2 : Int)) a 22 (8 * n0 + 3) = (nc : Int) := by rw [zv_eq x22]; exact ((zp_set_ne (Or.inr (by omega))).trans (((zp_nc hfry hq22 rfl (2000 + (8 * n0 + 3))).trans ((zp_nc hfrn hq22 rfl (2000 + (8 * n0 + 3))).trans ((zp_set_ne (Or.inr (by omega))).trans ((zp_set_ne (Or.inr (by omega))).trans (((zp_nc hfre hq22 rfl (2000 + (8 * n0 + 3))).trans zp_set_self))))))))
                have q4 : zv (zp_set Gy b22 (2000 + (8 * n0 + 6)) (nc2 : Int)) a 22 (8 * n0 + 4) = (nc1 : Int) := by rw [zv_eq x22]; exact ((zp_set_ne (Or.inr (by omega))).trans (((zp_nc hfry hq22 rfl (2000 + (8 * n0 + 4))).trans ((zp_nc hfrn hq22 rfl (2000 + (8 * n0 + 4))).trans ((zp_set_ne (Or.inr (by omega))).trans (zp_set_self))))))
                have q5 : zv (zp_set Gy b22 (2000 + (8 * n0 + 6)) (nc2 : Int)) a 22 (8 * n0 + 5) = (nc1 : Int) := by rw [zv_eq x22]; exact ((zp_set_ne (Or.inr (by omega))).trans (((zp_nc hfry hq22 rfl (2000 + (8 * n0 + 5))).trans ((zp_nc hfrn hq22 rfl (2000 + (8 * n0 + 5))).trans zp_set_self))))
                have q6 : zv (zp_set Gy b22 (2000 + (8 * n0 + 6)) (nc2 : Int)) a 22 (8 * n0 + 6) = (nc2 : Int) := by rw [zv_eq x22]; exact zp_set_self
                unfold zLc
                rw [show zp_0 [(a : Int)] = a from rfl, q0, q3, q4, q5, q6]
                have l1 := yF_lt hF1
                have l2 := yF_lt hF2
                refine ⟨rfl, hir.1, hir.2, ?_, by omega, ?_⟩
                · obtain ⟨z1, f1, z2⟩ := hF1
                  exact Or.inr ⟨y1, rfl, by show ¬ its = 4; omega, nc, nc1, kx, f1, rfl, rfl, by omega, by omega, by rw [hnc, hnc1]; exact yE_c (fun j j1 j2 => hF2.1 j j2) z2⟩
                · obtain ⟨z1, f2, z2⟩ := hF2
                  exact Or.inr ⟨y2, rfl, ⟨nc1, nc2, ky, f2, rfl, rfl, by omega, by omega, by rw [hnc1, hnc2]; exact z2⟩, hT2⟩
              · have hfin : zy_fr B ln tk + 1 ≤ zy_fr B ln p2 := by
                  have g1 := yZ_fr false hft.1 hse1 (Or.inl rfl)
                  have g2 := yZ_fr false hf6.1 hsy1 (Or.inr rfl)
                  omega
                omega
  have loop : ∀ (n k : Nat) (its : Int) (G : Nat → Nat → Int), 8 - k < n → k ≤ 8 → n0 < 12 → its = yt_hl (zy_so B ln) (zy_wo B ln) tk → ¬ its = -1 → zD a G 0 B ln (zy_to B ln tk) nl od pi cd → zDw u.1 false a G → G a 21 = (n0 : Int) → G a 22 = (b22 : Int) → (∀ j, j < 8 * n0 → G b22 (2000 + j) = zp_n u.2.1 b22 (2000 + j)) → (∃ c12 c24 c25 c27 c28 : Nat, zDb a G c12 c24 c25 c27 c28 ∧ c12 ≠ b22 ∧ c24 ≠ b22 ∧ c25 ≠ b22 ∧ c27 ≠ b22 ∧ c28 ≠ b22) → zp_J p l e R s m args below meth c Q w u [] 75 [(3, 0, (k : Int)), (2, 0, (8 * (n0 : Int))), (1, 0, its), (0, 2, (a : Int))] [] u.1 G := by
    intro n
    induction n with
    | zero => intro k its G h; exact absurd h (Nat.not_lt_zero _)
    | succ n ih =>
      intro k its G hn hk hn0 hits hne hG hwG g21 g22 z22 hdb
      replace hdb : zHid _ := hdb
      refine zp_load (pc := 75) hx hb (zd_X12_readLaw (75, .iload_n 3, 1, 0, []) (List.mem_of_getElem? (i := 43) rfl)) rfl (j := 0) rfl ?_
      refine zp_const (pc := 76) hx hb (zd_X12_readLaw (76, .bipush 8, 2, 0, []) (List.mem_of_getElem? (i := 44) rfl)) rfl rfl ?_
      refine zp_icmp (pc := 78) (tgt := 96) hx hb (zd_X12_readLaw (78, .if_icmp .ge 18, 3, 0, []) (List.mem_of_getElem? (i := 45) rfl)) rfl (fun (hcq27 : 8 ≤ (k : Int)) => ?_) (fun (hcq27 : ¬ (8 ≤ (k : Int))) => ?_)
      · exact h96 (k : Int) its G hn0 hits hne hG hwG g21 g22 z22
      · refine zp_load (pc := 81) hx hb (zd_X12_readLaw (81, .aload_n 0, 1, 0, []) (List.mem_of_getElem? (i := 46) rfl)) rfl (j := 3) rfl ?_
        refine zp_getf (n := (b22 : Int)) (pc := 82) hx hb hE hw (zd_X12_readLaw (82, .getfield 42, 3, 0, []) (List.mem_of_getElem? (i := 47) rfl)) (j := 40) rfl rfl rfl hp g22 ?_
        refine zp_load (pc := 85) hx hb (zd_X12_readLaw (85, .iload_n 2, 1, 0, []) (List.mem_of_getElem? (i := 48) rfl)) rfl (j := 1) rfl ?_
        refine zp_load (pc := 86) hx hb (zd_X12_readLaw (86, .iload_n 3, 1, 0, []) (List.mem_of_getElem? (i := 49) rfl)) rfl (j := 0) rfl ?_
        refine zp_add (n := (8 * (n0 : Int) + (k : Int))) (pc := 87) hx hb (zd_X12_readLaw (87, .iadd, 1, 0, []) (List.mem_of_getElem? (i := 50) rfl)) (by omega) (zp_r0 (by omega) (by omega)) ?_
        refine zp_const (pc := 88) hx hb (zd_X12_readLaw (88, .iconst 0, 1, 0, []) (List.mem_of_getElem? (i := 51) rfl)) rfl rfl ?_
        refine zp_iast (j := (8 * n0 + k)) (pc := 89) hx hb hw heff (zd_X12_readLaw (89, .iastore, 1, 0, []) (List.mem_of_getElem? (i := 52) rfl)) (show zp_ia 1 67 = some (96, 0, 0, (-2147483648), 2147483647) from rfl) hq22 (by omega) (by omega) (zp_o0 (by omega) (by omega) (by omega) (by omega)) rfl ?_
        refine zp_iinc (L' := [(3, 0, ((k : Int) + 1)), (2, 0, (8 * (n0 : Int))), (1, 0, its), (0, 2, (a : Int))]) (n := ((k : Int) + 1)) (pc := 90) hx hb hnL (zd_X12_readLaw (90, .iinc 3 1, 3, 0, []) (List.mem_of_getElem? (i := 53) rfl)) (j := 0) rfl (by omega) (zp_r0 (by omega) (by omega)) rfl rfl ?_
        refine zp_goto (tgt := 75) (pc := 93) hx hb (zd_X12_readLaw (93, .goto (-18), 3, 0, []) (List.mem_of_getElem? (i := 54) rfl)) rfl ?_
        obtain ⟨c12, c24, c25, c27, c28, hDb, hx12, hx24, hx25, hx27, hx28⟩ := hdb
        refine ih (k + 1) its _ (by omega) (by omega) hn0 hits hne (zD_ow hG hDb (zp_pne hq22 hp (by decide)) hx12 hx24 hx25 hx27 hx28) (zDw_o hwG (zp_pne hq22 hp (by decide)) (by decide) hq22) ((zp_set_ne (Or.inl (zp_pne hp hq22 (by decide)))).trans g21) ((zp_set_ne (Or.inl (zp_pne hp hq22 (by decide)))).trans g22) (fun j hj => (zp_set_ne (Or.inr (by omega))).trans (z22 j hj)) ⟨c12, c24, c25, c27, c28, zDb_s hDb (Or.inl (zp_pne hq22 hp (by decide))), hx12, hx24, hx25, hx27, hx28⟩
  have h34 : ∀ (k2 its : Int), its = yt_hl (zy_so B ln) (zy_wo B ln) tk → zp_J p l e R s m args below meth c Q w u [] 34 [(2, 0, k2), (1, 0, its), (0, 2, (a : Int))] [] u.1 (zp_n u.2.1) := by
    clear h96
    intro k2 its hits
    refine zp_load (pc := 34) hx hb (zd_X12_readLaw (34, .aload_n 0, 1, 0, []) (List.mem_of_getElem? (i := 20) rfl)) rfl (j := 2) rfl ?_
    refine zp_load (pc := 35) hx hb (zd_X12_readLaw (35, .iload_n 1, 1, 0, []) (List.mem_of_getElem? (i := 21) rfl)) rfl (j := 1) rfl ?_
    refine zp_const (pc := 36) hx hb (zd_X12_readLaw (36, .iconst (-1), 1, 0, []) (List.mem_of_getElem? (i := 22) rfl)) rfl rfl ?_
    refine zp_icmp (pc := 37) (tgt := 53) hx hb (zd_X12_readLaw (37, .if_icmp .eq 16, 3, 0, []) (List.mem_of_getElem? (i := 23) rfl)) rfl (fun (hcq28 : its = (-1)) => ?_) (fun (hcq28 : ¬ (its = (-1))) => ?_)
    · refine zp_const (pc := 53) hx hb (zd_X12_readLaw (53, .iconst 0, 1, 0, []) (List.mem_of_getElem? (i := 30) rfl)) rfl rfl ?_
      refine zp_call (pc := 54) (how := 0) (idx := 275) (mi := 217) (S := []) hx hb hE hw heff hrm (zY_mu hW B ln tk nl od pi cd) rfl (j := 19) rfl rfl (by decide +kernel) (zd_X12_readLaw (54, .invokevirtual 275, 3, 0, []) (List.mem_of_getElem? (i := 31) rfl)) [(a : Int), 0] rfl ⟨zp_o2 hp, zp_o0 (by decide) (by decide) (by decide) (by decide), trivial⟩ (Nat.le_of_ble_eq_true rfl) hD (fun al hal rnm Pm Gm hextm hfrm hokm hcsm hpsim => ?_)
      obtain rfl := List.mem_singleton.mp hal
      obtain ⟨rfl, htm⟩ := hpsim
      have htm : zD a Gm 1 B ln tk nl od pi cd ∧ Gm a 18 = (zy_fr B ln tk : Int) := htm.1 (show (0 : Int) ≠ 1 by decide)
      have htm2 := htm.1
      obtain ⟨⟨m13, ml, mt, m12, mB⟩, ⟨m14, m15, m16, m17⟩, ⟨m19, m18⟩, ⟨m23, m24, m25⟩, m26, ⟨m29, mp⟩, m30⟩ := htm2
      have mk21 : Gm a 21 = (n0 : Int) := ((zp_nf hfrm hp rfl).trans h21)
      have mk22 : Gm a 22 = (b22 : Int) := ((zp_nf hfrm hp rfl).trans hb22)
      refine zp_load (pc := 57) hx hb (zd_X12_readLaw (57, .aload_n 0, 1, 0, []) (List.mem_of_getElem? (i := 32) rfl)) rfl (j := 2) rfl ?_
      refine zp_getf (n := 1) (pc := 58) hx hb hE hw (zd_X12_readLaw (58, .getfield 240, 3, 0, []) (List.mem_of_getElem? (i := 33) rfl)) (j := 37) rfl rfl rfl hp m19 ?_
      refine zp_if (pc := 61) (tgt := 65) hx hb (zd_X12_readLaw (61, .ifCond .eq 4, 3, 0, []) (List.mem_of_getElem? (i := 34) rfl)) rfl (fun (hcq29 : 1 = 0) => ?_) (fun (hcq29 : ¬ (1 = 0)) => ?_)
      · exfalso
        omega
      · refine zp_vret (pc := 64) hx hb hE hQ hU5 rfl (by decide) (zd_X12_readLaw (64, .return_, 1, 0, []) (List.mem_of_getElem? (i := 35) rfl)) (j := 0) rfl ?_
        rw [hps]
        refine ⟨rfl, fun _ => ⟨⟨_, _, _, _, _, htm.1⟩, htm.2⟩, fun hz => ?_⟩
        refine ⟨Sum.inl tk, ?_, Or.inl ⟨tk, rfl, ⟨_, _, _, _, _, htm.1⟩, htm.2⟩⟩
        unfold yt_cl
        rw [← hits, if_pos (by omega)]
    · refine zp_load (pc := 40) hx hb (zd_X12_readLaw (40, .aload_n 0, 1, 0, []) (List.mem_of_getElem? (i := 24) rfl)) rfl (j := 2) rfl ?_
      refine zp_getf (n := (n0 : Int)) (pc := 41) hx hb hE hw (zd_X12_readLaw (41, .getfield 371, 3, 0, []) (List.mem_of_getElem? (i := 25) rfl)) (j := 39) rfl rfl rfl hp h21 ?_
      refine zp_const (pc := 44) hx hb (zd_X12_readLaw (44, .bipush 12, 2, 0, []) (List.mem_of_getElem? (i := 26) rfl)) rfl rfl ?_
      refine zp_icmp (pc := 46) (tgt := 53) hx hb (zd_X12_readLaw (46, .if_icmp .ge 7, 3, 0, []) (List.mem_of_getElem? (i := 27) rfl)) rfl (fun (hcq30 : 12 ≤ (n0 : Int)) => ?_) (fun (hcq30 : ¬ (12 ≤ (n0 : Int))) => ?_)
      · refine zp_const (pc := 53) hx hb (zd_X12_readLaw (53, .iconst 0, 1, 0, []) (List.mem_of_getElem? (i := 30) rfl)) rfl rfl ?_
        refine zp_call (pc := 54) (how := 0) (idx := 275) (mi := 217) (S := []) hx hb hE hw heff hrm (zY_mu hW B ln tk nl od pi cd) rfl (j := 19) rfl rfl (by decide +kernel) (zd_X12_readLaw (54, .invokevirtual 275, 3, 0, []) (List.mem_of_getElem? (i := 31) rfl)) [(a : Int), 0] rfl ⟨zp_o2 hp, zp_o0 (by decide) (by decide) (by decide) (by decide), trivial⟩ (Nat.le_of_ble_eq_true rfl) hD (fun al hal rnm Pm Gm hextm hfrm hokm hcsm hpsim => ?_)
        obtain rfl := List.mem_singleton.mp hal
        obtain ⟨rfl, htm⟩ := hpsim
        have htm : zD a Gm 1 B ln tk nl od pi cd ∧ Gm a 18 = (zy_fr B ln tk : Int) := htm.1 (show (0 : Int) ≠ 1 by decide)
        have htm2 := htm.1
        obtain ⟨⟨m13, ml, mt, m12, mB⟩, ⟨m14, m15, m16, m17⟩, ⟨m19, m18⟩, ⟨m23, m24, m25⟩, m26, ⟨m29, mp⟩, m30⟩ := htm2
        have mk21 : Gm a 21 = (n0 : Int) := ((zp_nf hfrm hp rfl).trans h21)
        have mk22 : Gm a 22 = (b22 : Int) := ((zp_nf hfrm hp rfl).trans hb22)
        refine zp_load (pc := 57) hx hb (zd_X12_readLaw (57, .aload_n 0, 1, 0, []) (List.mem_of_getElem? (i := 32) rfl)) rfl (j := 2) rfl ?_
        refine zp_getf (n := 1) (pc := 58) hx hb hE hw (zd_X12_readLaw (58, .getfield 240, 3, 0, []) (List.mem_of_getElem? (i := 33) rfl)) (j := 37) rfl rfl rfl hp m19 ?_
        refine zp_if (pc := 61) (tgt := 65) hx hb (zd_X12_readLaw (61, .ifCond .eq 4, 3, 0, []) (List.mem_of_getElem? (i := 34) rfl)) rfl (fun (hcq31 : 1 = 0) => ?_) (fun (hcq31 : ¬ (1 = 0)) => ?_)
        · exfalso
          omega
        · refine zp_vret (pc := 64) hx hb hE hQ hU5 rfl (by decide) (zd_X12_readLaw (64, .return_, 1, 0, []) (List.mem_of_getElem? (i := 35) rfl)) (j := 0) rfl ?_
          rw [hps]
          refine ⟨rfl, fun _ => ⟨⟨_, _, _, _, _, htm.1⟩, htm.2⟩, fun hz => ?_⟩
          refine ⟨Sum.inl tk, ?_, Or.inl ⟨tk, rfl, ⟨_, _, _, _, _, htm.1⟩, htm.2⟩⟩
          unfold yt_cl
          rw [← hits, if_pos (by omega)]
      · refine zp_const (pc := 49) hx hb (zd_X12_readLaw (49, .iconst 1, 1, 0, []) (List.mem_of_getElem? (i := 28) rfl)) rfl rfl ?_
        refine zp_goto (tgt := 54) (pc := 50) hx hb (zd_X12_readLaw (50, .goto 4, 3, 0, []) (List.mem_of_getElem? (i := 29) rfl)) rfl ?_
        refine zp_call (pc := 54) (how := 0) (idx := 275) (mi := 217) (S := []) hx hb hE hw heff hrm (zY_mu hW B ln tk nl od pi cd) rfl (j := 19) rfl rfl (by decide +kernel) (zd_X12_readLaw (54, .invokevirtual 275, 3, 0, []) (List.mem_of_getElem? (i := 31) rfl)) [(a : Int), 1] rfl ⟨zp_o2 hp, zp_o0 (by decide) (by decide) (by decide) (by decide), trivial⟩ (Nat.le_of_ble_eq_true rfl) hD (fun al hal rnm Pm Gm hextm hfrm hokm hcsm hpsim => ?_)
        obtain rfl := List.mem_singleton.mp hal
        obtain ⟨rfl, htm⟩ := hpsim
        have htm : zD a Gm 0 B ln (zy_to B ln tk) nl od pi cd := htm.2 rfl
        have htm2 := htm
        obtain ⟨⟨m13, ml, mt, m12, mB⟩, ⟨m14, m15, m16, m17⟩, ⟨m19, m18⟩, ⟨m23, m24, m25⟩, m26, ⟨m29, mp⟩, m30⟩ := htm2
        have mk21 : Gm a 21 = (n0 : Int) := ((zp_nf hfrm hp rfl).trans h21)
        have mk22 : Gm a 22 = (b22 : Int) := ((zp_nf hfrm hp rfl).trans hb22)
        refine zp_load (pc := 57) hx hb (zd_X12_readLaw (57, .aload_n 0, 1, 0, []) (List.mem_of_getElem? (i := 32) rfl)) rfl (j := 2) rfl ?_
        refine zp_getf (n := 0) (pc := 58) hx hb hE hw (zd_X12_readLaw (58, .getfield 240, 3, 0, []) (List.mem_of_getElem? (i := 33) rfl)) (j := 37) rfl rfl rfl hp m19 ?_
        refine zp_if (pc := 61) (tgt := 65) hx hb (zd_X12_readLaw (61, .ifCond .eq 4, 3, 0, []) (List.mem_of_getElem? (i := 34) rfl)) rfl (fun (hcq32 : 0 = 0) => ?_) (fun (hcq32 : ¬ (0 = 0)) => ?_)
        · refine zp_const (pc := 65) hx hb (zd_X12_readLaw (65, .bipush 8, 2, 0, []) (List.mem_of_getElem? (i := 36) rfl)) rfl rfl ?_
          refine zp_load (pc := 67) hx hb (zd_X12_readLaw (67, .aload_n 0, 1, 0, []) (List.mem_of_getElem? (i := 37) rfl)) rfl (j := 2) rfl ?_
          refine zp_getf (n := (n0 : Int)) (pc := 68) hx hb hE hw (zd_X12_readLaw (68, .getfield 371, 3, 0, []) (List.mem_of_getElem? (i := 38) rfl)) (j := 39) rfl rfl rfl hp mk21 ?_
          refine zp_mul (n := (8 * (n0 : Int))) (pc := 71) hx hb (zd_X12_readLaw (71, .imul, 1, 0, []) (List.mem_of_getElem? (i := 39) rfl)) (by omega) (zp_r0 (by omega) (by omega)) ?_
          refine zp_store (L' := [(2, 0, (8 * (n0 : Int))), (1, 0, its), (0, 2, (a : Int))]) (pc := 72) hx hb hnL (zd_X12_readLaw (72, .istore_n 2, 1, 0, []) (List.mem_of_getElem? (i := 40) rfl)) rfl rfl rfl ?_
          refine zp_const (pc := 73) hx hb (zd_X12_readLaw (73, .iconst 0, 1, 0, []) (List.mem_of_getElem? (i := 41) rfl)) rfl rfl ?_
          refine zp_store (L' := [(3, 0, 0), (2, 0, (8 * (n0 : Int))), (1, 0, its), (0, 2, (a : Int))]) (pc := 74) hx hb hnL (zd_X12_readLaw (74, .istore_n 3, 1, 0, []) (List.mem_of_getElem? (i := 42) rfl)) rfl rfl rfl ?_
          have hwm := zDw_fr hw0 hp hfrm rfl
          refine loop 9 0 its Gm (by omega) (by omega) (by omega) hits (by omega) htm hwm mk21 mk22 (fun j _ => zp_nc hfrm hq22 rfl _) ⟨b12, b24, b25, b27, b28, ⟨⟨(zp_nf hfrm hp rfl).trans hb12, (zp_nf hfrm hp rfl).trans hb24, (zp_nf hfrm hp rfl).trans hb25, (zp_nf hfrm hp rfl).trans hb27, (zp_nf hfrm hp rfl).trans hb28⟩, ⟨zp_pne hq24 hp (by decide), zp_pne hq25 hp (by decide), zp_pne hq27 hp (by decide), zp_pne hq28 hp (by decide)⟩, ⟨zp_pne hq12 hq24 (by decide), zp_pne hq12 hq25 (by decide), zp_pne hq12 hq27 (by decide), zp_pne hq12 hq28 (by decide)⟩, zp_pne hq24 hq25 (by decide), zp_pne hq24 hq27 (by decide), zp_pne hq24 hq28 (by decide), zp_pne hq25 hq27 (by decide), zp_pne hq25 hq28 (by decide), zp_pne hq27 hq28 (by decide)⟩, zp_pne hq12 hq22 (by decide), zp_pne hq24 hq22 (by decide), zp_pne hq25 hq22 (by decide), zp_pne hq27 hq22 (by decide), zp_pne hq28 hq22 (by decide)⟩
        · exfalso
          omega
  have lw : ∀ (n k : Nat) (its : Int), 5 - k < n → k ≤ 5 → ((its = -1 ∧ ∀ i : Nat, i < k → ¬ (so = 1 ∧ wv = ywh.getD i 0)) ∨ ∃ i : Nat, i < k ∧ its = (i : Int) ∧ so = 1 ∧ wv = ywh.getD i 0) → zp_J p l e R s m args below meth c Q w u [] 4 [(2, 0, (k : Int)), (1, 0, its), (0, 2, (a : Int))] [] u.1 (zp_n u.2.1) := by
    clear h96 loop
    intro n
    induction n with
    | zero => intro k its h; exact absurd h (Nat.not_lt_zero _)
    | succ n ih =>
      intro k its hn hk hinv
      replace hinv : zHid _ := hinv
      have hits : -1 ≤ its ∧ its ≤ 5 := by
        rcases hinv with ⟨h1, -⟩ | ⟨i, h1, h2, -⟩ <;> omega
      refine zp_load (pc := 4) hx hb (zd_X12_readLaw (4, .iload_n 2, 1, 0, []) (List.mem_of_getElem? (i := 4) rfl)) rfl (j := 0) rfl ?_
      refine zp_const (pc := 5) hx hb (zd_X12_readLaw (5, .iconst 5, 1, 0, []) (List.mem_of_getElem? (i := 5) rfl)) rfl rfl ?_
      refine zp_icmp (pc := 6) (tgt := 34) hx hb (zd_X12_readLaw (6, .if_icmp .ge 28, 3, 0, []) (List.mem_of_getElem? (i := 6) rfl)) rfl (fun (hcq33 : 5 ≤ (k : Int)) => ?_) (fun (hcq33 : ¬ (5 ≤ (k : Int))) => ?_)
      · refine h34 (k : Int) its ?_
        have hk5 : k = 5 := by omega
        subst hk5
        rw [yt_hl_eq, ← hso, ← hwv]
        rcases hinv with ⟨h1, h2⟩ | ⟨i, h1, h2, h3, h4⟩
        · rw [h1]
          by_cases z : so = 1
          · rw [if_pos z, ych_no (L := ywh) (fun i hi y => h2 i hi ⟨z, y⟩)]
          · rw [if_neg z]
        · rw [if_pos h3, ych_at ywh_d h1 h4, h2]
          omega
      · have hwk := hwd k (by omega)
        refine zp_load (pc := 9) hx hb (zd_X12_readLaw (9, .aload_n 0, 1, 0, []) (List.mem_of_getElem? (i := 7) rfl)) rfl (j := 2) rfl ?_
        refine zp_load (pc := 10) hx hb (zd_X12_readLaw (10, .aload_n 0, 1, 0, []) (List.mem_of_getElem? (i := 8) rfl)) rfl (j := 2) rfl ?_
        refine zp_getf (n := (b33 : Int)) (pc := 11) hx hb hE hw (zd_X12_readLaw (11, .getfield 98, 3, 0, []) (List.mem_of_getElem? (i := 9) rfl)) (j := 51) rfl rfl rfl hp hb33 ?_
        refine zp_load (pc := 14) hx hb (zd_X12_readLaw (14, .iload_n 2, 1, 0, []) (List.mem_of_getElem? (i := 10) rfl)) rfl (j := 0) rfl ?_
        refine zp_lald (j := k) (v := (ywh.getD k 0)) (pc := 15) hx hb hw (zd_X12_readLaw (15, .laload, 1, 0, []) (List.mem_of_getElem? (i := 11) rfl)) (show zp_ia 2 74 = some (5, 1, 0, (-9223372036854775808), 9223372036854775807) from rfl) hq33 (by omega) (by omega) hwk ?_
        refine zp_sk (k := 1) (j := 0) rfl (fun hlw => ?_)
        refine zp_call (pc := 16) (how := 0) (idx := 300) (mi := 216) (S := []) hx hb hE hw heff hrm (zY_wo hW) rfl (j := 18) rfl rfl (by decide +kernel) (zd_X12_readLaw (16, .invokevirtual 300, 3, 0, []) (List.mem_of_getElem? (i := 12) rfl)) [(a : Int), (ywh.getD k 0)] rfl ⟨zp_o2 hp, zp_o1 (by assumption), trivial⟩ (Nat.le_of_ble_eq_true rfl) trivial (fun al hal rnw Pw Gw hextw hfrw hokw hcsw hpsiw => ?_)
        obtain rfl := List.mem_singleton.mp hal
        have hrw := zp_int (hokw _ rfl).1
        obtain ⟨hPew, hGew, htw⟩ := hpsiw
        rw [hPew, hGew]
        have htw : rnw = 1 ↔ zp_n u.2.1 a 16 = 1 ∧ zp_n u.2.1 a 17 = ywh.getD k 0 := htw
        rw [d16, d17] at htw
        refine zp_if (pc := 19) (tgt := 26) hx hb (zd_X12_readLaw (19, .ifCond .eq 7, 3, 0, []) (List.mem_of_getElem? (i := 13) rfl)) rfl (fun (hcq35 : rnw = 0) => ?_) (fun (hcq35 : ¬ (rnw = 0)) => ?_)
        · refine zp_load (pc := 26) hx hb (zd_X12_readLaw (26, .iload_n 1, 1, 0, []) (List.mem_of_getElem? (i := 16) rfl)) rfl (j := 1) rfl ?_
          refine zp_store (L' := [(1, 0, its), (2, 0, (k : Int)), (0, 2, (a : Int))]) (pc := 27) hx hb hnL (zd_X12_readLaw (27, .istore_n 1, 1, 0, []) (List.mem_of_getElem? (i := 17) rfl)) rfl rfl rfl ?_
          refine zp_iinc (L' := [(2, 0, ((k : Int) + 1)), (1, 0, its), (0, 2, (a : Int))]) (n := ((k : Int) + 1)) (pc := 28) hx hb hnL (zd_X12_readLaw (28, .iinc 2 1, 3, 0, []) (List.mem_of_getElem? (i := 18) rfl)) (j := 1) rfl (by omega) (zp_r0 (by omega) (by omega)) rfl rfl ?_
          refine zp_goto (tgt := 4) (pc := 31) hx hb (zd_X12_readLaw (31, .goto (-27), 3, 0, []) (List.mem_of_getElem? (i := 19) rfl)) rfl ?_
          refine ih (k + 1) its (by omega) (by omega) ?_
          have hno : ¬ (so = 1 ∧ wv = ywh.getD k 0) := fun z => by
            have := htw.mpr ⟨by omega, z.2⟩
            omega
          rcases hinv with ⟨h1, h2⟩ | ⟨i, h1, h2, h3⟩
          · refine Or.inl ⟨h1, fun i hi => ?_⟩
            by_cases hik : i = k
            · rw [hik]; exact hno
            · exact h2 i (by omega)
          · exact Or.inr ⟨i, by omega, h2, h3⟩
        · refine zp_load (pc := 22) hx hb (zd_X12_readLaw (22, .iload_n 2, 1, 0, []) (List.mem_of_getElem? (i := 14) rfl)) rfl (j := 0) rfl ?_
          refine zp_goto (tgt := 27) (pc := 23) hx hb (zd_X12_readLaw (23, .goto 4, 3, 0, []) (List.mem_of_getElem? (i := 15) rfl)) rfl ?_
          refine zp_store (L' := [(1, 0, (k : Int)), (2, 0, (k : Int)), (0, 2, (a : Int))]) (pc := 27) hx hb hnL (zd_X12_readLaw (27, .istore_n 1, 1, 0, []) (List.mem_of_getElem? (i := 17) rfl)) rfl rfl rfl ?_
          refine zp_iinc (L' := [(2, 0, ((k : Int) + 1)), (1, 0, (k : Int)), (0, 2, (a : Int))]) (n := ((k : Int) + 1)) (pc := 28) hx hb hnL (zd_X12_readLaw (28, .iinc 2 1, 3, 0, []) (List.mem_of_getElem? (i := 18) rfl)) (j := 1) rfl (by omega) (zp_r0 (by omega) (by omega)) rfl rfl ?_
          refine zp_goto (tgt := 4) (pc := 31) hx hb (zd_X12_readLaw (31, .goto (-27), 3, 0, []) (List.mem_of_getElem? (i := 19) rfl)) rfl ?_
          refine ih (k + 1) (k : Int) (by omega) (by omega) ?_
          have hyes := htw.mp (by omega)
          exact Or.inr ⟨k, by omega, rfl, by omega, hyes.2⟩
  refine zp_const (pc := 0) hx hb (zd_X12_readLaw (0, .iconst (-1), 1, 0, []) (List.mem_of_getElem? (i := 0) rfl)) rfl rfl ?_
  refine zp_store (L' := [(1, 0, (-1)), (0, 2, (a : Int))]) (pc := 1) hx hb hnL (zd_X12_readLaw (1, .istore_n 1, 1, 0, []) (List.mem_of_getElem? (i := 1) rfl)) rfl rfl rfl ?_
  refine zp_const (pc := 2) hx hb (zd_X12_readLaw (2, .iconst 0, 1, 0, []) (List.mem_of_getElem? (i := 2) rfl)) rfl rfl ?_
  refine zp_store (L' := [(2, 0, 0), (1, 0, (-1)), (0, 2, (a : Int))]) (pc := 3) hx hb hnL (zd_X12_readLaw (3, .istore_n 2, 1, 0, []) (List.mem_of_getElem? (i := 3) rfl)) rfl rfl rfl ?_
  exact lw 6 0 (-1) (by omega) (by omega) (Or.inl ⟨rfl, fun i hi => absurd hi (Nat.not_lt_zero i)⟩)
