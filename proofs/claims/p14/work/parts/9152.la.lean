/-! part la: the row's places in the class; doings agree on both sides -/
/-- where the class keeps the row's number j -/
noncomputable def zPl (j : Nat) : Nat × Nat :=
  if j < 11 then (if j = 0 then (1, 1) else if j = 1 then (1, 3) else if j = 2 then (1, 9) else if j = 3 then (1, 14) else if j = 4 then (1, 15) else if j = 5 then (2, 6) else if j = 6 then (1, 16) else if j = 7 then (1, 17) else if j = 8 then (2, 3) else if j = 9 then (2, 4) else (2, 5))
  else if j < 29 then (if (j - 11) % 3 = 0 then (50, 2000 + (j - 11) / 3) else if (j - 11) % 3 = 1 then (31, 2000 + (j - 11) / 3) else (51, 2000 + (j - 11) / 3))
  else if j < 39 then (52, 2000 + (j - 29))
  else if j < 89 then (32 + (j - 39) % 5, 2000 + (j - 39) / 5)
  else if j < 153 then (30, 2000 + (j - 89))
  else (37 + (j - 153) % 3, 2000 + (j - 153) / 3)
theorem zRc_pl {V : Nat → Nat → Int} {j : Nat} : zRc V 2 50 j = V (zPl j).1 (zPl j).2 := by
  unfold zRc zPl
  repeat' split
  all_goals first | rfl | (exfalso; omega)
theorem zPl_i : ∀ i, i < 180 → ∀ j, j < 180 → zPl i = zPl j → i = j := by decide +kernel
/-- the rows of both sides -/
noncomputable def zRr (V W : Nat → Nat → Int) : Prop := ∀ j, j < 180 → zRc W 2 50 j = V 3 (2000 + j)
theorem zRr_q {V W : Nat → Nat → Int} (h : zRr V W) : zQr (zRw V) (zRc W 2 50) := h
/-- a number of the row is set on both sides -/
theorem zRr_s {V W : Nat → Nat → Int} (h : zRr V W) {j : Nat} {v : Int} (hj : j < 180) : zRr (zp_set V 3 (2000 + j) v) (zp_set W (zPl j).1 (zPl j).2 v) := fun i hi => by
  rw [zRc_pl]
  by_cases e : i = j
  · rw [e, zp_set_self, zp_set_self]
  · have hne : (zPl i).1 ≠ (zPl j).1 ∨ (zPl i).2 ≠ (zPl j).2 := by
      by_cases c1 : (zPl i).1 = (zPl j).1
      · by_cases c2 : (zPl i).2 = (zPl j).2
        · exact absurd (zPl_i i hi j hj (Prod.ext c1 c2)) e
        · exact Or.inr c2
      · exact Or.inl c1
    rw [zp_set_ne hne, zp_set_ne (Or.inr (by omega)), ← zRc_pl (V := W) (j := i)]
    exact h i hi
theorem zRr_e {V V' W W' : Nat → Nat → Int} (h : zRr V W) (hV : ∀ j, j < 180 → V' 3 (2000 + j) = V 3 (2000 + j)) (hW : ∀ o k, (o = 1 ∨ o = 2 ∨ (30 ≤ o ∧ o < 40) ∨ (50 ≤ o ∧ o < 53)) → W' o k = W o k) : zRr V' W' := fun j hj => by
  rw [zRc_f hW, hV j hj]
  exact h j hj
theorem zRr_kep {V W : Nat → Nat → Int} {s s' : Int} {nu : Nat} (h : zRr V W) : zRr (zT_rem V s nu) (zf_kep3 W s').2 :=
  zRr_e h (fun j hj => zT_rem_3) (fun o k ho => zf_kep3_f (fun hm => by
    have h9 : o = 3 ∨ o = 62 ∨ o = 63 := by simpa using hm
    omega))
theorem zRr_5 {V W : Nat → Nat → Int} (h : zRr V W) : W 2 6 = V 3 (2000 + 5) ∧ W 1 16 = V 3 (2000 + 6) ∧ W 2 3 = V 3 (2000 + 8) ∧ W 2 4 = V 3 (2000 + 9) ∧ W 2 5 = V 3 (2000 + 10) ∧ W 1 1 = V 3 (2000 + 0) ∧ W 1 3 = V 3 (2000 + 1) :=
  ⟨h 5 (by decide), h 6 (by decide), h 8 (by decide), h 9 (by decide), h 10 (by decide), h 0 (by decide), h 1 (by decide)⟩
/-- what the law tells of wear is the same -/
theorem zS_we {V W : Nat → Nat → Int} {Lw : List yK} {t : Int} (h : zRr V W) : zy_we (zg_ew (zRc W 2 50) zd_S0 t (-1) (-1) (-1)) Lw t = zd_we V Lw t := by
  unfold zd_we
  rw [zg_ew_q (zRr_q h) (by decide)]
  rfl
/-- winding -/
theorem zS_wn {V W : Nat → Nat → Int} {nu n1 np : Nat} {Lw : List yK} {t : Int} (h : zRr V W) (hI : zRI V nu n1 np Lw) (hs : 0 ≤ V 3 (2000 + 9) ∧ V 3 (2000 + 9) ≤ 1) : (zf_wnbc W Lw t).1 = (zf_wnn V nu Lw t).1 ∧ zRr (zf_wnn V nu Lw t).2 (zf_wnbc W Lw t).2 := by
  obtain ⟨e5, e6, e8, e9, e10, -, -⟩ := zRr_5 h
  have hl := hI.2.2.2.2.2.2.1
  have hk := zRr_kep (s := 0) (s' := 0) (nu := nu) h
  have hl2 : (zT_rem V 0 nu) 3 (2000 + 8) = V 3 (2000 + 8) := zT_rem_3
  have go : 0 ≤ t ∧ t ≤ 12 → ((zf_wby2 (zf_kep3 W 0).2 t (zy_we (zg_ew (zRc (zf_kep3 W 0).2 2 50) zd_S0 t (-1) (-1) (-1)) Lw t)).2 2 3 = (zf_wea (zT_rem V 0 nu) Lw t).2 3 (2000 + 8)) ∧ zRr (zf_wea (zT_rem V 0 nu) Lw t).2 (zf_wby2 (zf_kep3 W 0).2 t (zy_we (zg_ew (zRc (zf_kep3 W 0).2 2 50) zd_S0 t (-1) (-1) (-1)) Lw t)).2 := fun ht => by
    rw [zS_we hk]
    have hb := zd_web (V := zT_rem V 0 nu) (L := Lw) (t := t) ht.1 (by omega)
    have hk8 : (zf_kep3 W 0).2 2 3 = V 3 (2000 + 8) := (hk 8 (by decide)).trans hl2
    have hv : max 0 ((zf_kep3 W 0).2 2 3 - zd_we (zT_rem V 0 nu) Lw t) = max 0 (min 9999 ((zT_rem V 0 nu) 3 (2000 + 8) - zd_we (zT_rem V 0 nu) Lw t)) := by omega
    have h1 : zRr (zp_set (zT_rem V 0 nu) 3 (2000 + 8) (max 0 (min 9999 ((zT_rem V 0 nu) 3 (2000 + 8) - zd_we (zT_rem V 0 nu) Lw t)))) (zf_wea2 (zf_kep3 W 0).2 (zd_we (zT_rem V 0 nu) Lw t)).2 := by
      unfold zf_wea2
      show zRr _ (zp_set (zf_kep3 W 0).2 2 3 (max 0 ((zf_kep3 W 0).2 2 3 - zd_we (zT_rem V 0 nu) Lw t)))
      rw [hv]
      exact zRr_s hk (j := 8) (by decide)
    have hv2 : (zf_wea2 (zf_kep3 W 0).2 (zd_we (zT_rem V 0 nu) Lw t)).2 2 3 = max 0 (min 9999 ((zT_rem V 0 nu) 3 (2000 + 8) - zd_we (zT_rem V 0 nu) Lw t)) := by
      rw [← hv]
      unfold zf_wea2
      dsimp only
      exact zp_set_self
    unfold zf_wby2 zf_wea
    rw [hv2]
    by_cases c : max 0 (min 9999 ((zT_rem V 0 nu) 3 (2000 + 8) - zd_we (zT_rem V 0 nu) Lw t)) = 0
    · rw [if_neg (fun z => z c), if_neg (fun z => z c)]
      refine ⟨?_, zRr_s (zRr_s h1 (j := 9) (by decide)) (j := 10) (by decide)⟩
      show zp_set (zp_set (zf_wea2 (zf_kep3 W 0).2 (zd_we (zT_rem V 0 nu) Lw t)).2 2 4 1) 2 5 (-1) 2 3 = zp_set (zp_set (zp_set (zT_rem V 0 nu) 3 (2000 + 8) (max 0 (min 9999 ((zT_rem V 0 nu) 3 (2000 + 8) - zd_we (zT_rem V 0 nu) Lw t)))) 3 (2000 + 9) 1) 3 (2000 + 10) (-1) 3 (2000 + 8)
      rw [zp_set_ne (Or.inr (by decide)), zp_set_ne (Or.inr (by decide)), hv2, zp_set_ne (Or.inr (by decide)), zp_set_ne (Or.inr (by decide)), zp_set_self]
    · rw [if_pos c, if_pos c]
      refine ⟨?_, zRr_s (zRr_s h1 (j := 9) (by decide)) (j := 10) (by decide)⟩
      show zp_set (zp_set (zf_wea2 (zf_kep3 W 0).2 (zd_we (zT_rem V 0 nu) Lw t)).2 2 4 0) 2 5 t 2 3 = zp_set (zp_set (zp_set (zT_rem V 0 nu) 3 (2000 + 8) (max 0 (min 9999 ((zT_rem V 0 nu) 3 (2000 + 8) - zd_we (zT_rem V 0 nu) Lw t)))) 3 (2000 + 9) 0) 3 (2000 + 10) t 3 (2000 + 8)
      rw [zp_set_ne (Or.inr (by decide)), zp_set_ne (Or.inr (by decide)), hv2, zp_set_ne (Or.inr (by decide)), zp_set_ne (Or.inr (by decide)), zp_set_self]
  unfold zf_wnbc zf_wnn
  simp only [zf_mot1_2]
  unfold zf_mot1
  repeat' split
  all_goals first | exact ⟨rfl, h⟩ | exact go ⟨by omega, by omega⟩ | (exfalso; (try dsimp only at *); omega)
/-- mending -/
theorem zS_mb {V W : Nat → Nat → Int} {nu n1 np : Nat} {Lw : List yK} {t : Int} (h : zRr V W) (hI : zRI V nu n1 np Lw) : (zf_mbyc W t).1 = (zf_mnn V nu t).1 ∧ zRr (zf_mnn V nu t).2 (zf_mbyc W t).2 := by
  obtain ⟨e5, e6, e8, e9, e10, -, -⟩ := zRr_5 h
  have hl := hI.2.2.2.2.2.2.1
  have hk := zRr_kep (s := 3) (s' := 3) (nu := nu) h
  unfold zf_mbyc zf_mnn
  by_cases c0 : 1 ≤ t ∧ t ≤ 9999
  · rw [if_pos c0, if_pos c0, e10, e8]
    by_cases c1 : V 3 (2000 + 10) = -1
    · rw [if_pos c1, if_pos c1]
      have hv : max 0 (min 9999 (V 3 (2000 + 8) + t)) = min 9999 (V 3 (2000 + 8) + t) := by omega
      rw [hv]
      exact ⟨rfl, zRr_s (zRr_s hk (j := 8) (by decide)) (j := 9) (by decide)⟩
    · rw [if_neg c1, if_neg c1]
      exact ⟨rfl, h⟩
  · rw [if_neg c0, if_neg c0]
    exact ⟨rfl, h⟩
/-- a key's turn -/
theorem zS_ky {V W : Nat → Nat → Int} {nu n1 np : Nat} {Lw : List yK} {p t : Int} (h : zRr V W) (hI : zRI V nu n1 np Lw) (hy : zyL Lw) : (zf_keybc W Lw p t).1 = (zf_kyn V nu np Lw p t).1 ∧ zRr (zf_kyn V nu np Lw p t).2 (zf_keybc W Lw p t).2 := by
  obtain ⟨e5, e6, e8, e9, e10, e0, -⟩ := zRr_5 h
  have hd := hI.2.2.1
  have hn0 : V 3 (2000 + 0) = (np : Int) := hd.2.2.2.1
  have hnp := hd.2.1
  have htu := hI.2.2.2.2.1
  have hk := zRr_kep (s := 1) (s' := 1) (nu := nu) h
  unfold zf_keybc zf_kyn
  by_cases c0 : 1 ≤ t ∧ t ≤ 9
  · rw [if_pos c0, if_pos c0, e0, hn0]
    by_cases c1 : 0 ≤ p ∧ p < (np : Int)
    · rw [if_pos ⟨c1.1, c1.2, by omega⟩, if_pos c1]
      obtain ⟨i, rfl⟩ : ∃ i : Nat, p = (i : Int) := ⟨p.toNat, by omega⟩
      have hi6 : i < 6 := by omega
      rw [Int.toNat_natCast]
      have e51 : W 51 (2000 + i) = V 3 (2000 + (3 * i + 13)) := (zRc_l (V := W) (g := 2) (b := 50) hi6).symm.trans (h (3 * i + 13) (by omega))
      rw [e51]
      by_cases c2 : V 3 (2000 + (3 * i + 13)) + t ≤ 9
      · rw [if_pos c2, if_neg (show ¬ (9 < V 3 (2000 + (3 * i + 13)) + t) by omega)]
        have hba : zy_ba (zg_ew (yu (zRc W 2 50) (3 * i + 13) (V 3 (2000 + (3 * i + 13)) + t)) zd_S0 (max 0 (W 2 5)) (-1) (-1) (i : Int)) Lw = zd_ba V Lw (i : Int) (V 3 (2000 + (3 * i + 13)) + t) := by
          have hq : zQr (yu (zRw V) (3 * i + 13) (V 3 (2000 + (3 * i + 13)) + t)) (yu (zRc W 2 50) (3 * i + 13) (V 3 (2000 + (3 * i + 13)) + t)) := fun j hj => by
            by_cases e : j = 3 * i + 13
            · rw [e, yu_at, yu_at]
            · rw [yu_ne e, yu_ne e]
              exact h j hj
          rw [zg_ew_q hq (by omega)]
          unfold zd_ba zg_ew
          have ht9 : max 0 (W 2 5) = zd_tu V := by
            unfold zd_tu
            rw [e10]
            split <;> omega
          have hpo : zg_po (yu (zRw V) (3 * i + 13) (V 3 (2000 + (3 * i + 13)) + t)) 0 (i : Int) = zg_po (fun j => V 3 (2000 + j)) 0 (i : Int) := by
            unfold zg_po
            rw [if_neg (by omega), if_neg (by omega), Int.toNat_natCast, yu_ne (by omega)]
            rfl
          have hpl : zg_po (yu (zRw V) (3 * i + 13) (V 3 (2000 + (3 * i + 13)) + t)) 2 (i : Int) = V 3 (2000 + (3 * i + 13)) + t := by
            unfold zg_po
            rw [if_neg (by omega), Int.toNat_natCast]
            exact yu_at
          have hst : ∀ S : Nat → Int, zg_st S (yu (zRw V) (3 * i + 13) (V 3 (2000 + (3 * i + 13)) + t)) = zg_st S (fun j => V 3 (2000 + j)) := fun S => by
            funext j
            unfold zg_st
            rw [yu_ne (by omega), yu_ne (by omega), yu_ne (by omega)]
            rfl
          rw [hpo, hpl, hst, ht9]
        rw [hba]
        have hb := zy_bab (en := zg_en (zg_st (zg_sh zd_S0 (zd_tu V) (-1) (-1) (i : Int) (zg_po (fun j => V 3 (2000 + j)) 0 (i : Int)) (V 3 (2000 + (3 * i + 13)) + t)) (fun j => V 3 (2000 + j)))) (M := Lw)
        have hb : 0 ≤ zd_ba V Lw (i : Int) (V 3 (2000 + (3 * i + 13)) + t) ∧ zd_ba V Lw (i : Int) (V 3 (2000 + (3 * i + 13)) + t) ≤ 1 := hb
        by_cases c3 : zd_ba V Lw (i : Int) (V 3 (2000 + (3 * i + 13)) + t) = 0
        · rw [if_pos c3, if_neg (by omega)]
          refine ⟨rfl, ?_⟩
          have hs := zRr_s hk (j := 3 * i + 13) (v := V 3 (2000 + (3 * i + 13)) + t) (by omega)
          have hpl : zPl (3 * i + 13) = (51, 2000 + i) := by
            have h6 : i = 0 ∨ i = 1 ∨ i = 2 ∨ i = 3 ∨ i = 4 ∨ i = 5 := by omega
            rcases h6 with rfl | rfl | rfl | rfl | rfl | rfl <;> rfl
          rw [hpl] at hs
          exact hs
        · rw [if_neg c3, if_pos (by omega)]
          exact ⟨rfl, h⟩
      · rw [if_neg c2, if_pos (by omega)]
        exact ⟨rfl, h⟩
    · rw [if_neg (fun z => c1 ⟨z.1, z.2.1⟩), if_neg c1]
      exact ⟨rfl, h⟩
  · rw [if_neg c0, if_neg c0]
    exact ⟨rfl, h⟩
