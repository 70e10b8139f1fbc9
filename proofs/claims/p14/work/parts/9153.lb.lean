/-! part lb: a day's run agrees on both sides -/
theorem zRr_v {V V' W : Nat → Nat → Int} (h : zRr V W) (hV : ∀ j, j < 180 → V' 3 (2000 + j) = V 3 (2000 + j)) : zRr V' W := fun j hj => (h j hj).trans (hV j hj).symm
/-- works beyond those that there are stay as they are -/
theorem zd_hp_o {R D : Nat → Int} {n : Nat} {sp : Nat → Int} {h : Int} {X : (Nat → Int) × (Nat → Int)} {w : Nat} (hw : n ≤ w) : ∀ {p : Nat}, (zd_hp R D n sp h X p).1 w = X.1 w
  | 0 => rfl
  | p + 1 => by
    have ih := zd_hp_o (R := R) (D := D) (sp := sp) (h := h) (X := X) hw (p := p)
    rw [zd_hp]
    unfold zd_ps
    split
    · exact ih
    · rcases zd_pk_r (R := R) (D := D) (W := (zd_hp R D n sp h X p).1) (p := (p : Int)) (k := n) (w := 0) with h1 | ⟨j, h1, h2, h3, -⟩
      · rename_i hc
        exact absurd h1 hc
      · rw [h1]
        show yu _ (Int.toNat (j : Int)) _ w = _
        rw [Int.toNat_natCast, yu_ne (by omega)]
        exact ih
theorem zd_hr_o {R : Nat → Int} {n np : Nat} {sp : Int → Nat → Nat → Int} {ru : Int → Nat → Int} {t : Int} {w : Nat} (hw : n ≤ w) : ∀ {h : Nat}, (zd_hr R n np sp ru t h).1 w = R (w + 29)
  | 0 => rfl
  | h + 1 => by
    rw [zd_hr, zd_hp_o hw]
    exact zd_hr_o hw
theorem zc_dn_v {V : Nat → Nat → Int} {X : (Nat → Int) × (Nat → Int)} {i : Nat} : ∀ {w : Nat}, i < w → zc_dn V X w 3 (2000 + (i + 29)) = X.1 i
  | w + 1, h => by
    rw [zc_dn]
    by_cases e : i = w
    · rw [e, zp_set_self]
    · rw [zp_set_ne (Or.inr (by omega))]
      exact zc_dn_v (by omega)
/-- what is done is put down -/
theorem zS_dn {V W : Nat → Nat → Int} {n : Nat} {X X' : (Nat → Int) × (Nat → Int)} (h : zRr V W) (hn : n ≤ 10) (hX : ∀ w, w < n → X'.1 w = X.1 w) (ho : ∀ w, n ≤ w → w < 10 → X'.1 w = V 3 (2000 + (w + 29))) : zRr (zc_dn V X n) (zc_put W 52 X') := fun j hj => by
  by_cases c : 29 ≤ j ∧ j < 39
  · obtain ⟨w, rfl⟩ : ∃ w, j = w + 29 := ⟨j - 29, by omega⟩
    have hw10 : w < 10 := by omega
    have e1 : zRc (zc_put W 52 X') 2 50 (w + 29) = X'.1 w := by
      rw [zRc_d hw10]
      unfold zc_put
      rw [if_pos ⟨rfl, by omega, by omega⟩, show 2000 + w - 2000 = w by omega]
    rw [e1]
    by_cases c2 : w < n
    · rw [zc_dn_v c2, hX w c2]
    · rw [zc_dn_n (by omega), ho w (by omega) hw10]
  · rw [zc_dn_n (by omega), ← h j hj, zRc_pl, zRc_pl]
    refine (if_neg (fun z => ?_) : zc_put W 52 X' (zPl j).1 (zPl j).2 = W (zPl j).1 (zPl j).2)
    have h9 : ∀ i, i < 180 → (zPl i).1 = 52 → 29 ≤ i ∧ i < 39 := by decide +kernel
    exact c (h9 j hj z.1)
theorem zc_pl_set {V : Nat → Nat → Int} {i : Nat} {a : Int} (hi : i < 11) : ∀ {p : Nat}, p ≤ 6 → ∀ j, zc_pl (zp_set V 3 (2000 + i) a) p 3 (2000 + j) = zp_set (zc_pl V p) 3 (2000 + i) a 3 (2000 + j)
  | 0, _, _ => rfl
  | p + 1, hp, j => by
    have ih := zc_pl_set (V := V) (a := a) hi (p := p) (by omega) j
    have e1 : zp_set V 3 (2000 + i) a 3 (2000 + (3 * p + 11)) = V 3 (2000 + (3 * p + 11)) := zp_set_ne (Or.inr (by omega))
    have e2 : zp_set V 3 (2000 + i) a 3 (2000 + (3 * p + 13)) = V 3 (2000 + (3 * p + 13)) := zp_set_ne (Or.inr (by omega))
    rw [zc_pl, zc_pl, e1, e2]
    by_cases c1 : j = 3 * p + 13
    · rw [c1, zp_set_self, zp_set_ne (Or.inr (by omega)), zp_set_self]
    · rw [zp_set_ne (Or.inr (by omega))]
      by_cases c2 : j = 3 * p + 11
      · rw [c2, zp_set_self, zp_set_ne (Or.inr (by omega)), zp_set_ne (Or.inr (by omega)), zp_set_self]
      · rw [zp_set_ne (Or.inr (by omega)), ih]
        by_cases c3 : j = i
        · rw [c3, zp_set_self, zp_set_self]
        · rw [zp_set_ne (Or.inr (by omega)), zp_set_ne (Or.inr (by omega)), zp_set_ne (Or.inr (by omega)), zp_set_ne (Or.inr (by omega))]
theorem zc_pl_nq {V : Nat → Nat → Int} {q : Nat} : ∀ {p : Nat}, p ≤ q → zc_pl V p 3 (2000 + (3 * q + 11)) = V 3 (2000 + (3 * q + 11)) ∧ zc_pl V p 3 (2000 + (3 * q + 13)) = V 3 (2000 + (3 * q + 13))
  | 0, _ => ⟨rfl, rfl⟩
  | p + 1, hp => by
    have ih := zc_pl_nq (V := V) (q := q) (p := p) (by omega)
    rw [zc_pl]
    exact ⟨(zp_set_ne (Or.inr (by omega))).trans ((zp_set_ne (Or.inr (by omega))).trans ih.1), (zp_set_ne (Or.inr (by omega))).trans ((zp_set_ne (Or.inr (by omega))).trans ih.2)⟩
theorem zPl_po : ∀ p, p < 6 → zPl (3 * p + 11) = (50, 2000 + p) ∧ zPl (3 * p + 13) = (51, 2000 + p) := by decide
theorem zRr_o {V W : Nat → Nat → Int} (h : zRr V W) {p : Nat} {a b : Int} (hp : p < 6) : zRr (zp_set (zp_set V 3 (2000 + (3 * p + 11)) a) 3 (2000 + (3 * p + 13)) b) (zp_set (zp_set W 50 (2000 + p) a) 51 (2000 + p) b) := by
  have h1 := zRr_s h (j := 3 * p + 11) (v := a) (by omega)
  rw [(zPl_po p hp).1] at h1
  have h2 := zRr_s h1 (j := 3 * p + 13) (v := b) (by omega)
  rw [(zPl_po p hp).2] at h2
  exact h2
/-- one person's evening -/
theorem zS_ev {V W Wp : Nat → Nat → Int} {p np : Nat} (hp : p < 6) (ho : W 50 (2000 + p) = V 3 (2000 + (3 * p + 11))) (hl : W 51 (2000 + p) = V 3 (2000 + (3 * p + 13))) (h1 : p < np → 0 ≤ V 3 (2000 + (3 * p + 11)) ∧ 0 ≤ V 3 (2000 + (3 * p + 13))) (h2 : np ≤ p → V 3 (2000 + (3 * p + 11)) = 0 ∧ V 3 (2000 + (3 * p + 13)) = 0) (h : zRr (zc_pl V (min p np)) Wp) : zRr (zc_pl V (min (p + 1) np)) (zp_set (zp_set Wp 50 (2000 + p) (max 0 (W 50 (2000 + p) - 1))) 51 (2000 + p) (max 0 (W 51 (2000 + p) - 1))) := by
  by_cases c : p < np
  · have hc := h1 c
    rw [show min p np = p by omega] at h
    rw [show min (p + 1) np = p + 1 by omega, zc_pl]
    have e1 : max 0 (W 50 (2000 + p) - 1) = V 3 (2000 + (3 * p + 11)) - (if 0 < V 3 (2000 + (3 * p + 11)) then 1 else 0) := by
      rw [ho]
      split <;> omega
    have e2 : max 0 (W 51 (2000 + p) - 1) = V 3 (2000 + (3 * p + 13)) - (if 0 < V 3 (2000 + (3 * p + 13)) then 1 else 0) := by
      rw [hl]
      split <;> omega
    rw [e1, e2]
    exact zRr_o h hp
  · have hc := h2 (by omega)
    rw [show min p np = np by omega] at h
    rw [show min (p + 1) np = np by omega]
    have e1 : max 0 (W 50 (2000 + p) - 1) = 0 := by omega
    have e2 : max 0 (W 51 (2000 + p) - 1) = 0 := by omega
    rw [e1, e2]
    have hn := zc_pl_nq (V := V) (q := p) (p := np) (by omega)
    refine zRr_v (zRr_o (a := 0) (b := 0) h hp) (fun j hj => ?_)
    by_cases c1 : j = 3 * p + 13
    · rw [c1, zp_set_self, hn.2]
      exact hc.2
    · rw [zp_set_ne (Or.inr (by omega))]
      by_cases c2 : j = 3 * p + 11
      · rw [c2, zp_set_self, hn.1]
        exact hc.1
      · rw [zp_set_ne (Or.inr (by omega))]
/-- the evening of all, the next day -/
theorem zS_slp {V W : Nat → Nat → Int} {np : Nat} (h : zRr V W) (hp : np ≤ 6) (h1 : ∀ p, p < np → 0 ≤ V 3 (2000 + (3 * p + 11)) ∧ 0 ≤ V 3 (2000 + (3 * p + 13))) (h2 : ∀ p, np ≤ p → p < 6 → V 3 (2000 + (3 * p + 11)) = 0 ∧ V 3 (2000 + (3 * p + 13)) = 0) : zRr (zp_set (zp_set (zc_pl V np) 3 (2000 + 10) (-1)) 3 (2000 + 5) (V 3 (2000 + 5) + 1)) (zf_slp2 W).2 := by
  have e26 : W 2 6 = V 3 (2000 + 5) := (zRr_5 h).1
  have ho : ∀ p, p < 6 → W 50 (2000 + p) = V 3 (2000 + (3 * p + 11)) := fun p hp6 => (zRc_o (V := W) (g := 2) (b := 50) hp6).symm.trans (h (3 * p + 11) (by omega))
  have hl : ∀ p, p < 6 → W 51 (2000 + p) = V 3 (2000 + (3 * p + 13)) := fun p hp6 => (zRc_l (V := W) (g := 2) (b := 50) hp6).symm.trans (h (3 * p + 13) (by omega))
  have h5 : zRr (zp_set (zp_set V 3 (2000 + 5) (V 3 (2000 + 5) + 1)) 3 (2000 + 10) (-1)) (zp_set (zp_set W 2 6 (V 3 (2000 + 5) + 1)) 2 5 (-1)) := zRr_s (zRr_s h (j := 5) (by decide)) (j := 10) (by decide)
  rw [← e26] at h5
  obtain ⟨V5, hV5⟩ : ∃ V5, V5 = zp_set (zp_set V 3 (2000 + 5) (W 2 6 + 1)) 3 (2000 + 10) (-1) := ⟨_, rfl⟩
  rw [← hV5] at h5
  have g11 : ∀ p, V5 3 (2000 + (3 * p + 11)) = V 3 (2000 + (3 * p + 11)) := fun p => by
    rw [hV5, zp_set_ne (Or.inr (by omega)), zp_set_ne (Or.inr (by omega))]
  have g13 : ∀ p, V5 3 (2000 + (3 * p + 13)) = V 3 (2000 + (3 * p + 13)) := fun p => by
    rw [hV5, zp_set_ne (Or.inr (by omega)), zp_set_ne (Or.inr (by omega))]
  have st : ∀ (p : Nat) (Wp : Nat → Nat → Int), p < 6 → zRr (zc_pl V5 (min p np)) Wp → zRr (zc_pl V5 (min (p + 1) np)) (zp_set (zp_set Wp 50 (2000 + p) (max 0 (W 50 (2000 + p) - 1))) 51 (2000 + p) (max 0 (W 51 (2000 + p) - 1))) := fun p Wp hp6 hz => zS_ev hp6 ((ho p hp6).trans (g11 p).symm) ((hl p hp6).trans (g13 p).symm) (fun hc => by rw [g11, g13]; exact h1 p hc) (fun hc => by rw [g11, g13]; exact h2 p hc hp6) hz
  have h0 : zRr (zc_pl V5 (min 0 np)) (zp_set (zp_set W 2 6 (W 2 6 + 1)) 2 5 (-1)) := by
    rw [show min 0 np = 0 by omega]
    exact h5
  have h6 := st 5 _ (by decide) (st 4 _ (by decide) (st 3 _ (by decide) (st 2 _ (by decide) (st 1 _ (by decide) (st 0 _ (by decide) h0)))))
  rw [show min (5 + 1) np = np by omega] at h6
  refine zRr_v h6 (fun j hj => ?_)
  rw [hV5, zc_pl_set (by decide) hp]
  by_cases c1 : j = 5
  · rw [c1, zp_set_self, zp_set_ne (Or.inr (by decide)), zc_pl_set (by decide) hp, zp_set_self, e26]
  · rw [zp_set_ne (Or.inr (by omega))]
    by_cases c2 : j = 10
    · rw [c2, zp_set_self, zp_set_self]
    · rw [zp_set_ne (Or.inr (by omega)), zp_set_ne (Or.inr (by omega)), zc_pl_set (by decide) hp, zp_set_ne (Or.inr (by omega))]
/-- a day's run -/
theorem zS_rd {V W : Nat → Nat → Int} {nu n1 np : Nat} {Lw : List yK} (h : zRr V W) (hI : zRI V nu n1 np Lw) (hz : ∀ p, np ≤ p → p < 6 → V 3 (2000 + (3 * p + 11)) = 0 ∧ V 3 (2000 + (3 * p + 13)) = 0) : (zf_rudc W n1 np Lw).1 = (zf_rnn V nu n1 np Lw).1 ∧ zRr (zf_rnn V nu n1 np Lw).2 (zf_rudc W n1 np Lw).2 := by
  obtain ⟨e5, e6, e8, e9, e10, -, -⟩ := zRr_5 h
  have hday := hI.2.2.2.2.2.1
  have hok := hI.2.2.1
  have hoil := hI.2.2.2.2.2.2.2
  have hk := zRr_kep (s := 2) (s' := 2) (nu := nu) h
  have hT : ∀ k, (zT_rem V 2 nu) 3 k = V 3 k := fun k => zT_rem_3
  unfold zf_rudc zf_rnn
  rw [e10, e5]
  by_cases c1 : V 3 (2000 + 10) = -1
  · rw [if_pos c1, if_pos c1]
    exact ⟨rfl, h⟩
  · rw [if_neg c1, if_neg c1]
    by_cases c2 : V 3 (2000 + 5) = 999
    · rw [if_neg (by omega), if_neg (fun z => z c2)]
      exact ⟨rfl, h⟩
    · rw [if_pos (by omega), if_pos c2]
      have hokT : zd_ok (zRw (zT_rem V 2 nu)) n1 np := zd_ok_c (fun j => hT (2000 + j)) hok
      have ht : (zT_rem V 2 nu) 3 (2000 + 10) = V 3 (2000 + 10) := hT _
      have hX : zQx (zd_X (zT_rem V 2 nu) n1 np Lw (V 3 (2000 + 10))) (zc_X (zf_kep3 W 2).2 2 50 n1 np Lw (V 3 (2000 + 10))) := zd_hr_q hokT (zRr_q hk)
      have hn := hok.1
      unfold zf_rud
      rw [ht]
      refine ⟨zc_ct_q hX hn, ?_⟩
      have hdn := zS_dn (n := n1) (X := zd_X (zT_rem V 2 nu) n1 np Lw (V 3 (2000 + 10))) (X' := zc_X (zf_kep3 W 2).2 2 50 n1 np Lw (V 3 (2000 + 10))) hk hn (fun w hw => (hX w (by omega)).1) (fun w hw hw10 => (zd_hr_o hw).trans (hk (w + 29) (by omega)))
      have hdo : ∀ p, (zc_dn (zT_rem V 2 nu) (zd_X (zT_rem V 2 nu) n1 np Lw (V 3 (2000 + 10))) n1) 3 (2000 + (3 * p + 11)) = (zT_rem V 2 nu) 3 (2000 + (3 * p + 11)) ∨ 6 ≤ p := fun p => by
        by_cases hp : p < 6
        · exact Or.inl (zc_dn_n (by omega))
        · exact Or.inr (by omega)
      have g11 : ∀ p, p < 6 → (zc_dn (zT_rem V 2 nu) (zd_X (zT_rem V 2 nu) n1 np Lw (V 3 (2000 + 10))) n1) 3 (2000 + (3 * p + 11)) = V 3 (2000 + (3 * p + 11)) := fun p hp => (zc_dn_n (by omega)).trans (hT _)
      have g13 : ∀ p, p < 6 → (zc_dn (zT_rem V 2 nu) (zd_X (zT_rem V 2 nu) n1 np Lw (V 3 (2000 + 10))) n1) 3 (2000 + (3 * p + 13)) = V 3 (2000 + (3 * p + 13)) := fun p hp => (zc_dn_n (by omega)).trans (hT _)
      have hr := zS_slp (np := np) hdn hok.2.1 (fun p hp => by
        have h6 := hok.2.1
        rw [g11 p (by omega), g13 p (by omega)]
        exact ⟨(hoil p hp).1, (hok.2.2.2.2.2 p hp).1⟩) (fun p hp hp6 => by
        rw [g11 p hp6, g13 p hp6]
        exact hz p hp hp6)
      have e5d : (zc_dn (zT_rem V 2 nu) (zd_X (zT_rem V 2 nu) n1 np Lw (V 3 (2000 + 10))) n1) 3 (2000 + 5) = (zT_rem V 2 nu) 3 (2000 + 5) := zc_dn_n (by omega)
      rw [e5d] at hr
      exact hr
/-- a clause's doing -/
theorem zS_do {V W : Nat → Nat → Int} {nu n1 np : Nat} {Lw : List yK} {k a b : Int} (h : zRr V W) (hI : zRI V nu n1 np Lw) (hs : 0 ≤ V 3 (2000 + 9) ∧ V 3 (2000 + 9) ≤ 1) (hy : zyL Lw) (hz : ∀ p, np ≤ p → p < 6 → V 3 (2000 + (3 * p + 11)) = 0 ∧ V 3 (2000 + (3 * p + 13)) = 0) : (zo_doC W n1 np Lw k a b).1 = (zo_do V nu n1 np Lw k a b).1 ∧ zRr (zo_do V nu n1 np Lw k a b).2 (zo_doC W n1 np Lw k a b).2 := by
  unfold zo_doC zo_do
  by_cases c0 : k = 0
  · rw [if_pos c0, if_pos c0]
    exact zS_wn h hI hs
  · rw [if_neg c0, if_neg c0]
    by_cases c1 : k = 1
    · rw [if_pos c1, if_pos c1]
      exact zS_ky h hI hy
    · rw [if_neg c1, if_neg c1]
      by_cases c2 : k = 2
      · rw [if_pos c2, if_pos c2]
        exact zS_rd h hI hz
      · rw [if_neg c2, if_neg c2]
        exact zS_mb h hI
