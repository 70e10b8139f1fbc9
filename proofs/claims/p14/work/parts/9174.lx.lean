/-! part lx: both sides agree: a decade, what is drawn -/
/-- the reference's morning, said shortly -/
theorem zf_drm_n {V : Nat → Nat → Int} {s : Int} {L : List yK} {t : Int} (ht : t = min (zq_nx s % 13) (if V 3 (2000 + 5) % 7 = 6 then V 3 (2000 + 6) else 12)) : zf_drm V s L = if zd_sn (zp_set (zp_set V 0 61 (zq_nx s)) 0 61 (zq_nx (zq_nx s))) L t ≤ zq_nx (zq_nx s) % 100 then (0, (zf_wea (zp_set (zp_set V 0 61 (zq_nx s)) 0 61 (zq_nx (zq_nx s))) L t).2) else (0, zp_set (zp_set (zp_set V 0 61 (zq_nx s)) 0 61 (zq_nx (zq_nx s))) 3 (2000 + 9) 1) := by
  unfold zf_drm
  by_cases c6 : V 3 (2000 + 5) % 7 = 6
  · rw [if_pos c6] at ht
    rw [if_neg (show ¬ ¬ V 3 (2000 + 5) % 7 = 6 from fun z => z c6)]
    by_cases c : V 3 (2000 + 6) ≤ zq_nx s % 13
    · rw [if_pos c, show t = V 3 (2000 + 6) by omega]
    · rw [if_neg c, show t = zq_nx s % 13 by omega]
  · rw [if_neg c6] at ht
    rw [if_pos c6]
    by_cases c : 12 ≤ zq_nx s % 13
    · rw [if_pos c, show t = 12 by omega]
    · rw [if_neg c, show t = zq_nx s % 13 by omega]
/-- winding, what the law tells known -/
theorem zS_wby {V W : Nat → Nat → Int} {Lw : List yK} {t : Int} (h : zRr V W) (hl : 0 ≤ V 3 (2000 + 8) ∧ V 3 (2000 + 8) ≤ 9999) (ht : 0 ≤ t ∧ t ≤ 12) : zRr (zf_wea V Lw t).2 (zf_wby2 W t (zd_we V Lw t)).2 := by
  have hb := zd_web (V := V) (L := Lw) (t := t) ht.1 (by omega)
  have hk8 : W 2 3 = V 3 (2000 + 8) := h 8 (by decide)
  have hv : max 0 (W 2 3 - zd_we V Lw t) = max 0 (min 9999 (V 3 (2000 + 8) - zd_we V Lw t)) := by omega
  have h1 : zRr (zp_set V 3 (2000 + 8) (max 0 (min 9999 (V 3 (2000 + 8) - zd_we V Lw t)))) (zf_wea2 W (zd_we V Lw t)).2 := by
    unfold zf_wea2
    show zRr _ (zp_set W 2 3 (max 0 (W 2 3 - zd_we V Lw t)))
    rw [hv]
    exact zRr_s h (j := 8) (by decide)
  have hv2 : (zf_wea2 W (zd_we V Lw t)).2 2 3 = max 0 (min 9999 (V 3 (2000 + 8) - zd_we V Lw t)) := by
    rw [← hv]
    unfold zf_wea2
    dsimp only
    exact zp_set_self
  unfold zf_wby2 zf_wea
  rw [hv2]
  by_cases c : max 0 (min 9999 (V 3 (2000 + 8) - zd_we V Lw t)) = 0
  · rw [if_neg (fun z => z c), if_neg (fun z => z c)]
    exact zRr_s (zRr_s h1 (j := 9) (by decide)) (j := 10) (by decide)
  · rw [if_pos c, if_pos c]
    exact zRr_s (zRr_s h1 (j := 9) (by decide)) (j := 10) (by decide)
theorem zS_we7 {V W : Nat → Nat → Int} {L : List yK} {t : Int} (h : zRr V (zsw W)) : zy_we (zg_ew (zRc W 7 53) zd_S0 t (-1) (-1) (-1)) L t = zd_we V L t := by
  rw [← zRc_sw]
  exact zS_we h
theorem zS_sn7 {V W : Nat → Nat → Int} {L : List yK} {t : Int} (h : zRr V (zsw W)) : zy_sn (zg_ew (zRc W 7 53) zd_S0 t (-1) (-1) (-1)) L t = zd_sn V L t := by
  rw [← zRc_sw]
  unfold zd_sn
  rw [zg_ew_q (zRr_q h) (by decide)]
  rfl
theorem zRr_6 {V W : Nat → Nat → Int} {k : Nat} {v : Int} (h : zRr V (zsw W)) : zRr V (zsw (zp_set W 6 k v)) := by
  rw [zsw_so (by decide)]
  exact zRr_c (by omega) h
/-- the morning of a day of draws -/
theorem zS_wbd {V W : Nat → Nat → Int} {L : List yK} (h : zRr V (zsw W)) (hs : V 0 61 = W 6 1) (hl : 0 ≤ V 3 (2000 + 8) ∧ V 3 (2000 + 8) ≤ 9999) (h6 : 0 ≤ V 3 (2000 + 6) ∧ V 3 (2000 + 6) ≤ 12) : zRr (zf_drm V (V 0 61) L).2 (zsw (zf_wbd W L).2) ∧ (zf_drm V (V 0 61) L).2 0 61 = (zf_wbd W L).2 6 1 := by
  have e5 : W 7 6 = V 3 (2000 + 5) := (zRr_5 h).1
  have e6 : W 1 16 = V 3 (2000 + 6) := (zRr_5 h).2.1
  refine ⟨?_, ?_⟩
  · unfold zf_wbd
    rw [e5, e6, ← hs]
    obtain ⟨t, ht⟩ : ∃ t, t = min (zq_nx (V 0 61) % 13) (if V 3 (2000 + 5) % 7 = 6 then V 3 (2000 + 6) else 12) := ⟨_, rfl⟩
    have htb : 0 ≤ t ∧ t ≤ 12 := by
      rw [ht]
      split <;> omega
    rw [zf_drm_n ht, ← ht, show zp_set W 6 1 (zq_nx (V 0 61)) 6 1 = zq_nx (V 0 61) from zp_set_self]
    have hr2 : ∀ X : Nat → Nat → Int, zRr V (zsw X) → zRr (zp_set (zp_set V 0 61 (zq_nx (V 0 61))) 0 61 (zq_nx (zq_nx (V 0 61)))) (zsw X) := fun X hX => zRr_0 (by decide) (zRr_0 (by decide) hX)
    have h1 := hr2 _ (zRr_6 (k := 1) (v := zq_nx (V 0 61)) h)
    have h2 := hr2 _ (zRr_6 (k := 1) (v := zq_nx (zq_nx (V 0 61))) (zRr_6 (k := 1) (v := zq_nx (V 0 61)) h))
    obtain ⟨V2, hV2⟩ : ∃ V2, V2 = zp_set (zp_set V 0 61 (zq_nx (V 0 61))) 0 61 (zq_nx (zq_nx (V 0 61))) := ⟨_, rfl⟩
    have hl2 : V2 3 (2000 + 8) = V 3 (2000 + 8) := by
      rw [hV2, zp_set_ne (Or.inl (by decide)), zp_set_ne (Or.inl (by decide))]
    rw [← hV2] at h1 h2 ⊢
    rw [zS_sn7 h1, zS_we7 h1]
    by_cases c : zd_sn V2 L t ≤ zq_nx (zq_nx (V 0 61)) % 100
    · rw [if_pos c, if_pos c]
      dsimp only
      rw [zsw_wby]
      exact zS_wby h2 (by rw [hl2]; exact hl) htb
    · rw [if_neg c, if_neg c]
      dsimp only
      rw [zsw_s2]
      exact zRr_s h2 (j := 9) (by decide)
  · rw [zf_drm_61, hs]
    unfold zf_wbd
    obtain ⟨t, ht⟩ : ∃ t, t = min (zq_nx (W 6 1) % 13) (if W 7 6 % 7 = 6 then W 1 16 else 12) := ⟨_, rfl⟩
    rw [← ht, show zp_set W 6 1 (zq_nx (W 6 1)) 6 1 = zq_nx (W 6 1) from zp_set_self]
    split
    · dsimp only
      rw [zf_wby7_n (by decide), zp_set_self]
    · dsimp only
      rw [zp_set_ne (Or.inl (by decide)), zp_set_self]
/-- a day's run, whatever else stands -/
theorem zS_rud7 {V W : Nat → Nat → Int} {nu n1 np : Nat} {Lw : List yK} (h : zRr V W) (hI : zRI V nu n1 np Lw) (hz : ∀ p, np ≤ p → p < 6 → V 3 (2000 + (3 * p + 11)) = 0 ∧ V 3 (2000 + (3 * p + 13)) = 0) : zc_ct (zc_X W 2 50 n1 np Lw (W 2 5)) n1 = (zf_rud V n1 np Lw).1 ∧ zRr (zf_rud V n1 np Lw).2 (zf_slp2 (zc_put W 52 (zc_X W 2 50 n1 np Lw (W 2 5)))).2 := by
  have hok := hI.2.2.1
  have hoil := hI.2.2.2.2.2.2.2
  have e10 : W 2 5 = V 3 (2000 + 10) := (zRr_5 h).2.2.2.2.1
  rw [e10]
  have hX : zQx (zd_X V n1 np Lw (V 3 (2000 + 10))) (zc_X W 2 50 n1 np Lw (V 3 (2000 + 10))) := zd_hr_q hok (zRr_q h)
  have hn := hok.1
  unfold zf_rud
  refine ⟨zc_ct_q hX hn, ?_⟩
  have hdn := zS_dn (n := n1) (X := zd_X V n1 np Lw (V 3 (2000 + 10))) (X' := zc_X W 2 50 n1 np Lw (V 3 (2000 + 10))) h hn (fun w hw => (hX w (by omega)).1) (fun w hw hw10 => (zd_hr_o hw).trans (h (w + 29) (by omega)))
  have g11 : ∀ p, p < 6 → (zc_dn V (zd_X V n1 np Lw (V 3 (2000 + 10))) n1) 3 (2000 + (3 * p + 11)) = V 3 (2000 + (3 * p + 11)) := fun p hp => zc_dn_n (by omega)
  have g13 : ∀ p, p < 6 → (zc_dn V (zd_X V n1 np Lw (V 3 (2000 + 10))) n1) 3 (2000 + (3 * p + 13)) = V 3 (2000 + (3 * p + 13)) := fun p hp => zc_dn_n (by omega)
  have hr := zS_slp (np := np) hdn hok.2.1 (fun p hp => by
    have h6 := hok.2.1
    rw [g11 p (by omega), g13 p (by omega)]
    exact ⟨(hoil p hp).1, (hok.2.2.2.2.2 p hp).1⟩) (fun p hp hp6 => by
    rw [g11 p hp6, g13 p hp6]
    exact hz p hp hp6)
  have e5d : (zc_dn V (zd_X V n1 np Lw (V 3 (2000 + 10))) n1) 3 (2000 + 5) = V 3 (2000 + 5) := zc_dn_n (by omega)
  rw [e5d] at hr
  exact hr
/-- both sides at a day of a decade -/
noncomputable def zDyr (A : Nat → Nat) (Y : List (Nat × Nat)) (F : List (Nat × Nat × Nat)) (V W : Nat → Nat → Int) (nu n1 np : Nat) (L : List yK) : Prop := zRr V (zsw W) ∧ V 0 61 = W 6 1 ∧ zDi V nu n1 np L ∧ zCj A Y F W n1 np L ∧ zRz V np
theorem zDyr_m {A : Nat → Nat} {Y : List (Nat × Nat)} {F : List (Nat × Nat × Nat)} {V W : Nat → Nat → Int} {nu n1 np : Nat} {L : List yK} (h : zDyr A Y F V W nu n1 np L) : zDyr A Y F (zr_m V L) (zc_m W L) nu n1 np L := by
  obtain ⟨h1, h2, h3, h4, h5⟩ := h
  have e4 : W 7 4 = V 3 (2000 + 9) := (zRr_5 h1).2.2.2.1
  have e5 : W 7 5 = V 3 (2000 + 10) := (zRr_5 h1).2.2.2.2.1
  have hm := zDi_m h3
  have hc := zCj_m h4
  by_cases c : V 3 (2000 + 10) = -1 ∧ V 3 (2000 + 9) = 0
  · have er : zr_m V L = (zf_drm V (V 0 61) L).2 := if_pos c
    have ec : zc_m W L = (zf_wbd W L).2 := if_pos (by rw [e5, e4]; exact c)
    rw [er] at hm ⊢
    rw [ec] at hc ⊢
    obtain ⟨g1, g2⟩ := zS_wbd (L := L) h1 h2 h3.1.2.2.2.2.2.2.1 h3.2.2
    refine ⟨g1, g2, hm, hc, ?_⟩
    have hz2 : zRz (zp_set (zp_set V 0 61 (zq_nx (V 0 61))) 0 61 (zq_nx (zq_nx (V 0 61)))) np := zRz_v (fun k => (zp_set_ne (Or.inl (by decide))).trans (zp_set_ne (Or.inl (by decide)))) h5
    obtain ⟨t, ht⟩ : ∃ t, t = min (zq_nx (V 0 61) % 13) (if V 3 (2000 + 5) % 7 = 6 then V 3 (2000 + 6) else 12) := ⟨_, rfl⟩
    rw [zf_drm_n ht]
    split
    · exact zRz_wea hz2
    · exact zRz_3 (j := 9) (v := 1) (fun _ => by omega) (fun p _ _ => by omega) hz2
  · have er : zr_m V L = V := if_neg c
    have ec : zc_m W L = W := if_neg (by rw [e5, e4]; exact c)
    rw [er, ec]
    exact ⟨h1, h2, h3, h4, h5⟩
/-- what a decade of the class leaves alone -/
noncomputable def zDu (o k : Nat) : Prop := o ≠ 7 ∧ o ≠ 53 ∧ o ≠ 54 ∧ o ≠ 55 ∧ (o ≠ 6 ∨ (k ≠ 1 ∧ k ≠ 2))
theorem zc_m_u {W : Nat → Nat → Int} {L : List yK} {o k : Nat} (h : zDu o k) : zc_m W L o k = W o k := by
  obtain ⟨h1, h2, h3, h4, h5⟩ := h
  have h61 : o ≠ 6 ∨ k ≠ 1 := by omega
  unfold zc_m
  split
  · unfold zf_wbd
    obtain ⟨t, ht⟩ : ∃ t, t = min (zq_nx (W 6 1) % 13) (if W 7 6 % 7 = 6 then W 1 16 else 12) := ⟨_, rfl⟩
    rw [← ht]
    split
    · dsimp only
      rw [zf_wby7_n h1, zp_set_ne h61, zp_set_ne h61]
    · dsimp only
      rw [zp_set_ne (Or.inl h1), zp_set_ne h61, zp_set_ne h61]
  · rfl
theorem zc_dc_u {n np : Nat} {L : List yK} {o j : Nat} (h : zDu o j) : ∀ {k : Nat} {e : Int} {W : Nat → Nat → Int}, (zc_dc n np L k e W).2 o j = W o j
  | 0, _, _ => rfl
  | k + 1, e, W => by
    rw [zc_dc]
    split
    · rfl
    · split
      · rw [zc_dc_u h, zp_set_ne (Or.inl h.1)]
        exact zc_m_u h
      · rw [zc_dc_u h, zp_set_ne (show o ≠ 6 ∨ j ≠ 2 from h.2.2.2.2.elim Or.inl (fun z => Or.inr z.2)), zf_rn7_n ⟨h.1, h.2.1, h.2.2.1, h.2.2.2.1⟩]
        exact zc_m_u h
/-- days -/
theorem zS_dc {A : Nat → Nat} {Y : List (Nat × Nat)} {F : List (Nat × Nat × Nat)} {nu n1 np : Nat} {L : List yK} : ∀ (k : Nat) (e r : Int) (V W : Nat → Nat → Int), zDyr A Y F V W nu n1 np L → W 6 2 = r → (zc_dc n1 np L k e W).1 = (zr_dc n1 np L k e r V).1 ∧ zRr (zr_dc n1 np L k e r V).2.2 (zsw (zc_dc n1 np L k e W).2) ∧ (zc_dc n1 np L k e W).2 6 2 = (zr_dc n1 np L k e r V).2.1 ∧ zRz (zr_dc n1 np L k e r V).2.2 np ∧ (0 ≤ e → 0 ≤ (zr_dc n1 np L k e r V).1)
  | 0, _, _, _, _, h, hr => ⟨rfl, h.1, hr, h.2.2.2.2, fun z => z⟩
  | k + 1, e, r, V, W, h, hr => by
    have e6 : W 7 6 = V 3 (2000 + 5) := (zRr_5 h.1).1
    rw [zc_dc, zr_dc, e6]
    by_cases c9 : 999 ≤ V 3 (2000 + 5)
    · rw [if_pos c9, if_pos c9]
      exact ⟨rfl, h.1, hr, h.2.2.2.2, fun z => z⟩
    · rw [if_neg c9, if_neg c9]
      have hm := zDyr_m h
      have m6 : (zr_m V L) 3 (2000 + 5) = V 3 (2000 + 5) := zr_m_5
      have m62 : (zc_m W L) 6 2 = r := zc_m_6.2.trans hr
      have m76 : (zc_m W L) 7 6 = V 3 (2000 + 5) := zc_m_6.1.trans e6
      obtain ⟨Vm, hVm⟩ : ∃ Vm, Vm = zr_m V L := ⟨_, rfl⟩
      obtain ⟨Wm, hWm⟩ : ∃ Wm, Wm = zc_m W L := ⟨_, rfl⟩
      rw [← hVm] at hm m6 ⊢
      rw [← hWm] at hm m62 m76 ⊢
      obtain ⟨h1, h2, h3, h4, h5⟩ := hm
      have e5 : Wm 7 5 = Vm 3 (2000 + 10) := (zRr_5 h1).2.2.2.2.1
      rw [e5]
      by_cases c1 : Vm 3 (2000 + 10) = -1
      · rw [if_pos c1, if_pos c1, m6, m76]
        refine zS_dc (A := A) (Y := Y) (F := F) (nu := nu) k e r _ _ ⟨?_, ?_, ?_, zCj_7 (k := 6) h4 ⟨fun z => absurd z (by decide), fun _ => ⟨by have := h.2.2.1.1.2.2.2.2.2.1; omega, by omega⟩, fun z => absurd z (by decide)⟩, ?_⟩ ?_
        · rw [zsw_s2]
          exact zRr_s h1 (j := 5) (by decide)
        · rw [zp_set_ne (Or.inl (by decide)), zp_set_ne (Or.inl (by decide))]
          exact h2
        · have h9 := zDi_5 h3 (by omega)
          rw [m6] at h9
          exact h9
        · exact zRz_3 (fun z => absurd z (by decide)) (fun p _ _ => by omega) h5
        · rw [zp_set_ne (Or.inl (by decide))]
          exact m62
      · rw [if_neg c1, if_neg c1]
        obtain ⟨q1, q2⟩ := zS_rud7 h1 h3.1 h5.2
        have q3 : (zf_rn7 Wm n1 np L).1 = (zf_rud Vm n1 np L).1 := by
          rw [zsw_rn7]
          exact q1
        have q4 : zRr (zf_rud Vm n1 np L).2 (zsw (zf_rn7 Wm n1 np L).2) := by
          rw [zsw_rn7]
          dsimp only
          rw [zsw_sw]
          exact q2
        have q5 : (zf_rn7 Wm n1 np L).2 6 2 = r := (zf_rn7_n (by decide)).trans m62
        have q6 : 0 ≤ (zf_rud Vm n1 np L).1 := zc_ctb.1
        rw [q3, q5]
        have ih := zS_dc (A := A) (Y := Y) (F := F) (nu := nu) (n1 := n1) (np := np) (L := L) k (e + (zf_rud Vm n1 np L).1) (r + 1) (zf_rud Vm n1 np L).2 (zp_set (zf_rn7 Wm n1 np L).2 6 2 (r + 1)) ⟨zRr_6 q4, ?_, zDi_rud h3 (by omega), zCj_e (zCj_rn7 h4 (by omega)) (by decide), ?_⟩ zp_set_self
        · exact ⟨ih.1, ih.2.1, ih.2.2.1, ih.2.2.2.1, fun z => ih.2.2.2.2 (by omega)⟩
        · rw [zp_set_ne (Or.inr (by decide)), zf_rn7_n (by decide), zf_rud_6.2]
          exact h2
        · show zRz (zp_set (zp_set _ 3 (2000 + 10) (-1)) 3 (2000 + 5) _) np
          refine zRz_3 (fun e => ?_) (fun p _ _ => ?_) (zRz_3 (fun e => ?_) (fun p _ _ => ?_) (zRz_pl (zRz_dn h5) (Nat.le_refl _))) <;> omega
/-- what the core holds, as the class's doings ask it -/
theorem zCI_of {A : Nat → Nat} {Y : List (Nat × Nat)} {F : List (Nat × Nat × Nat)} {V W : Nat → Nat → Int} {n1 np : Nat} {Lw : List yK} (hl : zLF A Y F W Lw) (h : zCo V W n1 np Lw) : zCI A Y F W n1 np Lw := by
  obtain ⟨⟨hn1, hnp⟩, -, e3, e1⟩ := zCo_n h
  obtain ⟨h1, ⟨d1, d2, d3, d4, d5, d6, d7, d8, d9⟩, -⟩ := h
  have g5 := zRr_5 h1
  have w39 : ∀ w, w < 10 → W 33 (2000 + w) = zRw V (5 * w + 40) ∧ W 36 (2000 + w) = zRw V (5 * w + 43) ∧ W 52 (2000 + w) = zRw V (w + 29) := fun w hw => by
    obtain ⟨q1, q2, q3, q4, q5, q6⟩ := zPl_39 w hw
    exact ⟨zRr_gt h1 (by omega) q2, zRr_gt h1 (by omega) q5, zRr_gt h1 (by omega) q6⟩
  have p11 : ∀ p, p < 6 → W 50 (2000 + p) = zRw V (3 * p + 11) ∧ W 51 (2000 + p) = zRw V (3 * p + 13) := fun p hp => by
    obtain ⟨q1, q2, q3⟩ := zPl_11 p hp
    exact ⟨zRr_gt h1 (by omega) q1, zRr_gt h1 (by omega) q3⟩
  refine ⟨hl, ⟨hn1, hnp, e3, e1⟩, fun w hw => ?_, fun p hp => ?_, ?_, ?_, ?_, fun j hj => ?_⟩
  · obtain ⟨a1, a2, a3⟩ := w39 w (by omega)
    have b1 := d1.2.2.2.2.1 w hw
    have b2 := d9 w hw
    rw [a1, a2, a3]
    omega
  · rw [(p11 p (by omega)).2]
    exact d1.2.2.2.2.2 p hp
  · rw [g5.2.2.2.2.1]
    exact d2
  · rw [g5.1]
    exact d3
  · rw [g5.2.2.1]
    exact d4
  · rw [(p11 j hj).1]
    by_cases c : j < np
    · exact d5 j c
    · rw [(d7 j (by omega) hj).1]
      decide
/-- what is drawn is the same on both sides -/
noncomputable def zDwn (V W : Nat → Nat → Int) : Prop := V 0 63 = W 6 3 ∧ (-1 ≤ V 0 63 ∧ V 0 63 ≤ 10) ∧ (V 0 63 ≠ -1 → V 62 (2000 + 0) = W 7 3 ∧ (V 62 (2000 + 1) = W 7 4 ∧ 0 ≤ W 7 4 ∧ W 7 4 ≤ 1) ∧ V 62 (2000 + 2) = W 7 6 ∧ V 62 (2000 + 3) = W 6 2 ∧ ∀ w : Nat, (w : Int) < V 0 63 → V 62 (2000 + (4 + w)) = W 55 (2000 + w))
theorem zDwn_e {V V' W W' : Nat → Nat → Int} (h6 : V' 0 63 = V 0 63) (h62 : ∀ k, V' 62 k = V 62 k) (hW : ∀ o k, (o = 6 ∧ (k = 2 ∨ k = 3)) ∨ o = 7 ∨ o = 55 → W' o k = W o k) (h : zDwn V W) : zDwn V' W' := by
  obtain ⟨a1, a2, a3⟩ := h
  refine ⟨?_, ?_, fun hn => ?_⟩
  · rw [h6, hW 6 3 (by omega)]
    exact a1
  · rw [h6]
    exact a2
  · rw [h6] at hn
    obtain ⟨b1, b2, b3, b4, b5⟩ := a3 hn
    rw [h62, h62, h62, h62, hW 7 3 (by omega), hW 7 4 (by omega), hW 7 6 (by omega), hW 6 2 (by omega)]
    refine ⟨b1, b2, b3, b4, fun w hw => ?_⟩
    rw [h62, hW 55 _ (by omega)]
    exact b5 w (by rw [h6] at hw; exact hw)
theorem zS_drw {V W : Nat → Nat → Int} {p1 : Int} (h : zDwn V W) : (zf_drwc W p1).1 = (zf_drw V p1).1 ∧ (zf_drwc W p1).2 = W ∧ (zf_drw V p1).2 = zp_set V 0 0 0 := by
  obtain ⟨a1, a2, a3⟩ := h
  have e2 : (zf_tld W p1).2 = W := by
    unfold zf_tld
    repeat' split
    all_goals rfl
  have e3 : (zf_drw V p1).2 = zp_set V 0 0 0 := by
    unfold zf_drw
    repeat' split
    all_goals rfl
  refine ⟨?_, e2, e3⟩
  show (zf_tld W p1).1 = (zf_drw V p1).1
  unfold zf_tld zf_drw
  rw [← a1]
  by_cases c0 : V 0 63 = -1
  · rw [if_neg (show ¬ ¬ V 0 63 = -1 from fun z => z c0), if_pos c0]
  · rw [if_pos c0, if_neg c0]
    obtain ⟨b1, b2, b3, b4, b5⟩ := a3 c0
    by_cases d0 : p1 = 0
    · rw [if_pos d0, if_pos (show 0 ≤ p1 ∧ p1 ≤ 3 + V 0 63 by omega), show p1.toNat = 0 by omega]
      exact b1.symm
    rw [if_neg d0]
    by_cases d1 : p1 = 1
    · rw [if_pos d1, if_pos (show 0 ≤ p1 ∧ p1 ≤ 3 + V 0 63 by omega), show p1.toNat = 1 by omega]
      by_cases c4 : W 7 4 = 0
      · rw [if_pos c4]
        exact (b2.1.trans c4).symm
      · rw [if_neg c4]
        exact (b2.1.trans (by omega)).symm
    rw [if_neg d1]
    by_cases d2 : p1 = 2
    · rw [if_pos d2, if_pos (show 0 ≤ p1 ∧ p1 ≤ 3 + V 0 63 by omega), show p1.toNat = 2 by omega]
      exact b3.symm
    rw [if_neg d2]
    by_cases d3 : p1 = 3
    · rw [if_pos d3, if_pos (show 0 ≤ p1 ∧ p1 ≤ 3 + V 0 63 by omega), show p1.toNat = 3 by omega]
      exact b4.symm
    rw [if_neg d3]
    by_cases d4 : p1 < 4
    · rw [if_pos d4, if_neg (show ¬ (0 ≤ p1 ∧ p1 ≤ 3 + V 0 63) by omega)]
    rw [if_neg d4]
    by_cases d5 : V 0 63 ≤ p1 - 4
    · rw [if_pos d5, if_neg (show ¬ (0 ≤ p1 ∧ p1 ≤ 3 + V 0 63) by omega)]
    rw [if_neg d5, if_neg (show ¬ 10 ≤ p1 - 4 by omega), if_pos (show 0 ≤ p1 ∧ p1 ≤ 3 + V 0 63 by omega)]
    have h9 := b5 (p1 - 4).toNat (by omega)
    rw [show 4 + (p1 - 4).toNat = p1.toNat by omega] at h9
    exact h9.symm
/-- a decade -/
theorem zS_dcd {A : Nat → Nat} {Y : List (Nat × Nat)} {F : List (Nat × Nat × Nat)} {V V' W : Nat → Nat → Int} {n1 np : Nat} {Lw : List yK} {p1 p2 rn : Int} (h : zCo V W n1 np Lw) (hl : zLF A Y F W Lw) (h6 : 0 ≤ V 3 (2000 + 6) ∧ V 3 (2000 + 6) ≤ 12) (hp : (0 ≤ p1 ∧ p1 ≤ 1000000) ∧ 1 ≤ p2 ∧ p2 ≤ 60) (hD : zDeq V V' n1 np Lw p1 p2 rn) : (zf_dcdc W n1 np Lw p1 p2).1 = rn ∧ zCo V' (zf_dcdc W n1 np Lw p1 p2).2 n1 np Lw ∧ zDwn V' (zf_dcdc W n1 np Lw p1 p2).2 ∧ (∀ o k, o ≠ 0 → o ≠ 1 → o ≠ 2 → o ≠ 3 → o ≠ 62 → o ≠ 6 → V' o k = V o k) ∧ (∀ k, k ≠ 0 → k ≠ 1 → k ≠ 61 → k ≠ 63 → V' 0 k = V 0 k) ∧ ∀ o k, zDu o k → (o ≠ 0 ∨ k ≠ 18) → (o ≠ 6 ∨ k ≠ 3) → (zf_dcdc W n1 np Lw p1 p2).2 o k = W o k := by
  have hCI := zCI_of hl h
  obtain ⟨nu, hI, hz, -⟩ := zCo_I h
  have e6 : W 1 16 = V 3 (2000 + 6) := (zRr_5 h.1).2.1
  have hC0 : zCj A Y F (zc_d0 W p1) n1 np Lw := zCj_d0 hCI (by rw [e6]; exact h6) hp.1
  have v3 : ∀ k, zp_set (zc_cp (zp_set V 0 0 0) 3 5 6 (34 * 16) 34) 0 61 p1 3 k = V 3 k := fun k => (zp_set_ne (Or.inl (by decide))).trans ((zc_cp_o (by decide)).trans (zp_set_ne (Or.inl (by decide))))
  have v0 : ∀ k, k ≠ 0 → k ≠ 61 → zp_set (zc_cp (zp_set V 0 0 0) 3 5 6 (34 * 16) 34) 0 61 p1 0 k = V 0 k := fun k c1 c2 => (zp_set_ne (Or.inr c2)).trans ((zc_cp_o (by decide)).trans (zp_set_ne (Or.inr c1)))
  have hr0 : zRr (zp_set (zc_cp (zp_set V 0 0 0) 3 5 6 (34 * 16) 34) 0 61 p1) (zsw (zc_d0 W p1)) := by
    have h9 : zRr (zp_set (zc_cp (zp_set V 0 0 0) 3 5 6 (34 * 16) 34) 0 61 p1) (zsw (zf_kf7_2 W).2) := zRr_sw.mpr (fun j hj => by
      rw [zRc7_0, v3]
      exact h.1 j hj)
    unfold zc_d0
    exact zRr_6 (zRr_6 (zRr_6 h9))
  have hD0 : zDyr A Y F (zp_set (zc_cp (zp_set V 0 0 0) 3 5 6 (34 * 16) 34) 0 61 p1) (zc_d0 W p1) nu n1 np Lw := by
    refine ⟨hr0, ?_, ⟨zRI_e v3 (v0 8 (by decide) (by decide)) (v0 47 (by decide) (by decide)) (v0 20 (by decide) (by decide)) hI, ?_, ?_⟩, hC0, zRz_v v3 hz⟩
    · unfold zc_d0
      rw [zp_set_self, zp_set_ne (Or.inr (by decide)), zp_set_self]
    · rw [zp_set_self]
      omega
    · rw [v3]
      exact h6
  obtain ⟨S, hS⟩ : ∃ S, S = zr_dc n1 np Lw p2.toNat 0 0 (zp_set (zc_cp (zp_set V 0 0 0) 3 5 6 (34 * 16) 34) 0 61 p1) := ⟨_, rfl⟩
  obtain ⟨d1, d2, d3, d4, d5, d6, d7, d8⟩ := hD S hS
  have hk := zS_dc p2.toNat 0 0 _ _ hD0 (by unfold zc_d0; exact zp_set_self)
  rw [← hS] at hk
  obtain ⟨k1, k2, k3, k4, k5⟩ := hk
  have k5 := k5 (Int.le_refl 0)
  have ed : zf_dcdc W n1 np Lw p1 p2 = (S.1, (zf_ans (zc_dc n1 np Lw p2.toNat 0 (zc_d0 W p1)).2 S.1).2) := by
    unfold zf_dcdc
    rw [if_pos hp.1, if_pos hp.2]
    unfold zf_ply
    rw [k1]
    rfl
  rw [ed]
  obtain ⟨Z, hZ⟩ : ∃ Z, Z = (zc_dc n1 np Lw p2.toNat 0 (zc_d0 W p1)).2 := ⟨_, rfl⟩
  rw [← hZ] at k2 k3 ⊢
  have zf : ∀ o k, zDu o k → (o ≠ 6 ∨ k ≠ 3) → Z o k = W o k := fun o k ho h63 => by
    rw [hZ, zc_dc_u ho]
    unfold zc_d0
    obtain ⟨c1, c2, c3, c4, c5⟩ := ho
    rw [zp_set_ne (show o ≠ 6 ∨ k ≠ 2 by omega), zp_set_ne (show o ≠ 6 ∨ k ≠ 1 by omega), zp_set_ne (show o ≠ 6 ∨ k ≠ 3 by omega)]
    exact zf_kf7_2_f (fun hm => by
      have h9 : o = 7 ∨ o = 53 ∨ o = 54 ∨ o = 55 := by simpa using hm
      omega)
  have z63 : Z 6 3 = W 1 3 := by
    rw [hZ, zc_dc_u (show zDu 6 3 by unfold zDu; omega)]
    unfold zc_d0
    rw [zp_set_ne (Or.inr (by decide)), zp_set_ne (Or.inr (by decide)), zp_set_self]
  have az : ∀ o k, (o ≠ 0 ∨ k ≠ 18) → (zf_ans Z S.1).2 o k = Z o k := fun o k ho => zp_set_ne ho
  have hcore : zCo V' (zf_ans Z S.1).2 n1 np Lw := by
    have h9 := zCo_an (v := S.1) (v' := S.1) (zCo_0 (v := 0) h) k5
    refine zCo_e (fun o k ho => ?_) (fun o k ho => ?_) h9
    · unfold zCr at ho
      exact d2 o k (by omega) (by omega) (by omega)
    · unfold zCc at ho
      by_cases c : o = 0 ∧ k = 18
      · rw [c.1, c.2]
        show zp_set Z 0 18 0 0 18 = zp_set W 0 18 0 0 18
        rw [zp_set_self, zp_set_self]
      · have c9 : o ≠ 0 ∨ k ≠ 18 := by omega
        rw [az o k c9, zf o k (by unfold zDu; omega) (by omega)]
        exact (zp_set_ne c9).symm
  have hn10 := (zCo_n h).1.1
  refine ⟨d1.symm, hcore, ⟨?_, ?_, fun _ => ⟨?_, ⟨?_, ?_⟩, ?_, ?_, fun w hw => ?_⟩⟩, fun o k c0 c1 c2 c3 c4 c5 => ?_, fun k c0 c1 c2 c3 => ?_, fun o k c0 c1 c2 => (az o k c1).trans (zf o k c0 c2)⟩
  · rw [d3, az 6 3 (Or.inl (by decide)), z63]
    exact ((zCo_n h).2.2.1).symm
  · rw [d3]
    omega
  · rw [d4, az 7 3 (Or.inl (by decide))]
    exact (k2 8 (by decide)).symm
  · rw [d5, az 7 4 (Or.inl (by decide))]
    exact (k2 9 (by decide)).symm
  · rw [az 7 4 (Or.inl (by decide)), show Z 7 4 = S.2.2 3 (2000 + 9) from k2 9 (by decide)]
    exact k4.1
  · rw [d6, az 7 6 (Or.inl (by decide))]
    exact (k2 5 (by decide)).symm
  · rw [d7, az 6 2 (Or.inl (by decide))]
    exact k3.symm
  · rw [d3] at hw
    have hw1 : w < n1 := by omega
    rw [d8 w hw1, az 55 _ (Or.inl (by decide))]
    obtain ⟨q1, q2, q3, q4, q5, q6⟩ := zPl_39 w (by omega)
    exact (zRr_gt k2 (by omega) q6).symm
  · rw [d2 o k (by omega) (by omega) (by omega), zT_tell_k c2 (Or.inl c0)]
    exact zp_set_ne (Or.inl c0)
  · rw [d2 0 k (by decide) (by omega) (by omega), zT_tell_k (by decide) (Or.inr c1)]
    exact zp_set_ne (Or.inr c0)
