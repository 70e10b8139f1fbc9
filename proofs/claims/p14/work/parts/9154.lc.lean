/-! part lc: orders agree on both sides -/
/-- snapped is 0 or 1; beyond the people that there are nothing is wound -/
noncomputable def zRz (V : Nat → Nat → Int) (np : Nat) : Prop := (0 ≤ V 3 (2000 + 9) ∧ V 3 (2000 + 9) ≤ 1) ∧ ∀ p, np ≤ p → p < 6 → V 3 (2000 + (3 * p + 11)) = 0 ∧ V 3 (2000 + (3 * p + 13)) = 0
theorem zRz_v {V V' : Nat → Nat → Int} {np : Nat} (hV : ∀ k, V' 3 k = V 3 k) (h : zRz V np) : zRz V' np := by
  obtain ⟨h1, h2⟩ := h
  refine ⟨?_, fun p hp hp6 => ?_⟩
  · rw [hV]
    exact h1
  · rw [hV, hV]
    exact h2 p hp hp6
theorem zRz_3 {V : Nat → Nat → Int} {np j : Nat} {v : Int} (h9 : j = 9 → 0 ≤ v ∧ v ≤ 1) (hj : ∀ p, np ≤ p → p < 6 → j ≠ 3 * p + 11 ∧ j ≠ 3 * p + 13) (h : zRz V np) : zRz (zp_set V 3 (2000 + j) v) np := by
  obtain ⟨h1, h2⟩ := h
  refine ⟨?_, fun p hp hp6 => ?_⟩
  · by_cases c : j = 9
    · subst c
      rw [zp_set_self]
      exact h9 rfl
    · rw [zp_set_ne (Or.inr (by omega))]
      exact h1
  · have hn := hj p hp hp6
    have e1 : zp_set V 3 (2000 + j) v 3 (2000 + (3 * p + 11)) = V 3 (2000 + (3 * p + 11)) := zp_set_ne (Or.inr (by omega))
    have e2 : zp_set V 3 (2000 + j) v 3 (2000 + (3 * p + 13)) = V 3 (2000 + (3 * p + 13)) := zp_set_ne (Or.inr (by omega))
    rw [e1, e2]
    exact h2 p hp hp6
theorem zRz_wea {V : Nat → Nat → Int} {np : Nat} {Lw : List yK} {t : Int} (h : zRz V np) : zRz (zf_wea V Lw t).2 np := by
  unfold zf_wea
  split
  · refine zRz_3 (fun e => ?_) (fun p _ _ => ?_) (zRz_3 (fun _ => ?_) (fun p _ _ => ?_) (zRz_3 (fun e => ?_) (fun p _ _ => ?_) h)) <;> omega
  · refine zRz_3 (fun e => ?_) (fun p _ _ => ?_) (zRz_3 (fun _ => ?_) (fun p _ _ => ?_) (zRz_3 (fun e => ?_) (fun p _ _ => ?_) h)) <;> omega
theorem zRz_wnn {V : Nat → Nat → Int} {nu np : Nat} {Lw : List yK} {t : Int} (h : zRz V np) : zRz (zf_wnn V nu Lw t).2 np := by
  have h' : zRz (zT_rem V 0 nu) np := zRz_v (fun k => zT_rem_3) h
  unfold zf_wnn
  split
  · split
    · exact h
    · split
      · exact h
      · split
        · exact zRz_wea h'
        · split
          · exact zRz_wea h'
          · exact h
  · exact h
theorem zRz_mnn {V : Nat → Nat → Int} {nu np : Nat} {t : Int} (h : zRz V np) : zRz (zf_mnn V nu t).2 np := by
  have h' : zRz (zT_rem V 3 nu) np := zRz_v (fun k => zT_rem_3) h
  unfold zf_mnn
  split
  · split
    · refine zRz_3 (fun _ => ?_) (fun p _ _ => ?_) (zRz_3 (fun e => ?_) (fun p _ _ => ?_) h') <;> omega
    · exact h
  · exact h
theorem zRz_kyn {V : Nat → Nat → Int} {nu np : Nat} {Lw : List yK} {t s : Int} (h : zRz V np) : zRz (zf_kyn V nu np Lw t s).2 np := by
  have h' : zRz (zT_rem V 1 nu) np := zRz_v (fun k => zT_rem_3) h
  unfold zf_kyn
  split
  · split
    · rename_i c2
      split
      · exact h
      · split
        · exact h
        · refine zRz_3 (fun e => ?_) (fun p _ _ => ?_) h' <;> omega
    · exact h
  · exact h
theorem zRz_dn {V : Nat → Nat → Int} {np : Nat} {X : (Nat → Int) × (Nat → Int)} (h : zRz V np) : ∀ {w : Nat}, zRz (zc_dn V X w) np
  | 0 => h
  | w + 1 => by
    rw [zc_dn]
    refine zRz_3 (fun e => ?_) (fun p _ _ => ?_) (zRz_dn h) <;> omega
theorem zRz_pl {V : Nat → Nat → Int} {np : Nat} (h : zRz V np) : ∀ {p : Nat}, p ≤ np → zRz (zc_pl V p) np
  | 0, _ => h
  | p + 1, hp => by
    rw [zc_pl]
    refine zRz_3 (fun e => ?_) (fun q _ _ => ?_) (zRz_3 (fun e => ?_) (fun q _ _ => ?_) (zRz_pl h (by omega))) <;> omega
theorem zRz_rnn {V : Nat → Nat → Int} {nu n1 np : Nat} {Lw : List yK} (h : zRz V np) : zRz (zf_rnn V nu n1 np Lw).2 np := by
  have h' : zRz (zT_rem V 2 nu) np := zRz_v (fun k => zT_rem_3) h
  unfold zf_rnn
  split
  · exact h
  · split
    · show zRz (zp_set (zp_set _ 3 (2000 + 10) (-1)) 3 (2000 + 5) _) np
      refine zRz_3 (fun e => ?_) (fun p _ _ => ?_) (zRz_3 (fun e => ?_) (fun p _ _ => ?_) (zRz_pl (zRz_dn h') (Nat.le_refl _))) <;> omega
    · exact h
theorem zRz_do {V : Nat → Nat → Int} {nu n1 np : Nat} {Lw : List yK} {k a b : Int} (h : zRz V np) : zRz (zo_do V nu n1 np Lw k a b).2 np := by
  unfold zo_do
  split
  · exact zRz_wnn h
  · split
    · exact zRz_kyn h
    · split
      · exact zRz_rnn h
      · exact zRz_mnn h
theorem zRz_hd {V : Nat → Nat → Int} {np : Nat} (h : zRz V np) : zRz (zo_hd V) np := zRz_v (fun k => zo_hd_o (by decide) (Or.inl (by decide))) h
theorem zRz_run {V : Nat → Nat → Int} {nu n1 np : Nat} {Lw : List yK} {K : yK} (h : zRz V np) : zRz (zo_run V nu n1 np Lw K).2 np := by
  have hh := zRz_hd h
  unfold zo_run
  split
  · split
    · rename_i a b _ _
      split
      · exact zRz_do hh
      · refine zRz_v (V := (zo_do (zo_hd V) nu n1 np Lw K.1 a b).2) (fun k => ?_) (zRz_do hh)
        dsimp only
        exact (zp_set_ne (Or.inl (by decide))).trans (zp_set_ne (Or.inl (by decide)))
    · exact hh
  · exact hh
/-- the rows of both sides, and what orders count -/
noncomputable def zRo (V W : Nat → Nat → Int) : Prop := zRr V W ∧ W 0 13 = V 0 57 ∧ W 0 14 = V 0 58
/-- the words are worth the same -/
theorem zo_e_q {V W : Nat → Nat → Int} {nu n1 np : Nat} {Lw : List yK} (h : zRo V W) (hI : zRI V nu n1 np Lw) : zo_eC W = zo_eV (zo_hd V) := by
  obtain ⟨h1, h2, h3⟩ := h
  obtain ⟨d1, d2, d3, d4, -, -⟩ := hI.2.2.1
  obtain ⟨e5, -, e8, -, e10, -, -⟩ := zRr_5 h1
  obtain ⟨w1, w2, w3, w4, w5, -⟩ := zo_hd_w (V := V)
  have h3c : ∀ k, zo_hd V 3 k = V 3 k := fun k => zo_hd_o (by decide) (Or.inl (by decide))
  have q : zQr (fun j => zo_hd V 3 (2000 + j)) (zRc W 2 50) := fun j hj => (h1 j hj).trans (h3c _).symm
  have r0 : zo_hd V 3 (2000 + 0) = (np : Int) := (h3c _).trans d4
  have r1 : zo_hd V 3 (2000 + 1) = (n1 : Int) := (h3c _).trans d3
  have hN : ∀ j, 0 < j → j < 6 → zo_NC W j = zo_hd V 36 (2000 + j) := fun j j0 j6 => by
    have hj5 : j = 1 ∨ j = 2 ∨ j = 3 ∨ j = 4 ∨ j = 5 := by omega
    rcases hj5 with rfl | rfl | rfl | rfl | rfl
    · exact Eq.trans e5 w1.symm
    · exact Eq.trans e10 w2.symm
    · exact Eq.trans e8 w3.symm
    · exact Eq.trans h2 w4.symm
    · exact Eq.trans h3 w5.symm
  have b0 : (fun j => zo_hd V 3 (2000 + j)) 0 ≤ (6 : Int) := by
    show zo_hd V 3 (2000 + 0) ≤ 6
    omega
  have b1 : (fun j => zo_hd V 3 (2000 + j)) 1 ≤ (10 : Int) := by
    show zo_hd V 3 (2000 + 1) ≤ 10
    omega
  funext o a
  exact zo_en_q q hN b0 b1
theorem zo_tb_s {en : Int → Int → Int} {y : yD} {v : Int} (h : y en = some v) : zo_tb en (some y) = decide (v ≠ 0) := by
  unfold zo_tb
  simp only [h]
theorem zo_tb_n {en : Int → Int → Int} {y : yD} (h : y en = none) : zo_tb en (some y) = false := by
  unfold zo_tb
  simp only [h]
theorem zo_tbC_s {en : Int → Int → Int} {xo : Option yD} {v : Int} (h : zo_x1 xo en = some v) : zo_tbC en xo = decide (v = 1) := by
  unfold zo_tbC
  simp only [h]
theorem zo_tbC_n {en : Int → Int → Int} {xo : Option yD} (h : zo_x1 xo en = none) : zo_tbC en xo = false := by
  unfold zo_tbC
  simp only [h]
theorem zo_tb_c {en : Int → Int → Int} {xo : Option yD} (hT : ∀ x, xo = some x → yd_T x) : zo_tbC en xo = zo_tb en xo := by
  cases xo with
  | none => exact zo_tbC_s (v := 1) rfl
  | some y =>
    cases hv : y en with
    | none => exact Eq.trans (zo_tbC_n (xo := some y) hv) (zo_tb_n hv).symm
    | some v =>
      rw [zo_tbC_s (xo := some y) hv, zo_tb_s hv]
      rcases hT y rfl en v hv with c | c
      · subst c
        decide
      · subst c
        decide
/-- a number that is asked is the same, or can't be on both sides -/
theorem zo_1c {en : Int → Int → Int} {xo : Option yD} {Q : Prop} (h : Q ∨ xo ≠ none) : (∃ a a', zo_1 en xo = some a ∧ zo_x1 xo en = some a' ∧ (Q ∨ a = a')) ∨ (zo_1 en xo = none ∧ zo_x1 xo en = none) := by
  cases xo with
  | none => exact Or.inl ⟨-1, 1, rfl, rfl, h.elim Or.inl (fun z => absurd rfl z)⟩
  | some x =>
    cases hx : x en with
    | none => exact Or.inr ⟨hx, hx⟩
    | some v => exact Or.inl ⟨v, v, hx, hx, Or.inr rfl⟩
theorem zo_doC_2 {V : Nat → Nat → Int} {n1 np : Nat} {Lw : List yK} {a b : Int} : zo_doC V n1 np Lw 2 a b = zf_rudc V n1 np Lw := by
  unfold zo_doC
  rw [if_neg (by decide), if_neg (by decide), if_pos rfl]
theorem zo_doC_ab {V : Nat → Nat → Int} {n1 np : Nat} {Lw : List yK} {k a b a' b' : Int} (h1 : k = 2 ∨ a = a') (h2 : k ≠ 1 ∨ b = b') : zo_doC V n1 np Lw k a' b' = zo_doC V n1 np Lw k a b := by
  by_cases c2 : k = 2
  · rw [c2, zo_doC_2, zo_doC_2]
  · have ha : a = a' := h1.resolve_left c2
    subst ha
    rcases h2 with c1 | hb
    · unfold zo_doC
      rw [if_neg c1, if_neg c1]
    · rw [hb]
/-- a clause is run once -/
theorem zS_run {V W : Nat → Nat → Int} {nu n1 np : Nat} {Lw : List yK} {K : yK} (h : zRo V W) (hI : zRI V nu n1 np Lw) (hz : zRz V np) (hK : zo_wf K) (hT : ∀ x, K.2.2.2.2 = some x → yd_T x) : ((zo_runC W n1 np Lw K).1 = 1 ↔ ¬ (zo_run V nu n1 np Lw K).1 < 0) ∧ zRo (zo_run V nu n1 np Lw K).2 (zo_runC W n1 np Lw K).2 := by
  have he := zo_e_q h hI
  obtain ⟨h1, h2, h3⟩ := h
  have hh : zRr (zo_hd V) W := zRr_v h1 (fun j _ => zo_hd_o (by decide) (Or.inl (by decide)))
  have a57 : zo_hd V 0 57 = V 0 57 := zo_hd_o (by decide) (Or.inr (by decide))
  have a58 : zo_hd V 0 58 = V 0 58 := zo_hd_o (by decide) (Or.inr (by decide))
  have hro : zRo (zo_hd V) W := ⟨hh, h2.trans a57.symm, h3.trans a58.symm⟩
  have hIh := zRI_hd hI
  have hzh := zRz_hd hz
  have hA := zo_1c (en := zo_eV (zo_hd V)) (xo := K.2.1) (Q := K.1 = 2) hK.2.1
  have hB := zo_1c (en := zo_eV (zo_hd V)) (xo := K.2.2.1) (Q := K.1 ≠ 1) (by
    by_cases c : K.1 = 1
    · exact Or.inr (hK.2.2.1 c)
    · exact Or.inl c)
  unfold zo_runC zo_run
  rw [he, zo_tb_c hT]
  by_cases c : zo_tb (zo_eV (zo_hd V)) K.2.2.2.2 = true
  · rw [if_pos c, if_pos c]
    have hbad : ((0 : Int) = 1 ↔ ¬ (-3 : Int) < 0) := by decide
    rcases hA with ⟨a, a', x1, x2, x3⟩ | ⟨x1, x2⟩
    · rcases hB with ⟨b, b', y1, y2, y3⟩ | ⟨y1, y2⟩
      · simp only [x1, x2, y1, y2]
        rw [zo_doC_ab x3 y3]
        have hd := zS_do (k := K.1) (a := a) (b := b) hh hIh hzh.1 hIh.1.2.2.1 hzh.2
        have d57 : (zo_do (zo_hd V) nu n1 np Lw K.1 a b).2 0 57 = V 0 57 := (zo_kp_do 0 57 (by decide) (by decide) (by decide) (Or.inr (by decide))).trans a57
        have d58 : (zo_do (zo_hd V) nu n1 np Lw K.1 a b).2 0 58 = V 0 58 := (zo_kp_do 0 58 (by decide) (by decide) (by decide) (Or.inr (by decide))).trans a58
        have k13 : (zo_doC W n1 np Lw K.1 a b).2 0 13 = W 0 13 := zo_doC_0
        have k14 : (zo_doC W n1 np Lw K.1 a b).2 0 14 = W 0 14 := zo_doC_0
        rw [hd.1]
        by_cases d : (zo_do (zo_hd V) nu n1 np Lw K.1 a b).1 < 0
        · rw [if_pos d, if_pos d]
          exact ⟨hbad, hd.2, (k13.trans h2).trans d57.symm, (k14.trans h3).trans d58.symm⟩
        · rw [if_neg d, if_neg d]
          have hok : ((1 : Int) = 1 ↔ ¬ (0 : Int) < 0) := by decide
          refine ⟨hok, ?_⟩
          have r58 : ∀ (X : Nat → Nat → Int) (x y : Int), zp_set (zp_set X 0 58 x) 0 57 y 0 58 = x := fun X x y => (zp_set_ne (Or.inr (by decide))).trans zp_set_self
          have r57 : ∀ (X : Nat → Nat → Int) (x y : Int), zp_set (zp_set X 0 58 x) 0 57 y 0 57 = y := fun X x y => zp_set_self
          have hV3 : ∀ (x y : Int) (j : Nat), j < 180 → zp_set (zp_set (zo_do (zo_hd V) nu n1 np Lw K.1 a b).2 0 58 x) 0 57 y 3 (2000 + j) = (zo_do (zo_hd V) nu n1 np Lw K.1 a b).2 3 (2000 + j) := fun x y j _ => (zp_set_ne (Or.inl (by decide))).trans (zp_set_ne (Or.inl (by decide)))
          by_cases k2 : K.1 = 2
          · rw [if_pos k2, if_pos k2]
            dsimp only
            refine ⟨zRr_e hd.2 (fun j _ => by simp (disch := omega) only [zp_set_ne]) (fun o k ho => (zp_set_ne (Or.inl (by omega))).trans (zp_set_ne (Or.inl (by omega)))), ?_, ?_⟩
            · have e1 : zp_set (zp_set (zo_doC W n1 np Lw K.1 a b).2 0 13 (W 0 13 + 1)) 0 14 (zo_do (zo_hd V) nu n1 np Lw K.1 a b).1 0 13 = W 0 13 + 1 := (zp_set_ne (Or.inr (by decide))).trans zp_set_self
              exact Eq.trans e1 (Eq.trans (by rw [h2]) (r57 _ _ _).symm)
            · exact Eq.trans zp_set_self (r58 _ _ _).symm
          · rw [if_neg k2, if_neg k2]
            dsimp only
            refine ⟨zRr_e hd.2 (fun j _ => by simp (disch := omega) only [zp_set_ne]) (fun o k ho => zp_set_ne (Or.inl (by omega))), ?_, ?_⟩
            · exact Eq.trans zp_set_self (Eq.trans (by rw [h2]) (r57 _ _ _).symm)
            · have e1 : zp_set (zo_doC W n1 np Lw K.1 a b).2 0 13 (W 0 13 + 1) 0 14 = W 0 14 := (zp_set_ne (Or.inr (by decide))).trans k14
              exact Eq.trans e1 (Eq.trans h3 (r58 _ _ _).symm)
      · simp only [x1, x2, y1, y2]
        exact ⟨hbad, hro⟩
    · rcases hB with ⟨b, b', y1, y2, y3⟩ | ⟨y1, y2⟩
      · simp only [x1, x2, y1, y2]
        exact ⟨hbad, hro⟩
      · simp only [x1, x2, y1, y2]
        exact ⟨hbad, hro⟩
  · rw [if_neg c, if_neg c]
    have hok : ((1 : Int) = 1 ↔ ¬ (0 : Int) < 0) := by decide
    exact ⟨hok, hro⟩
/-- as often as it says -/
theorem zS_tm {n1 np : Nat} {Lw : List yK} {K : yK} (hK : zo_wf K) (hT : ∀ x, K.2.2.2.2 = some x → yd_T x) : ∀ {t : Nat} {V W : Nat → Nat → Int} {nu : Nat}, zRo V W → zRI V nu n1 np Lw → zRz V np → (zo_tmC n1 np Lw K t W).1 = (zo_tm n1 np Lw K t V).1 ∧ zRo (zo_tm n1 np Lw K t V).2 (zo_tmC n1 np Lw K t W).2 ∧ (∃ nu' : Nat, zRI (zo_tm n1 np Lw K t V).2 nu' n1 np Lw) ∧ zRz (zo_tm n1 np Lw K t V).2 np
  | 0, _, _, nu, h, hI, hz => ⟨rfl, h, ⟨nu, hI⟩, hz⟩
  | t + 1, V, W, nu, h, hI, hz => by
    have e8 : (V 0 8).toNat = nu := by
      have h8 := hI.2.1.1
      omega
    have h1 := zS_run h hI hz hK hT
    obtain ⟨nu', hI'⟩ := zRI_run (K := K) hI
    have hz' := zRz_run (nu := nu) (n1 := n1) (Lw := Lw) (K := K) hz
    rw [zo_tm, zo_tmC, e8]
    by_cases c : (zo_run V nu n1 np Lw K).1 < 0
    · rw [if_pos c, if_neg (fun z => h1.1.mp z c)]
      exact ⟨rfl, h1.2, ⟨nu', hI'⟩, hz'⟩
    · rw [if_neg c, if_pos (h1.1.mpr c)]
      exact zS_tm hK hT h1.2 hI' hz'
/-- all clauses -/
theorem zS_cs {n1 np : Nat} {Lw : List yK} : ∀ {L : List yK} {i : Nat} {V W : Nat → Nat → Int} {nu : Nat}, (∀ K ∈ L, zo_wf K ∧ ∀ x, K.2.2.2.2 = some x → yd_T x) → zRo V W → zRI V nu n1 np Lw → zRz V np → (zo_csC n1 np Lw L i W).1 = (zo_cs n1 np Lw L i V).1 ∧ zRo (zo_cs n1 np Lw L i V).2 (zo_csC n1 np Lw L i W).2 ∧ (∃ nu' : Nat, zRI (zo_cs n1 np Lw L i V).2 nu' n1 np Lw) ∧ zRz (zo_cs n1 np Lw L i V).2 np
  | [], _, _, _, nu, _, h, hI, hz => ⟨rfl, h, ⟨nu, hI⟩, hz⟩
  | K :: r, i, V, W, nu, hL, h, hI, hz => by
    have hK := hL K List.mem_cons_self
    have h1 := zS_tm (t := K.2.2.2.1.toNat) hK.1 hK.2 h hI hz
    obtain ⟨e1, h2, ⟨nu', hI'⟩, hz'⟩ := h1
    rw [zo_cs, zo_csC, e1]
    by_cases c : (zo_tm n1 np Lw K K.2.2.2.1.toNat V).1 = true
    · rw [if_pos c, if_pos c]
      exact zS_cs (fun K' h' => hL K' (List.mem_cons_of_mem _ h')) h2 hI' hz'
    · rw [if_neg c, if_neg c]
      exact ⟨rfl, h2, ⟨nu', hI'⟩, hz'⟩
/-- what the doings leave of the row -/
noncomputable def zKj (j : Nat) : Prop := j < 5 ∨ j = 6 ∨ j = 7 ∨ 39 ≤ j ∨ (11 ≤ j ∧ j < 29 ∧ (j - 11) % 3 = 1)
/-- the row beside, and what is kept ahead of orders, stay -/
noncomputable def zKr (V V' : Nat → Nat → Int) : Prop := (∀ j, zKj j → V' 3 (2000 + j) = V 3 (2000 + j)) ∧ ∀ j, 544 ≤ j → V' 6 (2000 + j) = V 6 (2000 + j)
theorem zKr_i {V : Nat → Nat → Int} : zKr V V := ⟨fun _ _ => rfl, fun _ _ => rfl⟩
theorem zKr_t {V V' V'' : Nat → Nat → Int} (h : zKr V V') (h' : zKr V' V'') : zKr V V'' := ⟨fun j hj => (h'.1 j hj).trans (h.1 j hj), fun j hj => (h'.2 j hj).trans (h.2 j hj)⟩
theorem zKr_3 {V V' : Nat → Nat → Int} {j : Nat} {v : Int} (hj : ¬ zKj j) (h : zKr V V') : zKr V (zp_set V' 3 (2000 + j) v) := by
  refine ⟨fun i hi => ?_, fun i hi => ?_⟩
  · have hne : i ≠ j := fun e => hj (e ▸ hi)
    exact (zp_set_ne (Or.inr (by omega))).trans (h.1 i hi)
  · exact (zp_set_ne (Or.inl (by decide))).trans (h.2 i hi)
theorem zKr_o {V V' : Nat → Nat → Int} {o k : Nat} {v : Int} (h3 : o ≠ 3) (h6 : o ≠ 6) (h : zKr V V') : zKr V (zp_set V' o k v) := ⟨fun i hi => (zp_set_ne (Or.inl (Ne.symm h3))).trans (h.1 i hi), fun i hi => (zp_set_ne (Or.inl (Ne.symm h6))).trans (h.2 i hi)⟩
theorem zKr_cp {V V' : Nat → Nat → Int} {o1 b1 o2 b2 n : Nat} (h3 : o2 ≠ 3) (h6 : o2 ≠ 6 ∨ b2 + n ≤ 544) (h : zKr V V') : zKr V (zc_cp V' o1 b1 o2 b2 n) := by
  refine ⟨fun i hi => ?_, fun i hi => ?_⟩
  · exact (if_neg (fun z => h3 z.1.symm) : zc_cp V' o1 b1 o2 b2 n 3 (2000 + i) = V' 3 (2000 + i)).trans (h.1 i hi)
  · refine (if_neg (fun z => ?_) : zc_cp V' o1 b1 o2 b2 n 6 (2000 + i) = V' 6 (2000 + i)).trans (h.2 i hi)
    omega
theorem zKr_rem {V : Nat → Nat → Int} {s : Int} {nu : Nat} (h : nu ≤ 16) : zKr V (zT_rem V s nu) := by
  unfold zT_rem
  split
  · exact zKr_o (by decide) (by decide) (zKr_o (by decide) (by decide) (zKr_cp (by decide) (Or.inr (by decide)) (zKr_o (by decide) (by decide) (zKr_cp (by decide) (Or.inl (by decide)) (zKr_cp (by decide) (Or.inr (by decide)) zKr_i)))))
  · exact zKr_o (by decide) (by decide) (zKr_o (by decide) (by decide) (zKr_cp (by decide) (Or.inr (by omega)) zKr_i))
theorem zKr_wea {V V' : Nat → Nat → Int} {Lw : List yK} {t : Int} (h : zKr V V') : zKr V (zf_wea V' Lw t).2 := by
  have n8 : ¬ zKj 8 := by unfold zKj; omega
  have n9 : ¬ zKj 9 := by unfold zKj; omega
  have n10 : ¬ zKj 10 := by unfold zKj; omega
  unfold zf_wea
  split
  · exact zKr_3 n10 (zKr_3 n9 (zKr_3 n8 h))
  · exact zKr_3 n10 (zKr_3 n9 (zKr_3 n8 h))
theorem zKr_dn {V V' : Nat → Nat → Int} {X : (Nat → Int) × (Nat → Int)} (h : zKr V V') : ∀ {w : Nat}, w ≤ 10 → zKr V (zc_dn V' X w)
  | 0, _ => h
  | w + 1, hw => by
    rw [zc_dn]
    exact zKr_3 (by unfold zKj; omega) (zKr_dn h (by omega))
theorem zKr_pl {V V' : Nat → Nat → Int} (h : zKr V V') : ∀ {p : Nat}, p ≤ 6 → zKr V (zc_pl V' p)
  | 0, _ => h
  | p + 1, hp => by
    rw [zc_pl]
    exact zKr_3 (by unfold zKj; omega) (zKr_3 (by unfold zKj; omega) (zKr_pl h (by omega)))
theorem zKr_do {V : Nat → Nat → Int} {nu n1 np : Nat} {Lw : List yK} {k a b : Int} (hnu : nu ≤ 16) (hn : n1 ≤ 10) (hp : np ≤ 6) : zKr V (zo_do V nu n1 np Lw k a b).2 := by
  have n5 : ¬ zKj 5 := by unfold zKj; omega
  have n8 : ¬ zKj 8 := by unfold zKj; omega
  have n9 : ¬ zKj 9 := by unfold zKj; omega
  have n10 : ¬ zKj 10 := by unfold zKj; omega
  unfold zo_do
  split
  · unfold zf_wnn
    split
    · split
      · exact zKr_i
      · split
        · exact zKr_i
        · split
          · exact zKr_wea (zKr_rem hnu)
          · split
            · exact zKr_wea (zKr_rem hnu)
            · exact zKr_i
    · exact zKr_i
  · split
    · unfold zf_kyn
      split
      · split
        · rename_i c2
          split
          · exact zKr_i
          · split
            · exact zKr_i
            · have hj : ¬ zKj (3 * a.toNat + 13) := by unfold zKj; omega
              exact zKr_3 hj (zKr_rem hnu)
        · exact zKr_i
      · exact zKr_i
    · split
      · unfold zf_rnn
        split
        · exact zKr_i
        · split
          · show zKr V (zp_set (zp_set _ 3 (2000 + 10) (-1)) 3 (2000 + 5) _)
            exact zKr_3 n5 (zKr_3 n10 (zKr_pl (zKr_dn (zKr_rem hnu) hn) hp))
          · exact zKr_i
      · unfold zf_mnn
        split
        · split
          · exact zKr_3 n9 (zKr_3 n8 (zKr_rem hnu))
          · exact zKr_i
        · exact zKr_i
theorem zKr_run {V : Nat → Nat → Int} {nu n1 np : Nat} {Lw : List yK} {K : yK} (hnu : nu ≤ 16) (hn : n1 ≤ 10) (hp : np ≤ 6) : zKr V (zo_run V nu n1 np Lw K).2 := by
  have hh : zKr V (zo_hd V) := by
    unfold zo_hd
    exact zKr_o (by decide) (by decide) (zKr_o (by decide) (by decide) (zKr_o (by decide) (by decide) (zKr_o (by decide) (by decide) (zKr_o (by decide) (by decide) (zKr_o (by decide) (by decide) zKr_i)))))
  unfold zo_run
  split
  · split
    · split
      · exact zKr_t hh (zKr_do hnu hn hp)
      · exact zKr_o (by decide) (by decide) (zKr_o (by decide) (by decide) (zKr_t hh (zKr_do hnu hn hp)))
    · exact hh
  · exact hh
theorem zKr_tm {n1 np : Nat} {Lw : List yK} {K : yK} : ∀ {t : Nat} {V : Nat → Nat → Int} {nu : Nat}, zRI V nu n1 np Lw → zKr V (zo_tm n1 np Lw K t V).2 ∧ ∃ nu' : Nat, zRI (zo_tm n1 np Lw K t V).2 nu' n1 np Lw
  | 0, _, nu, hI => ⟨zKr_i, nu, hI⟩
  | t + 1, V, nu, hI => by
    have e8 : (V 0 8).toNat = nu := by
      have h8 := hI.2.1.1
      omega
    obtain ⟨nu', hI'⟩ := zRI_run (K := K) hI
    have h1 : zKr V (zo_run V nu n1 np Lw K).2 := zKr_run hI.2.1.2 hI.2.2.1.1 hI.2.2.1.2.1
    rw [zo_tm, e8]
    split
    · exact ⟨h1, nu', hI'⟩
    · have h2 := zKr_tm (K := K) (t := t) hI'
      exact ⟨zKr_t h1 h2.1, h2.2⟩
theorem zKr_cs {n1 np : Nat} {Lw : List yK} : ∀ {L : List yK} {i : Nat} {V : Nat → Nat → Int} {nu : Nat}, zRI V nu n1 np Lw → zKr V (zo_cs n1 np Lw L i V).2
  | [], _, _, _, _ => zKr_i
  | K :: r, i, V, nu, hI => by
    obtain ⟨h1, nu', hI'⟩ := zKr_tm (K := K) (t := K.2.2.2.1.toNat) hI
    rw [zo_cs]
    split
    · exact zKr_t h1 (zKr_cs hI')
    · exact h1
/-- what the class's doings leave -/
noncomputable def zKc (W W' : Nat → Nat → Int) : Prop := ∀ o k, (o = 1 ∨ (30 ≤ o ∧ o < 40) ∨ o = 9 ∨ o = 10 ∨ o = 59 ∨ o = 60 ∨ o = 61 ∨ o = 64 ∨ o = 65) → W' o k = W o k
theorem zKc_do {W : Nat → Nat → Int} {n1 np : Nat} {Lw : List yK} {k a b : Int} : zKc W (zo_doC W n1 np Lw k a b).2 := fun o j ho => by
  unfold zo_doC
  split
  · exact zf_wnbc_f (fun hm => by
      have h9 : o = 2 ∨ o = 3 ∨ o = 62 ∨ o = 63 := by simpa using hm
      omega)
  · split
    · exact zf_keybc_f (fun hm => by
        have h9 : o = 3 ∨ o = 51 ∨ o = 62 ∨ o = 63 := by simpa using hm
        omega)
    · split
      · exact zf_rudc_f (fun hm => by
          have h9 : o = 2 ∨ o = 3 ∨ o = 50 ∨ o = 51 ∨ o = 52 ∨ o = 62 ∨ o = 63 := by simpa using hm
          omega)
      · exact zf_mbyc_f (fun hm => by
          have h9 : o = 2 ∨ o = 3 ∨ o = 62 ∨ o = 63 := by simpa using hm
          omega)
theorem zKc_run {W : Nat → Nat → Int} {n1 np : Nat} {Lw : List yK} {K : yK} : zKc W (zo_runC W n1 np Lw K).2 := fun o j ho => by
  unfold zo_runC
  split
  · split
    · split
      · exact zKc_do o j ho
      · split
        · exact (zp_set_ne (Or.inl (by omega))).trans ((zp_set_ne (Or.inl (by omega))).trans (zKc_do o j ho))
        · exact (zp_set_ne (Or.inl (by omega))).trans (zKc_do o j ho)
    · rfl
  · rfl
theorem zKc_tm {n1 np : Nat} {Lw : List yK} {K : yK} : ∀ {t : Nat} {W : Nat → Nat → Int}, zKc W (zo_tmC n1 np Lw K t W).2
  | 0, _ => fun _ _ _ => rfl
  | t + 1, W => fun o j ho => by
    rw [zo_tmC]
    split
    · exact (zKc_tm o j ho).trans (zKc_run o j ho)
    · exact zKc_run o j ho
theorem zKc_cs {n1 np : Nat} {Lw : List yK} : ∀ {L : List yK} {i : Nat} {W : Nat → Nat → Int}, zKc W (zo_csC n1 np Lw L i W).2
  | [], _, _ => fun _ _ _ => rfl
  | K :: r, i, W => fun o j ho => by
    rw [zo_csC]
    split
    · exact (zKc_cs o j ho).trans (zKc_tm o j ho)
    · exact zKc_tm o j ho
/-- ahead of orders -/
theorem zS_be {V W : Nat → Nat → Int} (h : zRr V W) : zRo (zo_be V) (zo_beC W) := by
  refine ⟨zRr_e h (fun j _ => zo_be_o (by decide) (by decide) (by decide) (Or.inl (by decide))) (fun o k ho => ?_), ?_, ?_⟩
  · have e1 : zo_beC W o k = (zf_uf10_3 (zf_kf9_2 (zo_b0C W)).2).2 o k := (zp_set_ne (Or.inl (by omega))).trans (zp_set_ne (Or.inl (by omega)))
    have e2 : (zf_uf10_3 (zf_kf9_2 (zo_b0C W)).2).2 o k = (zf_kf9_2 (zo_b0C W)).2 o k := zf_uf10_3_f (fun hm => by
      have h9 : o = 10 ∨ o = 64 ∨ o = 65 := by simpa using hm
      omega)
    have e3 : (zf_kf9_2 (zo_b0C W)).2 o k = zo_b0C W o k := zf_kf9_2_f (fun hm => by
      have h9 : o = 9 ∨ o = 59 ∨ o = 60 ∨ o = 61 := by simpa using hm
      omega)
    have e4 : zo_b0C W o k = W o k := (zp_set_ne (Or.inl (by omega))).trans (zp_set_ne (Or.inl (by omega)))
    exact e1.trans (e2.trans (e3.trans e4))
  · have e1 : zo_beC W 0 13 = 0 := (zp_set_ne (Or.inr (by decide))).trans zp_set_self
    have e2 : zo_be V 0 57 = 0 := (zp_set_ne (Or.inr (by decide))).trans zp_set_self
    exact e1.trans e2.symm
  · have e1 : zo_beC W 0 14 = -1 := zp_set_self
    have e2 : zo_be V 0 58 = -1 := zp_set_self
    exact e1.trans e2.symm
/-- what the reference gives back is the row that stood -/
theorem zo_gb_3 {V X : Nat → Nat → Int} {nu : Int} (h : zKr (zo_be V) X) {j : Nat} : zo_gb X nu 3 (2000 + j) = V 3 (2000 + j) := by
  have e0 : zo_gb X nu 3 (2000 + j) = zc_cp X 6 (34 * 17) 3 5 34 3 (2000 + j) := by
    unfold zo_gb
    rw [zp_set_ne (Or.inl (by decide)), zc_cp_o (by decide), zc_cp_o (by decide)]
  have e9 : zo_be V 3 (2000 + j) = V 3 (2000 + j) := zo_be_o (by decide) (by decide) (by decide) (Or.inl (by decide))
  rw [e0]
  by_cases c : 5 ≤ j ∧ j < 39
  · have e1 : zc_cp X 6 (34 * 17) 3 5 34 3 (2000 + j) = X 6 (2000 + (34 * 17 + (2000 + j - (2000 + 5)))) := if_pos ⟨rfl, by omega, by omega⟩
    rw [e1, h.2 _ (by omega)]
    have e2 : zo_be V 6 (2000 + (34 * 17 + (2000 + j - (2000 + 5)))) = zc_cp V 3 5 6 (34 * 17) 34 6 (2000 + (34 * 17 + (2000 + j - (2000 + 5)))) := by
      unfold zo_be
      rw [zp_set_ne (Or.inl (by decide)), zp_set_ne (Or.inl (by decide)), zc_cp_o (by decide), zc_cp_o (by decide)]
    have e3 : zc_cp V 3 5 6 (34 * 17) 34 6 (2000 + (34 * 17 + (2000 + j - (2000 + 5)))) = V 3 (2000 + (5 + (2000 + (34 * 17 + (2000 + j - (2000 + 5))) - (2000 + 34 * 17)))) := if_pos ⟨rfl, by omega, by omega⟩
    rw [e2, e3]
    exact congrArg _ (by omega)
  · have e1 : zc_cp X 6 (34 * 17) 3 5 34 3 (2000 + j) = X 3 (2000 + j) := if_neg (fun z => c ⟨by omega, by omega⟩)
    rw [e1, h.1 j (by unfold zKj; omega), e9]
/-- what the class gives back is the row that stood -/
theorem zo_gbC_p {W Y : Nat → Nat → Int} {c : Int} (h : zKc (zo_beC W) Y) {o k : Nat} (ho : (o = 1 ∨ (30 ≤ o ∧ o < 40)) ∨ (o = 2 ∧ (k = 3 ∨ k = 4 ∨ k = 5 ∨ k = 6)) ∨ ((o = 50 ∨ o = 51) ∧ 2000 ≤ k ∧ k < 2006) ∨ (o = 52 ∧ 2000 ≤ k ∧ k < 2010)) : zo_gbC Y c o k = W o k := by
  have u3 : ∀ (X : Nat → Nat → Int), o ≠ 3 ∧ o ≠ 62 ∧ o ≠ 63 → (zf_uf3_10 X).2 o k = X o k := fun X hX => by
    show zp_set (zp_set (zc_cp (zc_cp X 64 0 62 0 16) 65 0 63 0 416) 3 2 _) 3 3 _ o k = _
    rw [zp_set_ne (Or.inl hX.1), zp_set_ne (Or.inl hX.1), zc_cp_o hX.2.2, zc_cp_o hX.2.1]
  have e0 : zo_gbC Y c o k = (zf_kf2_9 Y).2 o k := (zp_set_ne (Or.inl (by omega))).trans (u3 _ (by omega))
  -- what the class kept ahead of orders
  have b1 : ∀ o' k' : Nat, (o' = 9 ∨ o' = 59 ∨ o' = 60 ∨ o' = 61 ∨ o' = 1 ∨ (30 ≤ o' ∧ o' < 40)) → zo_beC W o' k' = (zf_kf9_2 (zo_b0C W)).2 o' k' := fun o' k' ho' => by
    have g1 : zo_beC W o' k' = (zf_uf10_3 (zf_kf9_2 (zo_b0C W)).2).2 o' k' := (zp_set_ne (Or.inl (by omega))).trans (zp_set_ne (Or.inl (by omega)))
    exact g1.trans (zf_uf10_3_f (fun hm => by
      have h9 : o' = 10 ∨ o' = 64 ∨ o' = 65 := by simpa using hm
      omega))
  have b0 : ∀ o' k' : Nat, o' ≠ 11 → o' ≠ 0 → zo_b0C W o' k' = W o' k' := fun o' k' h1 h2 => (zp_set_ne (Or.inl h2)).trans (zp_set_ne (Or.inl h1))
  have k9 : ∀ k' : Nat, (k' = 3 ∨ k' = 4 ∨ k' = 5 ∨ k' = 6) → (zf_kf9_2 (zo_b0C W)).2 9 k' = W 2 k' := fun k' hk' => by
    rcases hk' with rfl | rfl | rfl | rfl
    · (unfold zf_kf9_2; dsimp only); exact ((zp_set_ne (Or.inr (by decide))).trans ((zp_set_ne (Or.inr (by decide))).trans ((zp_set_ne (Or.inr (by decide))).trans zp_set_self))).trans (b0 2 3 (by decide) (by decide))
    · (unfold zf_kf9_2; dsimp only); exact ((zp_set_ne (Or.inr (by decide))).trans ((zp_set_ne (Or.inr (by decide))).trans zp_set_self)).trans (b0 2 4 (by decide) (by decide))
    · (unfold zf_kf9_2; dsimp only); exact ((zp_set_ne (Or.inr (by decide))).trans zp_set_self).trans (b0 2 5 (by decide) (by decide))
    · (unfold zf_kf9_2; dsimp only); exact (zp_set_self).trans (b0 2 6 (by decide) (by decide))
  have a9 : ∀ (X : Nat → Nat → Int) (o' k' : Nat), o' ≠ 9 → (zf_kf9_2 X).2 o' k' = zc_cp (zc_cp (zc_cp X 50 0 59 0 6) 51 0 60 0 6) 52 0 61 0 10 o' k' := fun X o' k' h1 => (zp_set_ne (Or.inl h1)).trans ((zp_set_ne (Or.inl h1)).trans ((zp_set_ne (Or.inl h1)).trans (zp_set_ne (Or.inl h1))))
  have a2 : ∀ (X : Nat → Nat → Int) (o' k' : Nat), o' ≠ 2 → (zf_kf2_9 X).2 o' k' = zc_cp (zc_cp (zc_cp X 59 0 50 0 6) 60 0 51 0 6) 61 0 52 0 10 o' k' := fun X o' k' h1 => (zp_set_ne (Or.inl h1)).trans ((zp_set_ne (Or.inl h1)).trans ((zp_set_ne (Or.inl h1)).trans (zp_set_ne (Or.inl h1))))
  rw [e0]
  rcases ho with ho | ⟨rfl, hk⟩ | ⟨ho, hk1, hk2⟩ | ⟨rfl, hk1, hk2⟩
  · have g1 : (zf_kf2_9 Y).2 o k = Y o k := zf_kf2_9_f (fun hm => by
      have h9 : o = 2 ∨ o = 50 ∨ o = 51 ∨ o = 52 := by simpa using hm
      omega)
    have g2 : (zf_kf9_2 (zo_b0C W)).2 o k = zo_b0C W o k := zf_kf9_2_f (fun hm => by
      have h9 : o = 9 ∨ o = 59 ∨ o = 60 ∨ o = 61 := by simpa using hm
      omega)
    exact g1.trans ((h o k (by omega)).trans ((b1 o k (by omega)).trans (g2.trans (b0 o k (by omega) (by omega)))))
  · have g1 : (zf_kf2_9 Y).2 2 k = Y 9 k := by
      rcases hk with rfl | rfl | rfl | rfl
      · (unfold zf_kf2_9; dsimp only); exact (zp_set_ne (Or.inr (by decide))).trans ((zp_set_ne (Or.inr (by decide))).trans ((zp_set_ne (Or.inr (by decide))).trans zp_set_self))
      · (unfold zf_kf2_9; dsimp only); exact (zp_set_ne (Or.inr (by decide))).trans ((zp_set_ne (Or.inr (by decide))).trans zp_set_self)
      · (unfold zf_kf2_9; dsimp only); exact (zp_set_ne (Or.inr (by decide))).trans zp_set_self
      · (unfold zf_kf2_9; dsimp only); exact zp_set_self
    exact g1.trans ((h 9 k (by omega)).trans ((b1 9 k (by omega)).trans (k9 k hk)))
  · obtain ⟨i, rfl⟩ : ∃ i, k = 2000 + i := ⟨k - 2000, by omega⟩
    rcases ho with rfl | rfl
    · have g1 : (zf_kf2_9 Y).2 50 (2000 + i) = Y 59 (2000 + i) := by
        rw [a2 Y 50 _ (by decide), zc_cp_o (by decide), zc_cp_o (by decide)]
        refine (if_pos ⟨rfl, by omega, by omega⟩ : zc_cp Y 59 0 50 0 6 50 (2000 + i) = Y 59 (2000 + (0 + (2000 + i - (2000 + 0))))).trans ?_
        exact congrArg _ (by omega)
      have g2 : (zf_kf9_2 (zo_b0C W)).2 59 (2000 + i) = W 50 (2000 + i) := by
        rw [a9 (zo_b0C W) 59 _ (by decide), zc_cp_o (by decide), zc_cp_o (by decide)]
        refine (if_pos ⟨rfl, by omega, by omega⟩ : zc_cp (zo_b0C W) 50 0 59 0 6 59 (2000 + i) = zo_b0C W 50 (2000 + (0 + (2000 + i - (2000 + 0))))).trans ?_
        rw [b0 50 _ (by decide) (by decide)]
        exact congrArg _ (by omega)
      exact g1.trans ((h 59 _ (by omega)).trans ((b1 59 _ (by omega)).trans g2))
    · have g1 : (zf_kf2_9 Y).2 51 (2000 + i) = Y 60 (2000 + i) := by
        rw [a2 Y 51 _ (by decide), zc_cp_o (by decide)]
        refine (if_pos ⟨rfl, by omega, by omega⟩ : zc_cp (zc_cp Y 59 0 50 0 6) 60 0 51 0 6 51 (2000 + i) = zc_cp Y 59 0 50 0 6 60 (2000 + (0 + (2000 + i - (2000 + 0))))).trans ?_
        rw [zc_cp_o (by decide)]
        exact congrArg _ (by omega)
      have g2 : (zf_kf9_2 (zo_b0C W)).2 60 (2000 + i) = W 51 (2000 + i) := by
        rw [a9 (zo_b0C W) 60 _ (by decide), zc_cp_o (by decide)]
        refine (if_pos ⟨rfl, by omega, by omega⟩ : zc_cp (zc_cp (zo_b0C W) 50 0 59 0 6) 51 0 60 0 6 60 (2000 + i) = zc_cp (zo_b0C W) 50 0 59 0 6 51 (2000 + (0 + (2000 + i - (2000 + 0))))).trans ?_
        rw [zc_cp_o (by decide), b0 51 _ (by decide) (by decide)]
        exact congrArg _ (by omega)
      exact g1.trans ((h 60 _ (by omega)).trans ((b1 60 _ (by omega)).trans g2))
  · obtain ⟨i, rfl⟩ : ∃ i, k = 2000 + i := ⟨k - 2000, by omega⟩
    have g1 : (zf_kf2_9 Y).2 52 (2000 + i) = Y 61 (2000 + i) := by
      rw [a2 Y 52 _ (by decide)]
      refine (if_pos ⟨rfl, by omega, by omega⟩ : zc_cp (zc_cp (zc_cp Y 59 0 50 0 6) 60 0 51 0 6) 61 0 52 0 10 52 (2000 + i) = zc_cp (zc_cp Y 59 0 50 0 6) 60 0 51 0 6 61 (2000 + (0 + (2000 + i - (2000 + 0))))).trans ?_
      rw [zc_cp_o (by decide), zc_cp_o (by decide)]
      exact congrArg _ (by omega)
    have g2 : (zf_kf9_2 (zo_b0C W)).2 61 (2000 + i) = W 52 (2000 + i) := by
      rw [a9 (zo_b0C W) 61 _ (by decide)]
      refine (if_pos ⟨rfl, by omega, by omega⟩ : zc_cp (zc_cp (zc_cp (zo_b0C W) 50 0 59 0 6) 51 0 60 0 6) 52 0 61 0 10 61 (2000 + i) = zc_cp (zc_cp (zo_b0C W) 50 0 59 0 6) 51 0 60 0 6 52 (2000 + (0 + (2000 + i - (2000 + 0))))).trans ?_
      rw [zc_cp_o (by decide), zc_cp_o (by decide), b0 52 _ (by decide) (by decide)]
      exact congrArg _ (by omega)
    exact g1.trans ((h 61 _ (by omega)).trans ((b1 61 _ (by omega)).trans g2))
/-- the row's places are such -/
theorem zPl_p : ∀ j, j < 180 → ((zPl j).1 = 1 ∨ (30 ≤ (zPl j).1 ∧ (zPl j).1 < 40)) ∨ ((zPl j).1 = 2 ∧ ((zPl j).2 = 3 ∨ (zPl j).2 = 4 ∨ (zPl j).2 = 5 ∨ (zPl j).2 = 6)) ∨ (((zPl j).1 = 50 ∨ (zPl j).1 = 51) ∧ 2000 ≤ (zPl j).2 ∧ (zPl j).2 < 2006) ∨ ((zPl j).1 = 52 ∧ 2000 ≤ (zPl j).2 ∧ (zPl j).2 < 2010) := by decide +kernel
theorem zS_gb {V W X Y : Nat → Nat → Int} {nu c : Int} (h : zRr V W) (hX : zKr (zo_be V) X) (hY : zKc (zo_beC W) Y) : zRr (zo_gb X nu) (zo_gbC Y c) := fun j hj => by
  rw [zo_gb_3 hX, zRc_pl, zo_gbC_p hY (zPl_p j hj), ← zRc_pl (V := W) (j := j)]
  exact h j hj
theorem zRr_tell {V W : Nat → Nat → Int} {v : Int} (h : zRr V W) : zRr (zT_tell V v) W := zRr_v h (fun j _ => by
  unfold zT_tell
  split
  · rw [zp_set_ne (Or.inl (by decide)), zp_set_ne (Or.inl (by decide))]
  · rw [zp_set_ne (Or.inl (by decide))])
theorem zRr_rfs {V W : Nat → Nat → Int} {v : Int} (h : zRr V W) : zRr V (zf_rfs W v).2 := zRr_e h (fun _ _ => rfl) (fun o k ho => zf_rfs_f (fun hm => by
  have h9 : o = 0 ∨ o = 20 := by simpa using hm
  omega))
/-- orders: the same answer, the same row -/
theorem zS_all {V W : Nat → Nat → Int} {nu n1 np : Nat} {Lw L : List yK} (h : zRr V W) (hI : zRI V nu n1 np Lw) (hz : zRz V np) (hL : ∀ K ∈ L, zo_wf K ∧ ∀ x, K.2.2.2.2 = some x → yd_T x) : (zo_allC W n1 np Lw L).1 = (zo_all V nu n1 np Lw L).1 ∧ zRr (zo_all V nu n1 np Lw L).2 (zo_allC W n1 np Lw L).2 := by
  have hb := zS_be h
  have hIb := zRI_be hI
  have hzb : zRz (zo_be V) np := zRz_v (fun k => zo_be_o (by decide) (by decide) (by decide) (Or.inl (by decide))) hz
  obtain ⟨e1, ⟨r1, r2, r3⟩, -, -⟩ := zS_cs (i := 0) hL hb hIb hzb
  unfold zo_allC zo_all
  rw [e1]
  by_cases c : (zo_cs n1 np Lw L 0 (zo_be V)).1 < 0
  · rw [if_pos c, if_pos c]
    refine ⟨r2, zRr_tell ?_⟩
    exact zRr_e r1 (fun _ _ => rfl) (fun o k ho => zp_set_ne (Or.inl (by omega)))
  · rw [if_neg c, if_neg c]
    have hrv : ∀ X : Nat → Nat → Int, (zf_rfs X (-3)).1 = -3 := fun X => by
      unfold zf_rfs
      rw [if_neg (by decide), if_neg (by decide), if_neg (by decide), if_pos rfl]
    refine ⟨hrv _, ?_⟩
    dsimp only
    refine zRr_tell (zRr_rfs ?_)
    exact zRr_v (zS_gb h (zKr_cs hIb) zKc_cs) (fun j _ => zp_set_ne (Or.inl (by decide)))
