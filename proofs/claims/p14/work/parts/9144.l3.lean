/-! part l3: what holds of the reference where doings are done holds behind them -/
theorem zRI_rem {V : Nat → Nat → Int} {nu n1 np : Nat} {Lw : List yK} {s : Int} (h : zRI V nu n1 np Lw) : ∃ nu', zRI (zT_rem V s nu) nu' n1 np Lw := by
  obtain ⟨a1, ⟨a2, a3⟩, a4, a5, a6, a7, a8, a9⟩ := h
  have e8 : ∃ nu' : Nat, (zT_rem V s nu) 0 8 = (nu' : Int) ∧ nu' ≤ 16 := by
    unfold zT_rem
    split
    · exact ⟨16, zp_set_self, by decide⟩
    · exact ⟨nu + 1, zp_set_self, by omega⟩
  obtain ⟨nu', e1, e2⟩ := e8
  refine ⟨nu', zLV_rem a1, ⟨e1, e2⟩, zd_ok_c (fun j => zT_rem_3) a4, (zT_rem_0 (by decide)).trans a5, ?_, ?_, ?_, fun p hp => ?_⟩
  · rw [zT_rem_3]
    exact a6
  · rw [zT_rem_3]
    exact a7
  · rw [zT_rem_3]
    exact a8
  · rw [zT_rem_3]
    exact a9 p hp
/-- what may stand at j -/
noncomputable def zr_may (j : Nat) (v : Int) : Prop := (-2147483648 ≤ v ∧ v ≤ 2147483647) ∧ (j = 10 → -1 ≤ v ∧ v ≤ 12) ∧ (j = 5 → 0 ≤ v ∧ v ≤ 999) ∧ (j = 8 → 0 ≤ v ∧ v ≤ 9999) ∧ (11 ≤ j → j < 29 → 0 ≤ v ∧ v ≤ 9) ∧ (29 ≤ j → 0 ≤ v ∧ v ≤ 600)
theorem zRI_3 {V : Nat → Nat → Int} {nu n1 np j : Nat} {Lw : List yK} {v : Int} (hj : j < 39) (h0 : 5 ≤ j) (hv : zr_may j v) (h : zRI V nu n1 np Lw) : zRI (zp_set V 3 (2000 + j) v) nu n1 np Lw := by
  obtain ⟨a1, ⟨a2, a3⟩, ⟨d1, d2, d3, d4, d5, d6⟩, a5, a6, a7, a8, a9⟩ := h
  obtain ⟨v1, v2, v3, v4, v5, v6⟩ := hv
  have e : ∀ i, zp_set V 3 (2000 + j) v 3 (2000 + i) = if i = j then v else V 3 (2000 + i) := fun i => by
    by_cases c : i = j
    · rw [if_pos c, c, zp_set_self]
    · rw [if_neg c, zp_set_ne (Or.inr (by omega))]
  have e' : ∀ i, zRw (zp_set V 3 (2000 + j) v) i = if i = j then v else zRw V i := e
  refine ⟨zLV_3 (by omega) (by omega) v1 a1, ⟨(zp_set_ne (Or.inl (by decide))).trans a2, a3⟩, ⟨d1, d2, ?_, ?_, fun w hw => ?_, fun p hp => ?_⟩, (zp_set_ne (Or.inl (by decide))).trans a5, ?_, ?_, ?_, fun p hp => ?_⟩
  · rw [e', if_neg (by omega)]
    exact d3
  · rw [e', if_neg (by omega)]
    exact d4
  · have h5 := d5 w hw
    rw [e' (5 * w + 43), e' (5 * w + 40), e' (w + 29), if_neg (by omega), if_neg (by omega)]
    refine ⟨h5.1, h5.2.1, h5.2.2.1, h5.2.2.2.1, ?_⟩
    by_cases c : w + 29 = j
    · rw [if_pos c]
      exact v6 (by omega)
    · rw [if_neg c]
      exact h5.2.2.2.2
  · rw [e']
    by_cases c : 3 * p + 13 = j
    · rw [if_pos c]
      exact v5 (by omega) (by omega)
    · rw [if_neg c]
      exact d6 p hp
  · rw [e]
    by_cases c : 10 = j
    · rw [if_pos c]
      exact v2 c.symm
    · rw [if_neg c]
      exact a6
  · rw [e]
    by_cases c : 5 = j
    · rw [if_pos c]
      exact v3 c.symm
    · rw [if_neg c]
      exact a7
  · rw [e]
    by_cases c : 8 = j
    · rw [if_pos c]
      exact v4 c.symm
    · rw [if_neg c]
      exact a8
  · rw [e]
    by_cases c : 3 * p + 11 = j
    · rw [if_pos c]
      exact v5 (by omega) (by omega)
    · rw [if_neg c]
      exact a9 p hp
theorem zRI_wea {V : Nat → Nat → Int} {nu n1 np : Nat} {Lw : List yK} {t : Int} (h0 : 0 ≤ t) (h1 : t ≤ 12) (h : zRI V nu n1 np Lw) : zRI (zf_wea V Lw t).2 nu n1 np Lw := by
  unfold zf_wea
  split
  · refine zRI_3 (by decide) (by decide) ?_ (zRI_3 (by decide) (by decide) ?_ (zRI_3 (by decide) (by decide) ?_ h)) <;> refine ⟨?_, ?_, ?_, ?_, ?_, ?_⟩ <;> intros <;> omega
  · refine zRI_3 (by decide) (by decide) ?_ (zRI_3 (by decide) (by decide) ?_ (zRI_3 (by decide) (by decide) ?_ h)) <;> refine ⟨?_, ?_, ?_, ?_, ?_, ?_⟩ <;> intros <;> omega
theorem zRI_wnn {V : Nat → Nat → Int} {nu n1 np : Nat} {Lw : List yK} {t : Int} (h : zRI V nu n1 np Lw) : ∃ nu', zRI (zf_wnn V nu Lw t).2 nu' n1 np Lw := by
  obtain ⟨nu', h'⟩ := zRI_rem (s := 0) h
  unfold zf_wnn
  by_cases c : 0 ≤ t ∧ t ≤ 12
  · rw [if_pos c]
    split
    · exact ⟨nu, h⟩
    · split
      · exact ⟨nu, h⟩
      · split
        · exact ⟨nu', zRI_wea c.1 c.2 h'⟩
        · split
          · exact ⟨nu', zRI_wea c.1 c.2 h'⟩
          · exact ⟨nu, h⟩
  · rw [if_neg c]
    exact ⟨nu, h⟩
theorem zRI_mnn {V : Nat → Nat → Int} {nu n1 np : Nat} {Lw : List yK} {t : Int} (h : zRI V nu n1 np Lw) : ∃ nu', zRI (zf_mnn V nu t).2 nu' n1 np Lw := by
  obtain ⟨nu', h'⟩ := zRI_rem (s := 3) h
  unfold zf_mnn
  split
  · split
    · exact ⟨nu', by refine zRI_3 (by decide) (by decide) ?_ (zRI_3 (by decide) (by decide) ?_ h') <;> refine ⟨?_, ?_, ?_, ?_, ?_, ?_⟩ <;> intros <;> omega⟩
    · exact ⟨nu, h⟩
  · exact ⟨nu, h⟩
theorem zRI_kyn {V : Nat → Nat → Int} {nu n1 np : Nat} {Lw : List yK} {t s : Int} (h : zRI V nu n1 np Lw) : ∃ nu', zRI (zf_kyn V nu np Lw t s).2 nu' n1 np Lw := by
  obtain ⟨nu', h'⟩ := zRI_rem (s := 1) h
  have hd := h.2.2.1
  unfold zf_kyn
  by_cases c1 : 1 ≤ s ∧ s ≤ 9
  · rw [if_pos c1]
    by_cases c2 : 0 ≤ t ∧ t < (np : Int)
    · rw [if_pos c2]
      by_cases c3 : 9 < V 3 (2000 + (3 * t.toNat + 13)) + s
      · rw [if_pos c3]
        exact ⟨nu, h⟩
      · rw [if_neg c3]
        split
        · exact ⟨nu, h⟩
        · have hl : 0 ≤ V 3 (2000 + (3 * t.toNat + 13)) ∧ V 3 (2000 + (3 * t.toNat + 13)) ≤ 9 := hd.2.2.2.2.2 t.toNat (by omega)
          have hn := hd.2.1
          exact ⟨nu', by refine zRI_3 (by omega) (by omega) ?_ h'; refine ⟨?_, ?_, ?_, ?_, ?_, ?_⟩ <;> intros <;> omega⟩
    · rw [if_neg c2]
      exact ⟨nu, h⟩
  · rw [if_neg c1]
    exact ⟨nu, h⟩
theorem zRI_dn {V : Nat → Nat → Int} {nu n1 np : Nat} {Lw : List yK} {X : (Nat → Int) × (Nat → Int)} (hX : ∀ w, w < n1 → 0 ≤ X.1 w ∧ X.1 w ≤ 600) (h : zRI V nu n1 np Lw) : ∀ {w : Nat}, w ≤ n1 → zRI (zc_dn V X w) nu n1 np Lw
  | 0, _ => h
  | w + 1, hw => by
    have h1 := hX w (by omega)
    have h2 := h.2.2.1.1
    rw [zc_dn]
    refine zRI_3 (by omega) (by omega) ?_ (zRI_dn hX h (by omega))
    refine ⟨?_, ?_, ?_, ?_, ?_, ?_⟩ <;> intros <;> omega
theorem zRI_pl {V : Nat → Nat → Int} {nu n1 np : Nat} {Lw : List yK} (h : zRI V nu n1 np Lw) : ∀ {p : Nat}, p ≤ np → zRI (zc_pl V p) nu n1 np Lw
  | 0, _ => h
  | p + 1, hp => by
    have h1 := h.2.2.2.2.2.2.2 p (by omega)
    have h2 : 0 ≤ V 3 (2000 + (3 * p + 13)) ∧ V 3 (2000 + (3 * p + 13)) ≤ 9 := h.2.2.1.2.2.2.2.2 p (by omega)
    have h3 := h.2.2.1.2.1
    have i1 : 0 ≤ (if 0 < V 3 (2000 + (3 * p + 11)) then (1 : Int) else 0) ∧ (if 0 < V 3 (2000 + (3 * p + 11)) then (1 : Int) else 0) ≤ 1 ∧ (if 0 < V 3 (2000 + (3 * p + 11)) then (1 : Int) else 0) ≤ V 3 (2000 + (3 * p + 11)) := by
      split <;> omega
    have i2 : 0 ≤ (if 0 < V 3 (2000 + (3 * p + 13)) then (1 : Int) else 0) ∧ (if 0 < V 3 (2000 + (3 * p + 13)) then (1 : Int) else 0) ≤ 1 ∧ (if 0 < V 3 (2000 + (3 * p + 13)) then (1 : Int) else 0) ≤ V 3 (2000 + (3 * p + 13)) := by
      split <;> omega
    rw [zc_pl]
    refine zRI_3 (by omega) (by omega) ?_ (zRI_3 (by omega) (by omega) ?_ (zRI_pl h (by omega)))
    · refine ⟨?_, ?_, ?_, ?_, ?_, ?_⟩ <;> intros <;> omega
    · refine ⟨?_, ?_, ?_, ?_, ?_, ?_⟩ <;> intros <;> omega
theorem zRI_rnn {V : Nat → Nat → Int} {nu n1 np : Nat} {Lw : List yK} (h : zRI V nu n1 np Lw) : ∃ nu', zRI (zf_rnn V nu n1 np Lw).2 nu' n1 np Lw := by
  obtain ⟨nu', h'⟩ := zRI_rem (s := 2) h
  unfold zf_rnn
  by_cases c1 : V 3 (2000 + 10) = -1
  · rw [if_pos c1]
    exact ⟨nu, h⟩
  · rw [if_neg c1]
    by_cases c2 : ¬ V 3 (2000 + 5) = 999
    · rw [if_pos c2]
      refine ⟨nu', ?_⟩
      have hd := h'.2.2.2.2.2.1
      have hX : ∀ w, w < n1 → 0 ≤ (zd_X (zT_rem V 2 nu) n1 np Lw ((zT_rem V 2 nu) 3 (2000 + 10))).1 w ∧ (zd_X (zT_rem V 2 nu) n1 np Lw ((zT_rem V 2 nu) 3 (2000 + 10))).1 w ≤ 600 := fun w hw => zd_hrb h'.2.2.1 hw
      have e5 : (zT_rem V 2 nu) 3 (2000 + 5) = V 3 (2000 + 5) := zT_rem_3
      have h6 := zRI_pl (zRI_dn hX h' (Nat.le_refl _)) (Nat.le_refl np)
      show zRI (zp_set (zp_set _ 3 (2000 + 10) (-1)) 3 (2000 + 5) ((zT_rem V 2 nu) 3 (2000 + 5) + 1)) nu' n1 np Lw
      refine zRI_3 (by decide) (by decide) ?_ (zRI_3 (by decide) (by decide) ?_ h6)
      · refine ⟨?_, ?_, ?_, ?_, ?_, ?_⟩ <;> intros <;> omega
      · refine ⟨?_, ?_, ?_, ?_, ?_, ?_⟩ <;> intros <;> omega
    · rw [if_neg c2]
      exact ⟨nu, h⟩
theorem zRI_do {V : Nat → Nat → Int} {nu n1 np : Nat} {Lw : List yK} {k a b : Int} (h : zRI V nu n1 np Lw) : ∃ nu', zRI (zo_do V nu n1 np Lw k a b).2 nu' n1 np Lw := by
  unfold zo_do
  split
  · exact zRI_wnn h
  · split
    · exact zRI_kyn h
    · split
      · exact zRI_rnn h
      · exact zRI_mnn h
/-- the words' object stays: no doing writes what an order's run writes -/
theorem zRI_o {V : Nat → Nat → Int} {nu n1 np o k : Nat} {Lw : List yK} {v : Int} (ho : o ≠ 3) (hk : o ≠ 0 ∨ (k ≠ 8 ∧ k ≠ 47 ∧ k ≠ 20)) (h : zRI V nu n1 np Lw) : zRI (zp_set V o k v) nu n1 np Lw :=
  zRI_e (fun k' => zp_set_ne (Or.inl (fun e => ho e.symm))) (zp_set_ne (by omega)) (zp_set_ne (by omega)) (zp_set_ne (by omega)) h
theorem zRI_hd {V : Nat → Nat → Int} {nu n1 np : Nat} {Lw : List yK} (h : zRI V nu n1 np Lw) : zRI (zo_hd V) nu n1 np Lw :=
  zRI_e (fun k => zo_hd_o (by decide) (Or.inl (by decide))) (zo_hd_o (by decide) (Or.inr (by decide))) (zo_hd_o (by decide) (Or.inr (by decide))) (zo_hd_o (by decide) (Or.inr (by decide))) h
theorem zRI_run {V : Nat → Nat → Int} {nu n1 np : Nat} {Lw : List yK} {K : yK} (h : zRI V nu n1 np Lw) : ∃ nu', zRI (zo_run V nu n1 np Lw K).2 nu' n1 np Lw := by
  have hh := zRI_hd h
  unfold zo_run
  split
  · split
    · rename_i a b _ _
      obtain ⟨nu', h'⟩ := zRI_do (k := K.1) (a := a) (b := b) hh
      split
      · exact ⟨nu', h'⟩
      · exact ⟨nu', zRI_o (by decide) (Or.inr (by decide)) (zRI_o (by decide) (Or.inr (by decide)) h')⟩
    · exact ⟨nu, hh⟩
  · exact ⟨nu, hh⟩
/-- what an order leaves -/
theorem zo_run_k {V : Nat → Nat → Int} {nu n1 np : Nat} {Lw : List yK} {K : yK} {o k : Nat} (h3 : o ≠ 3) (h6 : o ≠ 6) (h7 : o ≠ 7) (h36 : o ≠ 36) (h0 : o ≠ 0 ∨ (k ≠ 8 ∧ k ≠ 57 ∧ k ≠ 58 ∧ k ≠ 60)) : (zo_run V nu n1 np Lw K).2 o k = V o k := by
  have hh : zo_hd V o k = V o k := zo_hd_o h36 (by omega)
  have hd : ∀ a b : Int, (zo_do (zo_hd V) nu n1 np Lw K.1 a b).2 o k = V o k := fun a b => (zo_kp_do o k h3 h6 h7 (by omega)).trans hh
  unfold zo_run
  split
  · split
    · split
      · exact hd _ _
      · show zp_set (zp_set _ 0 58 _) 0 57 _ o k = _
        rw [zp_set_ne (by omega), zp_set_ne (by omega)]
        exact hd _ _
    · exact hh
  · exact hh
theorem zo_hd_60 {V : Nat → Nat → Int} {z : Int} : zo_hd (zp_set V 0 60 z) = zo_hd V := by
  funext o k
  have e3 : ∀ k, zp_set V 0 60 z 3 k = V 3 k := fun k => zp_set_ne (Or.inl (by decide))
  have e57 : zp_set V 0 60 z 0 57 = V 0 57 := zp_set_ne (Or.inr (by decide))
  have e58 : zp_set V 0 60 z 0 58 = V 0 58 := zp_set_ne (Or.inr (by decide))
  unfold zo_hd
  rw [e3, e3, e3, e57, e58]
  by_cases c : o = 0 ∧ k = 60
  · rw [c.1, c.2, zp_set_self, zp_set_self]
  · have c1 : o ≠ 0 ∨ k ≠ 60 := by omega
    rw [zp_set_ne c1, zp_set_ne c1]
    by_cases c2 : o = 36
    · subst c2
      unfold zp_set
      simp only [show ¬ ((36 : Nat) = 0 ∧ k = 60) from fun h => absurd h.1 (by decide), if_false]
    · rw [zp_set_ne (Or.inl c2), zp_set_ne (Or.inl c2), zp_set_ne (Or.inl c2), zp_set_ne (Or.inl c2), zp_set_ne (Or.inl c2), zp_set_ne (Or.inl c2), zp_set_ne (Or.inl c2), zp_set_ne (Or.inl c2), zp_set_ne (Or.inl c2), zp_set_ne (Or.inl c2)]
      exact zp_set_ne c1
theorem zo_run_60 {V : Nat → Nat → Int} {nu n1 np : Nat} {Lw : List yK} {K : yK} {z : Int} : zo_run (zp_set V 0 60 z) nu n1 np Lw K = zo_run V nu n1 np Lw K := by
  have e57 : zp_set V 0 60 z 0 57 = V 0 57 := zp_set_ne (Or.inr (by decide))
  have e58 : zp_set V 0 60 z 0 58 = V 0 58 := zp_set_ne (Or.inr (by decide))
  unfold zo_run
  rw [zo_hd_60, e57, e58]
