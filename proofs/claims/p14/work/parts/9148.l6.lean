/-! part l6: the class: what holds where doings are done holds behind them; orders' words -/
/-- what holds of the class where doings are done -/
noncomputable def zCI (A : Nat → Nat) (Y : List (Nat × Nat)) (F : List (Nat × Nat × Nat)) (V : Nat → Nat → Int) (n1 np : Nat) (Lw : List yK) : Prop := zLF A Y F V Lw ∧ (n1 ≤ 10 ∧ np ≤ 6 ∧ V 1 3 = (n1 : Int) ∧ V 1 1 = (np : Int)) ∧ (∀ w, w < n1 → -1 ≤ V 36 (2000 + w) ∧ V 36 (2000 + w) < (n1 : Int) ∧ 0 ≤ V 33 (2000 + w) ∧ V 33 (2000 + w) ≤ 600 ∧ 0 ≤ V 52 (2000 + w) ∧ V 52 (2000 + w) ≤ V 33 (2000 + w)) ∧ (∀ p, p < np → 0 ≤ V 51 (2000 + p) ∧ V 51 (2000 + p) ≤ 9) ∧ (-1 ≤ V 2 5 ∧ V 2 5 ≤ 12) ∧ (0 ≤ V 2 6 ∧ V 2 6 ≤ 999) ∧ (0 ≤ V 2 3 ∧ V 2 3 ≤ 9999) ∧ ∀ j, j < 6 → 0 ≤ V 50 (2000 + j) ∧ V 50 (2000 + j) ≤ 9
theorem zCI_ok {A : Nat → Nat} {Y : List (Nat × Nat)} {F : List (Nat × Nat × Nat)} {V : Nat → Nat → Int} {n1 np : Nat} {Lw : List yK} (h : zCI A Y F V n1 np Lw) : zc_ok V 2 50 n1 np := by
  obtain ⟨-, ⟨a1, a2, a3, a4⟩, a5, a6, -⟩ := h
  have e40 : ∀ w, w < n1 → zRc V 2 50 (5 * w + 40) = V 33 (2000 + w) := fun w hw => zRc_w (show w < 10 by omega) (show 1 < 5 by decide)
  have e43 : ∀ w, w < n1 → zRc V 2 50 (5 * w + 43) = V 36 (2000 + w) := fun w hw => zRc_w (show w < 10 by omega) (show 4 < 5 by decide)
  have e29 : ∀ w, w < n1 → zRc V 2 50 (w + 29) = V 52 (2000 + w) := fun w hw => zRc_d (show w < 10 by omega)
  refine ⟨⟨a1, a2, a3, a4, fun w hw => ?_, fun p hp => ?_⟩, fun w hw => ?_⟩
  · have h5 := a5 w hw
    rw [e43 w hw, e40 w hw, e29 w hw]
    exact ⟨h5.1, h5.2.1, h5.2.2.1, h5.2.2.2.1, h5.2.2.2.2.1, by omega⟩
  · rw [zRc_l (show p < 6 by omega)]
    exact a6 p hp
  · rw [e29 w hw, e40 w hw]
    exact (a5 w hw).2.2.2.2.2
theorem zCI_e {A : Nat → Nat} {Y : List (Nat × Nat)} {F : List (Nat × Nat × Nat)} {V V' : Nat → Nat → Int} {n1 np : Nat} {Lw : List yK} (hV : ∀ o k, (o = 1 ∨ o = 2 ∨ o = 33 ∨ o = 36 ∨ o = 40 ∨ o = 50 ∨ o = 51 ∨ o = 52 ∨ 100 ≤ o) → V' o k = V o k) (h : zCI A Y F V n1 np Lw) : zCI A Y F V' n1 np Lw := by
  obtain ⟨a0, a1, a5, a6, a7, a8, a9, a10⟩ := h
  refine ⟨zLF_f a0 (fun o k ho => hV o k (by omega)), ?_, fun w hw => ?_, fun p hp => ?_, ?_, ?_, ?_, fun j hj => ?_⟩
  · rw [hV 1 3 (by omega), hV 1 1 (by omega)]
    exact a1
  · rw [hV 36 _ (by omega), hV 33 _ (by omega), hV 52 _ (by omega)]
    exact a5 w hw
  · rw [hV 51 _ (by omega)]
    exact a6 p hp
  · rw [hV 2 5 (by omega)]
    exact a7
  · rw [hV 2 6 (by omega)]
    exact a8
  · rw [hV 2 3 (by omega)]
    exact a9
  · rw [hV 50 _ (by omega)]
    exact a10 j hj
/-- a number of the going is set -/
theorem zCI_2 {A : Nat → Nat} {Y : List (Nat × Nat)} {F : List (Nat × Nat × Nat)} {V : Nat → Nat → Int} {n1 np k : Nat} {v : Int} {Lw : List yK} (hv : (k = 5 → -1 ≤ v ∧ v ≤ 12) ∧ (k = 6 → 0 ≤ v ∧ v ≤ 999) ∧ (k = 3 → 0 ≤ v ∧ v ≤ 9999)) (h : zCI A Y F V n1 np Lw) : zCI A Y F (zp_set V 2 k v) n1 np Lw := by
  obtain ⟨a0, a1, a5, a6, a7, a8, a9, a10⟩ := h
  have e : ∀ o k', o ≠ 2 → zp_set V 2 k v o k' = V o k' := fun o k' ho => zp_set_ne (Or.inl ho)
  have e2 : ∀ k', zp_set V 2 k v 2 k' = if k' = k then v else V 2 k' := fun k' => by
    by_cases c : k' = k
    · rw [if_pos c, c, zp_set_self]
    · rw [if_neg c, zp_set_ne (Or.inr c)]
  obtain ⟨v1, v2, v3⟩ := hv
  refine ⟨zLF_f a0 (fun o k ho => e o k (by omega)), ?_, fun w hw => ?_, fun p hp => ?_, ?_, ?_, ?_, fun j hj => ?_⟩
  · rw [e 1 3 (by decide), e 1 1 (by decide)]
    exact a1
  · rw [e 36 _ (by decide), e 33 _ (by decide), e 52 _ (by decide)]
    exact a5 w hw
  · rw [e 51 _ (by decide)]
    exact a6 p hp
  · rw [e2]
    by_cases c : 5 = k
    · rw [if_pos c]
      exact v1 c.symm
    · rw [if_neg c]
      exact a7
  · rw [e2]
    by_cases c : 6 = k
    · rw [if_pos c]
      exact v2 c.symm
    · rw [if_neg c]
      exact a8
  · rw [e2]
    by_cases c : 3 = k
    · rw [if_pos c]
      exact v3 c.symm
    · rw [if_neg c]
      exact a9
  · rw [e 50 _ (by decide)]
    exact a10 j hj
theorem zCI_kep {A : Nat → Nat} {Y : List (Nat × Nat)} {F : List (Nat × Nat × Nat)} {V : Nat → Nat → Int} {n1 np : Nat} {s : Int} {Lw : List yK} (h : zCI A Y F V n1 np Lw) : zCI A Y F (zf_kep3 V s).2 n1 np Lw :=
  zCI_e (fun o k ho => zf_kep3_f (fun hm => by
    have h9 : o = 3 ∨ o = 62 ∨ o = 63 := by simpa using hm
    omega)) h
theorem zCI_wby {A : Nat → Nat} {Y : List (Nat × Nat)} {F : List (Nat × Nat × Nat)} {V : Nat → Nat → Int} {n1 np : Nat} {t s : Int} {Lw : List yK} (h0 : 0 ≤ t) (h1 : t ≤ 12) (hs : 0 ≤ s) (h : zCI A Y F V n1 np Lw) : zCI A Y F (zf_wby2 V t s).2 n1 np Lw := by
  have hl := h.2.2.2.2.2.2.1
  have hw : zCI A Y F (zf_wea2 V s).2 n1 np Lw := zCI_2 ⟨fun e => absurd e (by decide), fun e => absurd e (by decide), fun _ => by omega⟩ h
  unfold zf_wby2
  split
  · exact zCI_2 ⟨fun _ => ⟨by omega, h1⟩, fun e => absurd e (by decide), fun e => absurd e (by decide)⟩ (zCI_2 ⟨fun e => absurd e (by decide), fun e => absurd e (by decide), fun e => absurd e (by decide)⟩ hw)
  · exact zCI_2 ⟨fun _ => ⟨by decide, by decide⟩, fun e => absurd e (by decide), fun e => absurd e (by decide)⟩ (zCI_2 ⟨fun e => absurd e (by decide), fun e => absurd e (by decide), fun e => absurd e (by decide)⟩ hw)
theorem zf_mot1_2 {V : Nat → Nat → Int} : (zf_mot1 V).2 = V := by
  unfold zf_mot1
  split <;> rfl
theorem zCI_wn {A : Nat → Nat} {Y : List (Nat × Nat)} {F : List (Nat × Nat × Nat)} {V : Nat → Nat → Int} {n1 np : Nat} {t : Int} {Lw : List yK} (h : zCI A Y F V n1 np Lw) : zCI A Y F (zf_wnbc V Lw t).2 n1 np Lw := by
  unfold zf_wnbc
  by_cases c : 0 ≤ t ∧ t ≤ 12
  · rw [if_pos c, zf_mot1_2]
    split
    · exact h
    · split
      · exact h
      · split
        · exact zCI_wby c.1 c.2 (zy_web c.1 c.2).1 (zCI_kep h)
        · exact h
  · rw [if_neg c]
    exact h
theorem zCI_mb {A : Nat → Nat} {Y : List (Nat × Nat)} {F : List (Nat × Nat × Nat)} {V : Nat → Nat → Int} {n1 np : Nat} {t : Int} {Lw : List yK} (h : zCI A Y F V n1 np Lw) : zCI A Y F (zf_mbyc V t).2 n1 np Lw := by
  have hl := h.2.2.2.2.2.2.1
  unfold zf_mbyc
  split
  · split
    · exact zCI_2 ⟨fun e => absurd e (by decide), fun e => absurd e (by decide), fun e => absurd e (by decide)⟩ (zCI_2 ⟨fun e => absurd e (by decide), fun e => absurd e (by decide), fun _ => by omega⟩ (zCI_kep h))
    · exact h
  · exact h
theorem zCI_51 {A : Nat → Nat} {Y : List (Nat × Nat)} {F : List (Nat × Nat × Nat)} {V : Nat → Nat → Int} {n1 np j : Nat} {v : Int} {Lw : List yK} (hv : 0 ≤ v ∧ v ≤ 9) (h : zCI A Y F V n1 np Lw) : zCI A Y F (zp_set V 51 (2000 + j) v) n1 np Lw := by
  obtain ⟨a0, a1, a5, a6, a7, a8, a9, a10⟩ := h
  have e : ∀ o k', o ≠ 51 → zp_set V 51 (2000 + j) v o k' = V o k' := fun o k' ho => zp_set_ne (Or.inl ho)
  refine ⟨zLF_f a0 (fun o k ho => e o k (by omega)), ?_, fun w hw => ?_, fun p hp => ?_, ?_, ?_, ?_, fun i hi => ?_⟩
  · rw [e 1 3 (by decide), e 1 1 (by decide)]
    exact a1
  · rw [e 36 _ (by decide), e 33 _ (by decide), e 52 _ (by decide)]
    exact a5 w hw
  · by_cases c : p = j
    · rw [c, zp_set_self]
      exact hv
    · rw [zp_set_ne (Or.inr (by omega))]
      exact a6 p hp
  · rw [e 2 5 (by decide)]
    exact a7
  · rw [e 2 6 (by decide)]
    exact a8
  · rw [e 2 3 (by decide)]
    exact a9
  · rw [e 50 _ (by decide)]
    exact a10 i hi
theorem zCI_50 {A : Nat → Nat} {Y : List (Nat × Nat)} {F : List (Nat × Nat × Nat)} {V : Nat → Nat → Int} {n1 np j : Nat} {v : Int} {Lw : List yK} (hv : 0 ≤ v ∧ v ≤ 9) (h : zCI A Y F V n1 np Lw) : zCI A Y F (zp_set V 50 (2000 + j) v) n1 np Lw := by
  obtain ⟨a0, a1, a5, a6, a7, a8, a9, a10⟩ := h
  have e : ∀ o k', o ≠ 50 → zp_set V 50 (2000 + j) v o k' = V o k' := fun o k' ho => zp_set_ne (Or.inl ho)
  refine ⟨zLF_f a0 (fun o k ho => e o k (by omega)), ?_, fun w hw => ?_, fun p hp => ?_, ?_, ?_, ?_, fun i hi => ?_⟩
  · rw [e 1 3 (by decide), e 1 1 (by decide)]
    exact a1
  · rw [e 36 _ (by decide), e 33 _ (by decide), e 52 _ (by decide)]
    exact a5 w hw
  · rw [e 51 _ (by decide)]
    exact a6 p hp
  · rw [e 2 5 (by decide)]
    exact a7
  · rw [e 2 6 (by decide)]
    exact a8
  · rw [e 2 3 (by decide)]
    exact a9
  · by_cases c : i = j
    · rw [c, zp_set_self]
      exact hv
    · rw [zp_set_ne (Or.inr (by omega))]
      exact a10 i hi
theorem zCI_ky {A : Nat → Nat} {Y : List (Nat × Nat)} {F : List (Nat × Nat × Nat)} {V : Nat → Nat → Int} {n1 np : Nat} {t s : Int} {Lw : List yK} (h : zCI A Y F V n1 np Lw) : zCI A Y F (zf_keybc V Lw t s).2 n1 np Lw := by
  have h6 := h.2.2.2.1
  have h1 := h.2.1
  unfold zf_keybc
  by_cases c1 : 1 ≤ s ∧ s ≤ 9
  · rw [if_pos c1]
    by_cases c2 : 0 ≤ t ∧ t < V 1 1 ∧ t < 6
    · rw [if_pos c2]
      by_cases c3 : V 51 (2000 + t.toNat) + s ≤ 9
      · rw [if_pos c3]
        split
        · have h7 := h6 t.toNat (by omega)
          exact zCI_51 ⟨by omega, c3⟩ (zCI_kep h)
        · exact h
      · rw [if_neg c3]
        exact h
    · rw [if_neg c2]
      exact h
  · rw [if_neg c1]
    exact h
theorem zCI_put {A : Nat → Nat} {Y : List (Nat × Nat)} {F : List (Nat × Nat × Nat)} {V : Nat → Nat → Int} {n1 np : Nat} {X : (Nat → Int) × (Nat → Int)} {Lw : List yK} (hX : ∀ w, w < n1 → 0 ≤ X.1 w ∧ X.1 w ≤ V 33 (2000 + w)) (h : zCI A Y F V n1 np Lw) : zCI A Y F (zc_put V 52 X) n1 np Lw := by
  obtain ⟨a0, a1, a5, a6, a7, a8, a9, a10⟩ := h
  have e : ∀ o k', o ≠ 52 → zc_put V 52 X o k' = V o k' := fun o k' ho => zc_put_o ho
  refine ⟨zLF_f a0 (fun o k ho => e o k (by omega)), ?_, fun w hw => ?_, fun p hp => ?_, ?_, ?_, ?_, fun i hi => ?_⟩
  · rw [e 1 3 (by decide), e 1 1 (by decide)]
    exact a1
  · have h52 : zc_put V 52 X 52 (2000 + w) = X.1 w := by
      unfold zc_put
      rw [if_pos ⟨rfl, by omega, by omega⟩, show 2000 + w - 2000 = w by omega]
    rw [e 36 _ (by decide), e 33 _ (by decide), h52]
    have h5 := a5 w hw
    have h7 := hX w hw
    exact ⟨h5.1, h5.2.1, h5.2.2.1, h5.2.2.2.1, h7.1, h7.2⟩
  · rw [e 51 _ (by decide)]
    exact a6 p hp
  · rw [e 2 5 (by decide)]
    exact a7
  · rw [e 2 6 (by decide)]
    exact a8
  · rw [e 2 3 (by decide)]
    exact a9
  · rw [e 50 _ (by decide)]
    exact a10 i hi
theorem zCI_set50 {A : Nat → Nat} {Y : List (Nat × Nat)} {F : List (Nat × Nat × Nat)} {V : Nat → Nat → Int} {n1 np j : Nat} {v w : Int} {Lw : List yK} (h0 : 0 ≤ w ∧ w ≤ 9) (hv : v = max 0 (w - 1)) (h : zCI A Y F V n1 np Lw) : zCI A Y F (zp_set V 50 (2000 + j) v) n1 np Lw := zCI_50 ⟨by omega, by omega⟩ h
/-- a little that is no one's may be anything -/
theorem zCI_51n {A : Nat → Nat} {Y : List (Nat × Nat)} {F : List (Nat × Nat × Nat)} {V : Nat → Nat → Int} {n1 np j : Nat} {v w : Int} {Lw : List yK} (h0 : j < np → 0 ≤ w ∧ w ≤ 9) (hv : v = max 0 (w - 1)) (h : zCI A Y F V n1 np Lw) : zCI A Y F (zp_set V 51 (2000 + j) v) n1 np Lw := by
  by_cases hj : j < np
  · have := h0 hj
    exact zCI_51 ⟨by omega, by omega⟩ h
  · obtain ⟨a0, a1, a5, a6, a7, a8, a9, a10⟩ := h
    have e : ∀ o k', o ≠ 51 → zp_set V 51 (2000 + j) v o k' = V o k' := fun o k' ho => zp_set_ne (Or.inl ho)
    refine ⟨zLF_f a0 (fun o k ho => e o k (by omega)), ?_, fun w hw => ?_, fun p hp => ?_, ?_, ?_, ?_, fun i hi => ?_⟩
    · rw [e 1 3 (by decide), e 1 1 (by decide)]
      exact a1
    · rw [e 36 _ (by decide), e 33 _ (by decide), e 52 _ (by decide)]
      exact a5 w hw
    · rw [zp_set_ne (Or.inr (by omega))]
      exact a6 p hp
    · rw [e 2 5 (by decide)]
      exact a7
    · rw [e 2 6 (by decide)]
      exact a8
    · rw [e 2 3 (by decide)]
      exact a9
    · rw [e 50 _ (by decide)]
      exact a10 i hi
theorem zCI_slp {A : Nat → Nat} {Y : List (Nat × Nat)} {F : List (Nat × Nat × Nat)} {V : Nat → Nat → Int} {n1 np : Nat} {Lw : List yK} (h9 : V 2 6 < 999) (h : zCI A Y F V n1 np Lw) : zCI A Y F (zf_slp2 V).2 n1 np Lw := by
  have h50 := h.2.2.2.2.2.2.2
  have h51 := h.2.2.2.1
  have h26 := h.2.2.2.2.2.1
  refine zCI_51n (fun hj => h51 5 hj) rfl (zCI_set50 (h50 5 (by decide)) rfl (zCI_51n (fun hj => h51 4 hj) rfl (zCI_set50 (h50 4 (by decide)) rfl (zCI_51n (fun hj => h51 3 hj) rfl (zCI_set50 (h50 3 (by decide)) rfl (zCI_51n (fun hj => h51 2 hj) rfl (zCI_set50 (h50 2 (by decide)) rfl (zCI_51n (fun hj => h51 1 hj) rfl (zCI_set50 (h50 1 (by decide)) rfl (zCI_51n (fun hj => h51 0 hj) rfl (zCI_set50 (h50 0 (by decide)) rfl (zCI_2 ⟨fun _ => ⟨by decide, by decide⟩, fun e => absurd e (by decide), fun e => absurd e (by decide)⟩ (zCI_2 ⟨fun e => absurd e (by decide), fun _ => ⟨by omega, by omega⟩, fun e => absurd e (by decide)⟩ h)))))))))))))
theorem zCI_rd {A : Nat → Nat} {Y : List (Nat × Nat)} {F : List (Nat × Nat × Nat)} {V : Nat → Nat → Int} {n1 np : Nat} {Lw : List yK} (h : zCI A Y F V n1 np Lw) : zCI A Y F (zf_rudc V n1 np Lw).2 n1 np Lw := by
  unfold zf_rudc
  split
  · exact h
  · split
    · rename_i h9
      have hk := zCI_kep (s := 2) h
      have hok := zCI_ok hk
      have e33 : ∀ k, (zf_kep3 V 2).2 33 k = V 33 k := fun k => zf_kep3_f (by decide)
      have e26 : (zf_kep3 V 2).2 2 6 = V 2 6 := zf_kep3_f (by decide)
      refine zCI_slp ?_ (zCI_put (fun w hw => ?_) hk)
      · rw [zc_put_o (by decide), e26]
        exact h9
      · have h1 : zRc (zf_kep3 V 2).2 2 50 (5 * w + 40) = (zf_kep3 V 2).2 33 (2000 + w) := zRc_w (show w < 10 by have := h.2.1.1; omega) (show 1 < 5 by decide)
        have h2 := zd_hrb (sp := zd_sp (zRc (zf_kep3 V 2).2 2 50) Lw (V 2 5)) (ru := zd_ru (zRc (zf_kep3 V 2).2 2 50) Lw (V 2 5)) (t := V 2 5) hok.1 (h := 24) hw
        have h3 := (zc_ibh (npξ := np) (sp := zd_sp (zRc (zf_kep3 V 2).2 2 50) Lw (V 2 5)) (ru := zd_ru (zRc (zf_kep3 V 2).2 2 50) Lw (V 2 5)) (t := V 2 5) (fun w hw => (hok.1.2.2.2.2.1 w hw).2.2.1) hok.2 (h := 24) w hw).1
        rw [h1] at h3
        exact ⟨h2.1, h3⟩
    · exact h
/-- a clause's doing in the class -/
noncomputable def zo_doC (V : Nat → Nat → Int) (n1 np : Nat) (Lw : List yK) (h a b : Int) : Int × (Nat → Nat → Int) := if h = 0 then zf_wnbc V Lw a else if h = 1 then zf_keybc V Lw a b else if h = 2 then zf_rudc V n1 np Lw else zf_mbyc V a
theorem zCI_do {A : Nat → Nat} {Y : List (Nat × Nat)} {F : List (Nat × Nat × Nat)} {V : Nat → Nat → Int} {n1 np : Nat} {k a b : Int} {Lw : List yK} (h : zCI A Y F V n1 np Lw) : zCI A Y F (zo_doC V n1 np Lw k a b).2 n1 np Lw := by
  unfold zo_doC
  split
  · exact zCI_wn h
  · split
    · exact zCI_ky h
    · split
      · exact zCI_rd h
      · exact zCI_mb h
/-- the doings leave the class's own numbers -/
theorem zo_doC_0 {V : Nat → Nat → Int} {n1 np : Nat} {k a b : Int} {Lw : List yK} {j : Nat} : (zo_doC V n1 np Lw k a b).2 0 j = V 0 j := by
  unfold zo_doC
  split
  · exact zf_wnbc_f (by decide)
  · split
    · exact zf_keybc_f (by decide)
    · split
      · exact zf_rudc_f (by decide)
      · exact zf_mbyc_f (by decide)
/-- orders' words' worth in the class -/
noncomputable def zo_NC (V : Nat → Nat → Int) : Nat → Int := fun j => if j = 1 then V 2 6 else if j = 2 then V 2 5 else if j = 3 then V 2 3 else if j = 4 then V 0 13 else V 0 14
noncomputable def zo_eC (V : Nat → Nat → Int) : Int → Int → Int := zo_en (zRc V 2 50) (zo_NC V)
theorem zo_eC_w {V : Nat → Nat → Int} {n1 np : Nat} (h1 : n1 ≤ 10) (h2 : np ≤ 6) (h3 : V 1 3 = (n1 : Int)) (h4 : V 1 1 = (np : Int)) {s v : Int} (h : yl_ok true s v) : zo_eC V (yl_o true s v) (yl_a true s v) = if s = 1 then v else zo_wC V v.toNat := by
  have r0 : zRc V 2 50 0 = V 1 1 := rfl
  have r1 : zRc V 2 50 1 = V 1 3 := rfl
  unfold zo_eC
  rcases h with ⟨e1, e2, e3⟩ | ⟨e1, e2, e3⟩
  · rw [if_pos e1]
    unfold yl_o yl_a zo_en
    rw [if_pos e1, if_pos e1, if_pos (by decide)]
  · rw [if_neg (by omega)]
    unfold yl_o yl_a
    have hs : ¬ s = 1 := by omega
    rw [if_neg hs, if_neg hs]
    have e3 : v < 21 := e3
    by_cases c1 : 11 ≤ v
    · have k1 : true = true ∧ 11 ≤ v := ⟨rfl, c1⟩
      rw [if_pos k1, if_pos k1]
      unfold zo_en
      rw [if_neg (show ¬ ((7 : Int) ≤ 0) by decide), if_neg (show ¬ ((7 : Int) < 6) by decide), if_neg (show ¬ ((7 : Int) = 6) by decide)]
      obtain ⟨i, hi⟩ : ∃ i : Nat, v = ((11 + i : Nat) : Int) := ⟨(v - 11).toNat, by omega⟩
      have hi10 : i < 10 := by omega
      have ev : v.toNat = 11 + i := by omega
      have ei : v - 11 = (i : Int) := by omega
      rw [ev, zo_wC_w hi10, ei, r1, Int.toNat_natCast]
      by_cases c2 : (i : Int) < V 1 3
      · rw [if_pos c2, if_pos ⟨by omega, c2⟩, show 5 * i + 40 = 5 * i + (39 + 1) from rfl, zRc_w hi10 (by decide), zRc_d hi10]
      · rw [if_neg c2, if_neg (fun z => c2 z.2)]
    · have k1 : ¬ (true = true ∧ 11 ≤ v) := fun z => c1 z.2
      rw [if_neg k1, if_neg k1]
      by_cases c2 : 5 ≤ v
      · have k2 : true = true ∧ 5 ≤ v := ⟨rfl, c2⟩
        rw [if_pos k2, if_pos k2]
        unfold zo_en
        rw [if_neg (show ¬ ((6 : Int) ≤ 0) by decide), if_neg (show ¬ ((6 : Int) < 6) by decide), if_pos (show (6 : Int) = 6 from rfl)]
        obtain ⟨i, hi⟩ : ∃ i : Nat, v = ((5 + i : Nat) : Int) := ⟨(v - 5).toNat, by omega⟩
        have hi6 : i < 6 := by omega
        have ev : v.toNat = 5 + i := by omega
        have ei : v - 5 = (i : Int) := by omega
        rw [ev, zo_wC_p hi6, ei, r0, Int.toNat_natCast]
        by_cases c3 : (i : Int) < V 1 1
        · rw [if_pos c3, if_pos ⟨by omega, c3⟩, zRc_l hi6]
        · rw [if_neg c3, if_neg (fun z => c3 z.2)]
      · have k2 : ¬ (true = true ∧ 5 ≤ v) := fun z => c2 z.2
        rw [if_neg k2, if_neg k2]
        have h5 : v = 0 ∨ v = 1 ∨ v = 2 ∨ v = 3 ∨ v = 4 := by omega
        rcases h5 with rfl | rfl | rfl | rfl | rfl <;> rfl
theorem zo_wC_b {A : Nat → Nat} {Y : List (Nat × Nat)} {F : List (Nat × Nat × Nat)} {V : Nat → Nat → Int} {n1 np : Nat} {Lw : List yK} (h : zCI A Y F V n1 np Lw) (h4 : -2147483648 ≤ V 0 13 ∧ V 0 13 ≤ 2147483647) (h5 : -2147483648 ≤ V 0 14 ∧ V 0 14 ≤ 2147483647) : ∀ j, j < 21 → -2147483648 ≤ zo_wC V j ∧ zo_wC V j ≤ 2147483647 := by
  obtain ⟨-, ⟨n1b, npb, n13, n11⟩, a5, a6, a7, a8, a9, -⟩ := h
  intro j hj
  by_cases c0 : j < 5
  · have hj5 : j = 0 ∨ j = 1 ∨ j = 2 ∨ j = 3 ∨ j = 4 := by omega
    rcases hj5 with rfl | rfl | rfl | rfl | rfl
    · show -2147483648 ≤ V 2 6 ∧ V 2 6 ≤ 2147483647
      omega
    · show -2147483648 ≤ V 2 5 ∧ V 2 5 ≤ 2147483647
      omega
    · show -2147483648 ≤ V 2 3 ∧ V 2 3 ≤ 2147483647
      omega
    · show -2147483648 ≤ V 0 13 ∧ V 0 13 ≤ 2147483647
      omega
    · show -2147483648 ≤ V 0 14 ∧ V 0 14 ≤ 2147483647
      omega
  · by_cases c1 : j < 11
    · obtain ⟨i, rfl⟩ : ∃ i, j = 5 + i := ⟨j - 5, by omega⟩
      rw [zo_wC_p (by omega)]
      split
      · have := a6 i (by omega)
        omega
      · omega
    · obtain ⟨i, rfl⟩ : ∃ i, j = 11 + i := ⟨j - 11, by omega⟩
      rw [zo_wC_w (by omega)]
      split
      · have := a5 i (by omega)
        omega
      · omega
/-- what a clause of orders is -/
noncomputable def zo_wf (K : yK) : Prop := (0 ≤ K.1 ∧ K.1 ≤ 3) ∧ (K.1 = 2 ∨ K.2.1 ≠ none) ∧ (K.1 = 1 → K.2.2.1 ≠ none) ∧ 1 ≤ K.2.2.2.1 ∧ K.2.2.2.1 ≤ 20
theorem yt_su_s {so : Nat → Nat} {wo : Nat → Int} {nx : Nat → Nat} {lf : Nat → Nat ⊕ (Nat × Int × Int)} {p n p1 n1 : Nat} {x : Option yD} (h : yt_su so wo nx lf p n (Sum.inr (p1, n1, x))) : x ≠ none := by
  obtain ⟨t, -, h2⟩ := h
  rcases h2 with ⟨q, -, e⟩ | ⟨q1, m1, y, -, e⟩
  · cases e
  · cases e
    exact Option.some_ne_none y
theorem yt_ti_b {so : Nat → Nat} {wo : Nat → Int} {nx : Nat → Nat} {p p1 : Nat} {m : Int} (h : yt_ti so wo nx p (Sum.inr (p1, m))) : 1 ≤ m ∧ m ≤ 20 := by
  unfold yt_ti at h
  split at h
  · split at h
    · rename_i hn
      cases h
      have := (yt_nu_i.mp hn).2
      exact this
    · cases h
  · cases h
    exact ⟨by decide, by decide⟩
theorem yt_co_wf {so : Nat → Nat} {wo : Nat → Int} {nx : Nat → Nat} {lf : Nat → Nat ⊕ (Nat × Int × Int)} {p n p1 n1 : Nat} {K : yK} (h : yt_co so wo nx lf p n (Sum.inr (p1, n1, K))) : zo_wf K := by
  have hr := yt_ho_r so wo p
  unfold yt_co at h
  split at h
  · cases h
  · rename_i hne
    obtain ⟨u, hu, hu2⟩ := h
    rcases hu2 with ⟨q, -, e⟩ | ⟨q1, m1, x, e1, v, hv, hv2⟩
    · cases e
    · rcases hv2 with ⟨q, -, e⟩ | ⟨q2, m2, y, e2, t, ht, ht2⟩
      · cases e
      · rcases ht2 with ⟨q, -, e⟩ | ⟨q3, m, e3, z, hz, hz2⟩
        · cases e
        · rcases hz2 with ⟨q, -, e⟩ | ⟨q4, n4, e, e4, e5⟩
          · cases e
          · cases e5
            subst e1 e2 e3
            refine ⟨⟨?_, ?_⟩, ?_, ?_, yt_ti_b ht⟩
            · show 0 ≤ yt_ho so wo p
              omega
            · show yt_ho so wo p ≤ 3
              omega
            · by_cases c : yt_ho so wo p = 2
              · exact Or.inl c
              · rw [if_neg c] at hu
                exact Or.inr (yt_su_s hu)
            · intro c
              have c : yt_ho so wo p = 1 := c
              rw [if_pos c] at hv
              split at hv
              · exact yt_su_s hv
              · cases hv
theorem yT_wf {so : Nat → Nat} {wo : Nat → Int} {nx : Nat → Nat} {lf : Nat → Nat ⊕ (Nat × Int × Int)} : ∀ {r p n : Nat} {L : List yK}, yT so wo nx (yt_co so wo nx lf) r p n (Sum.inr L) → ∀ K ∈ L, zo_wf K
  | 0, _, _, _, h, _, _ => by
    unfold yT at h
    cases h
  | r + 1, p, n, L, h, K, hK => by
    unfold yT at h
    obtain ⟨t, h1, h2⟩ := h
    rcases h2 with ⟨q, -, e⟩ | ⟨p1, n1, c, e, h3⟩
    · cases e
    · subst e
      have hc := yt_co_wf h1
      split at h3
      · cases h3
        rcases List.mem_cons.mp hK with rfl | hK
        · exact hc
        · cases hK
      · split at h3
        · obtain ⟨u, h4, h5⟩ := h3
          rcases h5 with ⟨q, -, e⟩ | ⟨L', e1, e2⟩
          · cases e
          · cases e2
            subst e1
            rcases List.mem_cons.mp hK with rfl | hK
            · exact hc
            · exact yT_wf h4 K hK
        · cases h3
