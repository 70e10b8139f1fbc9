/-! part l9: rows that agree: the same words, the same day -/
/-- two rows agree as far as they are the town's -/
noncomputable def zQr (R R' : Nat → Int) : Prop := ∀ j, j < 180 → R' j = R j
theorem zg_st_q {R R' St : Nat → Int} (h : zQr R R') : zg_st St R' = zg_st St R := by
  funext j
  unfold zg_st
  rw [h 7 (by decide), h 5 (by decide), h 8 (by decide)]
theorem zg_po_q {R R' : Nat → Int} {k : Nat} {p : Int} (h : zQr R R') (hk : k < 3) (hp : p < 6) : zg_po R' k p = zg_po R k p := by
  unfold zg_po
  split
  · rfl
  · exact h _ (by omega)
theorem zg_ew_q {R R' St : Nat → Int} {t pw hr p : Int} (h : zQr R R') (hp : p < 6) : zg_ew R' St t pw hr p = zg_ew R St t pw hr p := by
  unfold zg_ew
  rw [zg_st_q h, zg_po_q h (by decide) hp, zg_po_q h (by decide) hp]
theorem zd_sp_q {R R' : Nat → Int} {L : List yK} {t pw : Int} {h p : Nat} (hq : zQr R R') (hp : p < 6) : zd_sp R' L t pw h p = zd_sp R L t pw h p := by
  unfold zd_sp
  rw [zg_ew_q hq (by omega), hq (3 * p + 13) (by omega)]
theorem zd_ru_q {R R' : Nat → Int} {L : List yK} {t : Int} (hq : zQr R R') : zd_ru R' L t = zd_ru R L t := by
  funext pw h
  unfold zd_ru
  rw [zg_ew_q hq (by decide)]
theorem zd_pk_q {R R' D D' W W' : Nat → Int} {p : Int} : ∀ {k w : Nat}, zQr R R' → k + w ≤ 10 → (∀ j, j < k + w → D' j = D j) → (∀ j, j < k + w → W' j = W j) → zd_pk R' D' W' p k w = zd_pk R D W p k w
  | 0, _, _, _, _, _ => rfl
  | k + 1, w, h1, h0, h2, h3 => by
    rw [zd_pk, zd_pk, h1 (5 * w + 39) (by omega), h1 (5 * w + 40) (by omega), h2 w (by omega), h3 w (by omega), zd_pk_q (k := k) (w := w + 1) h1 (by omega) (fun j hj => h2 j (by omega)) (fun j hj => h3 j (by omega))]
/-- two days' works agree -/
noncomputable def zQx (X X' : (Nat → Int) × (Nat → Int)) : Prop := ∀ w, w < 10 → X'.1 w = X.1 w ∧ X'.2 w = X.2 w
theorem zQx_yu {X X' : (Nat → Int) × (Nat → Int)} {k : Nat} {a b : Int} (h : zQx X X') : zQx (yu X.1 k a, yu X.2 k b) (yu X'.1 k a, yu X'.2 k b) := fun w hw => by
  by_cases e : w = k
  · subst e
    exact ⟨yu_at.trans yu_at.symm, yu_at.trans yu_at.symm⟩
  · exact ⟨(yu_ne e).trans ((h w hw).1.trans (yu_ne e).symm), (yu_ne e).trans ((h w hw).2.trans (yu_ne e).symm)⟩
theorem zd_rd_q {R R' W W' : Nat → Int} {n np w : Nat} (hok : zd_ok R n np) (hq : zQr R R') (hW : ∀ j, j < 10 → W' j = W j) (hw : w < n) : zd_rd R' W' w = zd_rd R W w := by
  have hn := hok.1
  have h5 := hok.2.2.2.2.1 w hw
  unfold zd_rd
  rw [hq (5 * w + 43) (by omega)]
  by_cases c : R (5 * w + 43) = -1
  · rw [if_pos (Or.inl c), if_pos (Or.inl c)]
  · have hi : (R (5 * w + 43)).toNat < 10 := by omega
    rw [hW _ hi, hq _ (show 5 * (R (5 * w + 43)).toNat + 40 < 180 by omega)]
theorem zd_ps_q {R R' D D' : Nat → Int} {n np : Nat} {s h : Int} {p : Nat} {X X' : (Nat → Int) × (Nat → Int)} (hok : zd_ok R n np) (hq : zQr R R') (hD : ∀ j, j < n → D' j = D j) (hX : zQx X X') : zQx (zd_ps R D n s h p X) (zd_ps R' D' n s h p X') := by
  have hn := hok.1
  have e := zd_pk_q (p := (p : Int)) (k := n) (w := 0) hq (by omega) hD (fun j hj => (hX j (by omega)).1)
  unfold zd_ps
  rw [e]
  by_cases c : zd_pk R D X.1 p n 0 = -1
  · rw [if_pos c, if_pos c]
    exact hX
  · rw [if_neg c, if_neg c]
    rcases zd_pk_r (R := R) (D := D) (W := X.1) (p := (p : Int)) (k := n) (w := 0) with h1 | ⟨j, h1, h2, h3, -⟩
    · exact absurd h1 c
    · rw [h1, Int.toNat_natCast, (hX j (by omega)).1, hq (5 * j + 40) (by omega)]
      exact zQx_yu hX
theorem zd_hp_q {R R' D D' : Nat → Int} {n np : Nat} {sp sp' : Nat → Int} {h : Int} {X X' : (Nat → Int) × (Nat → Int)} (hok : zd_ok R n np) (hq : zQr R R') (hD : ∀ j, j < n → D' j = D j) (hX : zQx X X') : ∀ {p : Nat}, p ≤ 6 → (∀ i, i < p → sp' i = sp i) → zQx (zd_hp R D n sp h X p) (zd_hp R' D' n sp' h X' p)
  | 0, _, _ => hX
  | p + 1, hp, hs => by
    rw [zd_hp, zd_hp, hs p (by omega)]
    exact zd_ps_q hok hq hD (zd_hp_q hok hq hD hX (p := p) (by omega) (fun i hi => hs i (by omega)))
theorem zd_hr_q {R R' : Nat → Int} {n np : Nat} {L : List yK} {t : Int} (hok : zd_ok R n np) (hq : zQr R R') : ∀ {h : Nat}, zQx (zd_hr R n np (zd_sp R L t) (zd_ru R L t) t h) (zd_hr R' n np (zd_sp R' L t) (zd_ru R' L t) t h)
  | 0 => fun w hw => ⟨hq (w + 29) (by omega), rfl⟩
  | h + 1 => by
    have ih := zd_hr_q (L := L) (t := t) hok hq (h := h)
    have hp6 := hok.2.1
    rw [zd_hr, zd_hr, zd_ru_q hq]
    rw [zd_ru_q hq] at ih
    exact zd_hp_q hok hq (fun j hj => zd_rd_q hok hq (fun i hi => (ih i hi).1) hj) ih hp6 (fun i hi => zd_sp_q hq (by omega))
theorem zc_ct_q {X X' : (Nat → Int) × (Nat → Int)} (h : zQx X X') : ∀ {w : Nat}, w ≤ 10 → zc_ct X' w = zc_ct X w
  | 0, _ => rfl
  | w + 1, hw => by
    rw [zc_ct, zc_ct, zc_ct_q h (w := w) (by omega), (h w (by omega)).2]
/-- orders' words agree -/
theorem zo_en_q {R R' N N' : Nat → Int} (h : zQr R R') (hN : ∀ j, 0 < j → j < 6 → N' j = N j) (h0 : R 0 ≤ 6) (h1 : R 1 ≤ 10) {o a : Int} : zo_en R' N' o a = zo_en R N o a := by
  unfold zo_en
  rw [h 0 (by decide), h 1 (by decide)]
  by_cases c0 : o ≤ 0
  · rw [if_pos c0, if_pos c0]
  · rw [if_neg c0, if_neg c0]
    by_cases c1 : o < 6
    · rw [if_pos c1, if_pos c1, hN _ (by omega) (by omega)]
    · rw [if_neg c1, if_neg c1]
      by_cases c2 : o = 6
      · rw [if_pos c2, if_pos c2]
        by_cases c3 : 0 ≤ a ∧ a < R 0
        · rw [if_pos c3, if_pos c3, h _ (by omega)]
        · rw [if_neg c3, if_neg c3]
      · rw [if_neg c2, if_neg c2]
        by_cases c3 : 0 ≤ a ∧ a < R 1
        · rw [if_pos c3, if_pos c3, h _ (show 5 * a.toNat + 40 < 180 by omega), h _ (show a.toNat + 29 < 180 by omega)]
        · rw [if_neg c3, if_neg c3]
