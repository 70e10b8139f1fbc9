/-! part le: what can be undone agrees on both sides -/
/-- undo's cells are the same: the reference's, the class's -/
noncomputable def zUe (V V' : Nat → Nat → Int) : Prop := V' 0 8 = V 0 8 ∧ (∀ j, j < 544 → V' 6 (2000 + j) = V 6 (2000 + j)) ∧ ∀ j, j < 16 → V' 7 (2000 + j) = V 7 (2000 + j)
noncomputable def zUd (W W' : Nat → Nat → Int) : Prop := W' 3 2 = W 3 2 ∧ W' 3 3 = W 3 3 ∧ (∀ j, j < 16 → W' 62 (2000 + j) = W 62 (2000 + j)) ∧ ∀ j, j < 416 → W' 63 (2000 + j) = W 63 (2000 + j)
theorem zUe_i {V : Nat → Nat → Int} : zUe V V := ⟨rfl, fun _ _ => rfl, fun _ _ => rfl⟩
theorem zUd_i {W : Nat → Nat → Int} : zUd W W := ⟨rfl, rfl, fun _ _ => rfl, fun _ _ => rfl⟩
theorem zUe_t {V V' V'' : Nat → Nat → Int} (h : zUe V V') (h' : zUe V' V'') : zUe V V'' := ⟨Eq.trans h'.1 h.1, fun j hj => Eq.trans (h'.2.1 j hj) (h.2.1 j hj), fun j hj => Eq.trans (h'.2.2 j hj) (h.2.2 j hj)⟩
theorem zUd_t {W W' W'' : Nat → Nat → Int} (h : zUd W W') (h' : zUd W' W'') : zUd W W'' := ⟨Eq.trans h'.1 h.1, Eq.trans h'.2.1 h.2.1, fun j hj => Eq.trans (h'.2.2.1 j hj) (h.2.2.1 j hj), fun j hj => Eq.trans (h'.2.2.2 j hj) (h.2.2.2 j hj)⟩
theorem zUe_o {V V' : Nat → Nat → Int} {o k : Nat} {v : Int} (h0 : o ≠ 0 ∨ k ≠ 8) (h6 : o ≠ 6) (h7 : o ≠ 7) (h : zUe V V') : zUe V (zp_set V' o k v) := ⟨Eq.trans (zp_set_ne (by omega)) h.1, fun j hj => Eq.trans (zp_set_ne (Or.inl (Ne.symm h6))) (h.2.1 j hj), fun j hj => Eq.trans (zp_set_ne (Or.inl (Ne.symm h7))) (h.2.2 j hj)⟩
theorem zUd_o {W W' : Nat → Nat → Int} {o k : Nat} {v : Int} (h3 : o ≠ 3) (h62 : o ≠ 62) (h63 : o ≠ 63) (h : zUd W W') : zUd W (zp_set W' o k v) := ⟨Eq.trans (zp_set_ne (Or.inl (Ne.symm h3))) h.1, Eq.trans (zp_set_ne (Or.inl (Ne.symm h3))) h.2.1, fun j hj => Eq.trans (zp_set_ne (Or.inl (Ne.symm h62))) (h.2.2.1 j hj), fun j hj => Eq.trans (zp_set_ne (Or.inl (Ne.symm h63))) (h.2.2.2 j hj)⟩
theorem zUd_f {W W' : Nat → Nat → Int} (hf : ∀ o k, (o = 3 ∨ o = 62 ∨ o = 63) → W' o k = W o k) : zUd W W' := ⟨hf _ _ (Or.inl rfl), hf _ _ (Or.inl rfl), fun _ _ => hf _ _ (Or.inr (Or.inl rfl)), fun _ _ => hf _ _ (Or.inr (Or.inr rfl))⟩
/-- one of the class's rows that can be undone: what the row R has -/
noncomputable def zUo (W : Nat → Nat → Int) (t : Nat) (R : Nat → Int) : Prop := (∀ p, p < 6 → W 63 (2000 + (26 * t + p)) = R (3 * p + 11) ∧ W 63 (2000 + (26 * t + 6 + p)) = R (3 * p + 13)) ∧ (∀ w, w < 10 → W 63 (2000 + (26 * t + 12 + w)) = R (w + 29)) ∧ W 63 (2000 + (26 * t + 22)) = R 8 ∧ W 63 (2000 + (26 * t + 23)) = R 9 ∧ W 63 (2000 + (26 * t + 24)) = R 10 ∧ W 63 (2000 + (26 * t + 25)) = R 5
/-- the reference's, the class's doings that can be undone are those of H -/
noncomputable def zUr (V : Nat → Nat → Int) (n : Nat) (H : Nat → (Nat → Int) × Int) : Prop := V 0 8 = (n : Int) ∧ n ≤ 16 ∧ ∀ k, k < n → V 7 (2000 + k) = (H k).2 ∧ ∀ i, i < 34 → V 6 (2000 + (34 * k + i)) = (H k).1 (i + 5)
noncomputable def zUc (W : Nat → Nat → Int) (n : Nat) (H : Nat → (Nat → Int) × Int) : Prop := ∃ f : Nat, (W 3 2 = (f : Int) ∧ f < 16) ∧ (W 3 3 = (n : Int) ∧ n ≤ 16) ∧ ∀ k, k < n → W 62 (2000 + (f + k) % 16) = (H k).2 ∧ zUo W ((f + k) % 16) (H k).1
theorem zUr_e {V V' : Nat → Nat → Int} {n : Nat} {H : Nat → (Nat → Int) × Int} (h : zUe V V') (hU : zUr V n H) : zUr V' n H := by
  obtain ⟨a1, a2, a3⟩ := hU
  refine ⟨Eq.trans h.1 a1, a2, fun k hk => ⟨Eq.trans (h.2.2 k (by omega)) (a3 k hk).1, fun i hi => Eq.trans (h.2.1 _ (by omega)) ((a3 k hk).2 i hi)⟩⟩
theorem zUo_d {W W' : Nat → Nat → Int} {t : Nat} {R : Nat → Int} (ht : t < 16) (h : zUd W W') (hU : zUo W t R) : zUo W' t R := by
  obtain ⟨a1, a2, a3, a4, a5, a6⟩ := hU
  have e := h.2.2.2
  exact ⟨fun p hp => ⟨Eq.trans (e _ (by omega)) (a1 p hp).1, Eq.trans (e _ (by omega)) (a1 p hp).2⟩, fun w hw => Eq.trans (e _ (by omega)) (a2 w hw), Eq.trans (e _ (by omega)) a3, Eq.trans (e _ (by omega)) a4, Eq.trans (e _ (by omega)) a5, Eq.trans (e _ (by omega)) a6⟩
theorem zUc_d {W W' : Nat → Nat → Int} {n : Nat} {H : Nat → (Nat → Int) × Int} (h : zUd W W') (hU : zUc W n H) : zUc W' n H := by
  obtain ⟨f, ⟨a1, a2⟩, ⟨a3, a4⟩, a5⟩ := hU
  refine ⟨f, ⟨Eq.trans h.1 a1, a2⟩, ⟨Eq.trans h.2.1 a3, a4⟩, fun k hk => ⟨Eq.trans (h.2.2.1 _ (by omega)) (a5 k hk).1, zUo_d (by omega) h (a5 k hk).2⟩⟩
/-- one more is remembered -/
noncomputable def zHn (n : Nat) : Nat := if n = 16 then 16 else n + 1
noncomputable def zHr (n : Nat) (H : Nat → (Nat → Int) × Int) (R : Nat → Int) (s : Int) : Nat → (Nat → Int) × Int := fun k => if n = 16 then (if k = 15 then (R, s) else H (k + 1)) else if k = n then (R, s) else H k
theorem zT_rem_7f {V : Nat → Nat → Int} {s : Int} {k : Nat} (hk : k < 15) : zT_rem V s 16 7 (2000 + k) = V 7 (2000 + (k + 1)) := by
  unfold zT_rem
  rw [if_pos rfl, zp_set_ne (Or.inl (by decide)), zp_set_ne (Or.inr (by omega)), zc_cp_o (by decide), zp_set_ne (Or.inl (by decide)), zc_cp_e (by omega) (by omega), zc_cp_o (by decide), show 1 + (k - 0) = k + 1 by omega]
theorem zT_rem_7l {V : Nat → Nat → Int} {s : Int} : zT_rem V s 16 7 (2000 + 15) = s := by
  unfold zT_rem
  rw [if_pos rfl, zp_set_ne (Or.inl (by decide)), zp_set_self]
theorem zT_rem_6f {V : Nat → Nat → Int} {s : Int} {k i : Nat} (hk : k < 15) (hi : i < 34) : zT_rem V s 16 6 (2000 + (34 * k + i)) = V 6 (2000 + (34 * (k + 1) + i)) := by
  unfold zT_rem
  rw [if_pos rfl, zp_set_ne (Or.inl (by decide)), zp_set_ne (Or.inl (by decide)), zc_cp_n (Or.inl (by omega)), zp_set_ne (Or.inl (by decide)), zc_cp_o (by decide), zc_cp_e (by omega) (by omega), show 34 + (34 * k + i - 0) = 34 * (k + 1) + i by omega]
theorem zT_rem_6l {V : Nat → Nat → Int} {s : Int} {i : Nat} (hi : i < 34) : zT_rem V s 16 6 (2000 + (34 * 15 + i)) = V 3 (2000 + (i + 5)) := by
  unfold zT_rem
  rw [if_pos rfl, zp_set_ne (Or.inl (by decide)), zp_set_ne (Or.inl (by decide)), zc_cp_e (by omega) (by omega), zp_set_ne (Or.inl (by decide)), zc_cp_o (by decide), zc_cp_o (by decide), show 5 + (34 * 15 + i - 34 * 15) = i + 5 by omega]
theorem zT_rem_7n {V : Nat → Nat → Int} {s : Int} {n k : Nat} (h : ¬ n = 16) : zT_rem V s n 7 (2000 + k) = if k = n then s else V 7 (2000 + k) := by
  unfold zT_rem
  rw [if_neg h, zp_set_ne (Or.inl (by decide))]
  by_cases c : k = n
  · rw [if_pos c, c, zp_set_self]
  · rw [if_neg c, zp_set_ne (Or.inr (by omega)), zc_cp_o (by decide)]
theorem zT_rem_6n {V : Nat → Nat → Int} {s : Int} {n k i : Nat} (h : ¬ n = 16) (hi : i < 34) (hk : k ≤ n) : zT_rem V s n 6 (2000 + (34 * k + i)) = if k = n then V 3 (2000 + (i + 5)) else V 6 (2000 + (34 * k + i)) := by
  unfold zT_rem
  rw [if_neg h, zp_set_ne (Or.inl (by decide)), zp_set_ne (Or.inl (by decide))]
  by_cases c : k = n
  · rw [if_pos c, c, zc_cp_e (by omega) (by omega), show 5 + (34 * n + i - 34 * n) = i + 5 by omega]
  · rw [if_neg c, zc_cp_n (Or.inl (by omega))]
theorem zUr_rem {V : Nat → Nat → Int} {n : Nat} {H : Nat → (Nat → Int) × Int} {s : Int} (hU : zUr V n H) : zUr (zT_rem V s n) (zHn n) (zHr n H (zRw V) s) := by
  obtain ⟨a1, a2, a3⟩ := hU
  by_cases c : n = 16
  · subst c
    have eH : ∀ k, zHr 16 H (zRw V) s k = if k = 15 then (zRw V, s) else H (k + 1) := fun k => if_pos rfl
    have en : zHn 16 = 16 := if_pos rfl
    rw [en]
    refine ⟨?_, Nat.le_refl 16, fun k hk => ?_⟩
    · unfold zT_rem
      rw [if_pos rfl]
      exact zp_set_self
    · rw [eH]
      by_cases d : k = 15
      · subst d
        rw [if_pos rfl]
        exact ⟨zT_rem_7l, fun i hi => zT_rem_6l hi⟩
      · rw [if_neg d]
        exact ⟨Eq.trans (zT_rem_7f (by omega)) (a3 (k + 1) (by omega)).1, fun i hi => Eq.trans (zT_rem_6f (by omega) hi) ((a3 (k + 1) (by omega)).2 i hi)⟩
  · have eH : ∀ k, zHr n H (zRw V) s k = if k = n then (zRw V, s) else H k := fun k => if_neg c
    have en : zHn n = n + 1 := if_neg c
    rw [en]
    refine ⟨?_, by omega, fun k hk => ?_⟩
    · unfold zT_rem
      rw [if_neg c]
      exact Eq.trans zp_set_self (by omega)
    · rw [eH]
      by_cases d : k = n
      · rw [if_pos d]
        refine ⟨?_, fun i hi => ?_⟩
        · rw [zT_rem_7n c, if_pos d]
        · rw [zT_rem_6n c hi (by omega), if_pos d]
          rfl
      · rw [if_neg d]
        refine ⟨?_, fun i hi => ?_⟩
        · rw [zT_rem_7n c, if_neg d]
          exact (a3 k (by omega)).1
        · rw [zT_rem_6n c hi (by omega), if_neg d]
          exact (a3 k (by omega)).2 i hi
/-- the class keeps a row -/
theorem zf_kpi2_n {W : Nat → Nat → Int} {t j : Nat} (hj : j < 26 * t ∨ 26 * t + 26 ≤ j) : (zf_kpi2 W t).2 63 (2000 + j) = W 63 (2000 + j) := by
  unfold zf_kpi2
  split
  · dsimp only
    rw [zp_set_ne (Or.inr (by omega)), zp_set_ne (Or.inr (by omega)), zp_set_ne (Or.inr (by omega)), zp_set_ne (Or.inr (by omega)), zc_cp_n (by omega), zc_cp_n (by omega), zc_cp_n (by omega)]
  · dsimp only
    rw [zp_set_ne (Or.inr (by omega)), zp_set_ne (Or.inr (by omega)), zp_set_ne (Or.inr (by omega)), zp_set_ne (Or.inr (by omega)), zc_cp_n (by omega), zc_cp_n (by omega), zc_cp_n (by omega)]
theorem zf_kpi2_o {W : Nat → Nat → Int} {t p : Nat} (hp : p < 6) : (zf_kpi2 W t).2 63 (2000 + (26 * t + p)) = W 50 (2000 + p) := by
  unfold zf_kpi2
  split
  · dsimp only
    rw [zp_set_ne (Or.inr (by omega)), zp_set_ne (Or.inr (by omega)), zp_set_ne (Or.inr (by omega)), zp_set_ne (Or.inr (by omega)), zc_cp_n (Or.inl (by omega)), zc_cp_n (Or.inl (by omega)), zc_cp_e (by omega) (by omega), show 0 + (26 * t + p - 26 * t) = p by omega]
  · dsimp only
    rw [zp_set_ne (Or.inr (by omega)), zp_set_ne (Or.inr (by omega)), zp_set_ne (Or.inr (by omega)), zp_set_ne (Or.inr (by omega)), zc_cp_n (Or.inl (by omega)), zc_cp_n (Or.inl (by omega)), zc_cp_e (by omega) (by omega), show 0 + (26 * t + p - 26 * t) = p by omega]
theorem zf_kpi2_l {W : Nat → Nat → Int} {t p : Nat} (hp : p < 6) : (zf_kpi2 W t).2 63 (2000 + (26 * t + 6 + p)) = W 51 (2000 + p) := by
  unfold zf_kpi2
  split
  · dsimp only
    rw [zp_set_ne (Or.inr (by omega)), zp_set_ne (Or.inr (by omega)), zp_set_ne (Or.inr (by omega)), zp_set_ne (Or.inr (by omega)), zc_cp_n (Or.inl (by omega)), zc_cp_e (by omega) (by omega), zc_cp_o (by decide), show 0 + (26 * t + 6 + p - (26 * t + 6)) = p by omega]
  · dsimp only
    rw [zp_set_ne (Or.inr (by omega)), zp_set_ne (Or.inr (by omega)), zp_set_ne (Or.inr (by omega)), zp_set_ne (Or.inr (by omega)), zc_cp_n (Or.inl (by omega)), zc_cp_e (by omega) (by omega), zc_cp_o (by decide), show 0 + (26 * t + 6 + p - (26 * t + 6)) = p by omega]
theorem zf_kpi2_w {W : Nat → Nat → Int} {t p : Nat} (hp : p < 10) : (zf_kpi2 W t).2 63 (2000 + (26 * t + 12 + p)) = W 52 (2000 + p) := by
  unfold zf_kpi2
  split
  · dsimp only
    rw [zp_set_ne (Or.inr (by omega)), zp_set_ne (Or.inr (by omega)), zp_set_ne (Or.inr (by omega)), zp_set_ne (Or.inr (by omega)), zc_cp_e (by omega) (by omega), zc_cp_o (by decide), zc_cp_o (by decide), show 0 + (26 * t + 12 + p - (26 * t + 12)) = p by omega]
  · dsimp only
    rw [zp_set_ne (Or.inr (by omega)), zp_set_ne (Or.inr (by omega)), zp_set_ne (Or.inr (by omega)), zp_set_ne (Or.inr (by omega)), zc_cp_e (by omega) (by omega), zc_cp_o (by decide), zc_cp_o (by decide), show 0 + (26 * t + 12 + p - (26 * t + 12)) = p by omega]
theorem zf_kpi2_r {W : Nat → Nat → Int} {t : Nat} (h9 : 0 ≤ W 2 4 ∧ W 2 4 ≤ 1) : (zf_kpi2 W t).2 63 (2000 + (26 * t + 22)) = W 2 3 ∧ (zf_kpi2 W t).2 63 (2000 + (26 * t + 23)) = W 2 4 ∧ (zf_kpi2 W t).2 63 (2000 + (26 * t + 24)) = W 2 5 ∧ (zf_kpi2 W t).2 63 (2000 + (26 * t + 25)) = W 2 6 := by
  unfold zf_kpi2
  by_cases c : W 2 4 = 0
  · rw [if_pos c]
    dsimp only
    refine ⟨?_, ?_, ?_, zp_set_self⟩
    · rw [zp_set_ne (Or.inr (by omega)), zp_set_ne (Or.inr (by omega)), zp_set_ne (Or.inr (by omega)), zp_set_self]
    · rw [zp_set_ne (Or.inr (by omega)), zp_set_ne (Or.inr (by omega)), zp_set_self, c]
    · rw [zp_set_ne (Or.inr (by omega)), zp_set_self]
  · rw [if_neg c]
    dsimp only
    refine ⟨?_, ?_, ?_, zp_set_self⟩
    · rw [zp_set_ne (Or.inr (by omega)), zp_set_ne (Or.inr (by omega)), zp_set_ne (Or.inr (by omega)), zp_set_self]
    · rw [zp_set_ne (Or.inr (by omega)), zp_set_ne (Or.inr (by omega)), zp_set_self]
      omega
    · rw [zp_set_ne (Or.inr (by omega)), zp_set_self]
theorem zUo_kpi {W : Nat → Nat → Int} {t : Nat} {R : Nat → Int} (hR : ∀ j, j < 180 → zRc W 2 50 j = R j) (h9 : 0 ≤ W 2 4 ∧ W 2 4 ≤ 1) : zUo (zf_kpi2 W t).2 t R := by
  obtain ⟨r1, r2, r3, r4⟩ := zf_kpi2_r (t := t) h9
  refine ⟨fun p hp => ⟨?_, ?_⟩, fun w hw => ?_, r1.trans (hR 8 (by decide)), r2.trans (hR 9 (by decide)), r3.trans (hR 10 (by decide)), r4.trans (hR 5 (by decide))⟩
  · rw [zf_kpi2_o hp, ← hR _ (by omega)]
    exact (zRc_o hp).symm
  · rw [zf_kpi2_l hp, ← hR _ (by omega)]
    exact (zRc_l hp).symm
  · rw [zf_kpi2_w hw, ← hR _ (by omega)]
    exact (zRc_d hw).symm
theorem zUo_kpn {W : Nat → Nat → Int} {t u : Nat} {R : Nat → Int} (hne : u ≠ t) (h : zUo W u R) : zUo (zf_kpi2 W t).2 u R := by
  obtain ⟨a1, a2, a3, a4, a5, a6⟩ := h
  exact ⟨fun p hp => ⟨(zf_kpi2_n (by omega)).trans (a1 p hp).1, (zf_kpi2_n (by omega)).trans (a1 p hp).2⟩, fun w hw => (zf_kpi2_n (by omega)).trans (a2 w hw), (zf_kpi2_n (by omega)).trans a3, (zf_kpi2_n (by omega)).trans a4, (zf_kpi2_n (by omega)).trans a5, (zf_kpi2_n (by omega)).trans a6⟩
theorem zUo_c {W W' : Nat → Nat → Int} {t : Nat} {R : Nat → Int} (h : ∀ k, W' 63 k = W 63 k) (hU : zUo W t R) : zUo W' t R := by
  obtain ⟨a1, a2, a3, a4, a5, a6⟩ := hU
  exact ⟨fun p hp => ⟨(h _).trans (a1 p hp).1, (h _).trans (a1 p hp).2⟩, fun w hw => (h _).trans (a2 w hw), (h _).trans a3, (h _).trans a4, (h _).trans a5, (h _).trans a6⟩
theorem zUc_kep {W : Nat → Nat → Int} {n : Nat} {H : Nat → (Nat → Int) × Int} {R : Nat → Int} {s : Int} (hU : zUc W n H) (hR : ∀ j, j < 180 → zRc W 2 50 j = R j) (h9 : 0 ≤ W 2 4 ∧ W 2 4 ≤ 1) : zUc (zf_kep3 W s).2 (zHn n) (zHr n H R s) := by
  obtain ⟨f, ⟨f1, f2⟩, ⟨n1, n2⟩, hk⟩ := hU
  have et : (((f : Int) + (n : Int)) % 16).toNat = (f + n) % 16 := by omega
  unfold zf_kep3
  rw [f1, n1, et]
  by_cases c : n = 16
  · rw [if_pos (show (16 : Int) ≤ (n : Int) by omega)]
    obtain ⟨W1, hW1⟩ : ∃ W1, W1 = zp_set (zp_set W 3 2 (((f : Int) + 1) % 16)) 62 (2000 + (f + n) % 16) s := ⟨_, rfl⟩
    dsimp only
    rw [← hW1]
    have k3 : ∀ k, (zf_kpi2 W1 ((f + n) % 16)).2 3 k = zp_set W 3 2 (((f : Int) + 1) % 16) 3 k := fun k => by
      rw [zf_kpi2_f (by decide), hW1, zp_set_ne (Or.inl (by decide))]
    have k62 : ∀ k, (zf_kpi2 W1 ((f + n) % 16)).2 62 (2000 + k) = if k = (f + n) % 16 then s else W 62 (2000 + k) := fun k => by
      rw [zf_kpi2_f (by decide), hW1]
      by_cases d : k = (f + n) % 16
      · rw [if_pos d, d, zp_set_self]
      · rw [if_neg d, zp_set_ne (Or.inr (by omega)), zp_set_ne (Or.inl (by decide))]
    have k63 : ∀ k, W1 63 k = W 63 k := fun k => by
      rw [hW1, zp_set_ne (Or.inl (by decide)), zp_set_ne (Or.inl (by decide))]
    have kR : ∀ j, j < 180 → zRc W1 2 50 j = R j := fun j hj => by
      rw [← hR j hj]
      refine congrFun (zRc_f (fun o k ho => ?_)) j
      rw [hW1, zp_set_ne (Or.inl (by omega)), zp_set_ne (Or.inl (by omega))]
    have k24 : W1 2 4 = W 2 4 := by
      rw [hW1, zp_set_ne (Or.inl (by decide)), zp_set_ne (Or.inl (by decide))]
    have eH : ∀ k, zHr n H R s k = if k = 15 then (R, s) else H (k + 1) := fun k => if_pos c
    have en : zHn n = 16 := if_pos c
    rw [en]
    refine ⟨(f + 1) % 16, ⟨?_, by omega⟩, ⟨?_, Nat.le_refl 16⟩, fun k hk1 => ?_⟩
    · rw [k3, zp_set_self]
      omega
    · rw [k3, zp_set_ne (Or.inr (by decide)), n1]
      omega
    · have e : ((f + 1) % 16 + k) % 16 = (f + (k + 1)) % 16 := by omega
      rw [e, eH, k62]
      by_cases d : k = 15
      · rw [if_pos d, if_pos (show (f + (k + 1)) % 16 = (f + n) % 16 by omega)]
        refine ⟨rfl, ?_⟩
        rw [show (f + (k + 1)) % 16 = (f + n) % 16 by omega]
        exact zUo_kpi kR (by rw [k24]; exact h9)
      · rw [if_neg d, if_neg (show ¬ (f + (k + 1)) % 16 = (f + n) % 16 by omega)]
        have h8 := hk (k + 1) (by omega)
        exact ⟨h8.1, zUo_kpn (by omega) (zUo_c k63 h8.2)⟩
  · rw [if_neg (show ¬ (16 : Int) ≤ (n : Int) by omega)]
    obtain ⟨W1, hW1⟩ : ∃ W1, W1 = zp_set (zp_set W 3 3 ((n : Int) + 1)) 62 (2000 + (f + n) % 16) s := ⟨_, rfl⟩
    dsimp only
    rw [← hW1]
    have k3 : ∀ k, (zf_kpi2 W1 ((f + n) % 16)).2 3 k = zp_set W 3 3 ((n : Int) + 1) 3 k := fun k => by
      rw [zf_kpi2_f (by decide), hW1, zp_set_ne (Or.inl (by decide))]
    have k62 : ∀ k, (zf_kpi2 W1 ((f + n) % 16)).2 62 (2000 + k) = if k = (f + n) % 16 then s else W 62 (2000 + k) := fun k => by
      rw [zf_kpi2_f (by decide), hW1]
      by_cases d : k = (f + n) % 16
      · rw [if_pos d, d, zp_set_self]
      · rw [if_neg d, zp_set_ne (Or.inr (by omega)), zp_set_ne (Or.inl (by decide))]
    have k63 : ∀ k, W1 63 k = W 63 k := fun k => by
      rw [hW1, zp_set_ne (Or.inl (by decide)), zp_set_ne (Or.inl (by decide))]
    have kR : ∀ j, j < 180 → zRc W1 2 50 j = R j := fun j hj => by
      rw [← hR j hj]
      refine congrFun (zRc_f (fun o k ho => ?_)) j
      rw [hW1, zp_set_ne (Or.inl (by omega)), zp_set_ne (Or.inl (by omega))]
    have k24 : W1 2 4 = W 2 4 := by
      rw [hW1, zp_set_ne (Or.inl (by decide)), zp_set_ne (Or.inl (by decide))]
    have eH : ∀ k, zHr n H R s k = if k = n then (R, s) else H k := fun k => if_neg c
    have en : zHn n = n + 1 := if_neg c
    rw [en]
    refine ⟨f, ⟨?_, f2⟩, ⟨?_, by omega⟩, fun k hk1 => ?_⟩
    · rw [k3, zp_set_ne (Or.inr (by decide)), f1]
    · rw [k3, zp_set_self]
      omega
    · rw [eH, k62]
      by_cases d : k = n
      · rw [if_pos d, if_pos (show (f + k) % 16 = (f + n) % 16 by rw [d])]
        refine ⟨rfl, ?_⟩
        rw [d]
        exact zUo_kpi kR (by rw [k24]; exact h9)
      · rw [if_neg d, if_neg (show ¬ (f + k) % 16 = (f + n) % 16 by omega)]
        have h8 := hk k (by omega)
        exact ⟨h8.1, zUo_kpn (by omega) (zUo_c k63 h8.2)⟩
/-- a row of the town as it may stand -/
noncomputable def zRok (R : Nat → Int) (n1 np : Nat) : Prop := zd_ok R n1 np ∧ (-1 ≤ R 10 ∧ R 10 ≤ 12) ∧ (0 ≤ R 5 ∧ R 5 ≤ 999) ∧ (0 ≤ R 8 ∧ R 8 ≤ 9999) ∧ (∀ p, p < np → 0 ≤ R (3 * p + 11) ∧ R (3 * p + 11) ≤ 9) ∧ (0 ≤ R 9 ∧ R 9 ≤ 1) ∧ (∀ p, np ≤ p → p < 6 → R (3 * p + 11) = 0 ∧ R (3 * p + 13) = 0) ∧ (∀ j, j < 89 → -2147483648 ≤ R j ∧ R j ≤ 2147483647) ∧ ∀ w, w < n1 → R (w + 29) ≤ R (5 * w + 40)
theorem zd_ok_q {R R' : Nat → Int} {n np : Nat} (h : ∀ j, j < 89 → R' j = R j) (hd : zd_ok R n np) : zd_ok R' n np := by
  obtain ⟨d1, d2, d3, d4, d5, d6⟩ := hd
  refine ⟨d1, d2, (h 1 (by decide)).trans d3, (h 0 (by decide)).trans d4, fun w hw => ?_, fun p hp => ?_⟩
  · rw [h _ (show 5 * w + 43 < 89 by omega), h _ (show 5 * w + 40 < 89 by omega), h _ (show w + 29 < 89 by omega)]
    exact d5 w hw
  · rw [h _ (show 3 * p + 13 < 89 by omega)]
    exact d6 p hp
theorem zRok_q {R R' : Nat → Int} {n1 np : Nat} (h : ∀ j, j < 89 → R' j = R j) (hd : zRok R n1 np) : zRok R' n1 np := by
  obtain ⟨d1, d2, d3, d4, d5, d6, d7, d8, d9⟩ := hd
  have hnp := d1.2.1
  have hn1 := d1.1
  refine ⟨zd_ok_q h d1, ?_, ?_, ?_, fun p hp => ?_, ?_, fun p h1 h2 => ?_, fun j hj => by rw [h j hj]; exact d8 j hj, fun w hw => by rw [h _ (show w + 29 < 89 by omega), h _ (show 5 * w + 40 < 89 by omega)]; exact d9 w hw⟩
  · rw [h 10 (by decide)]
    exact d2
  · rw [h 5 (by decide)]
    exact d3
  · rw [h 8 (by decide)]
    exact d4
  · rw [h _ (show 3 * p + 11 < 89 by omega)]
    exact d5 p hp
  · rw [h 9 (by decide)]
    exact d6
  · rw [h _ (show 3 * p + 11 < 89 by omega), h _ (show 3 * p + 13 < 89 by omega)]
    exact d7 p h1 h2
/-- no more is done of a work than it has -/
noncomputable def zDm (V : Nat → Nat → Int) (n1 : Nat) : Prop := ∀ w, w < n1 → V 3 (2000 + (w + 29)) ≤ V 3 (2000 + (5 * w + 40))
theorem zDm_of {A : Nat → Nat} {Y : List (Nat × Nat)} {F : List (Nat × Nat × Nat)} {V W : Nat → Nat → Int} {n1 np : Nat} {Lw : List yK} (hr : zRr V W) (hC : zCI A Y F W n1 np Lw) : zDm V n1 := fun w hw => by
  have h9 := (hC.2.2.1 w hw).2.2.2.2.2
  have hn := hC.2.1.1
  rw [← hr (w + 29) (by omega), ← hr (5 * w + 40) (by omega), zRc_d (by omega), show 5 * w + 40 = 5 * w + (39 + 1) by omega, zRc_w (by omega) (by decide)]
  exact h9
theorem zRok_i {V : Nat → Nat → Int} {nu n1 np : Nat} {Lw : List yK} (hI : zRI V nu n1 np Lw) (hz : zRz V np) (hm : zDm V n1) : zRok (zRw V) n1 np := ⟨hI.2.2.1, hI.2.2.2.2.1, hI.2.2.2.2.2.1, hI.2.2.2.2.2.2.1, hI.2.2.2.2.2.2.2, hz.1, hz.2, fun j hj => hI.1.1 j (by omega), hm⟩
/-- of what can be undone: kinds, rows that may stand; what doings leave is as it stands -/
noncomputable def zHo (V : Nat → Nat → Int) (n1 np n : Nat) (H : Nat → (Nat → Int) × Int) : Prop := ∀ k, k < n → (0 ≤ (H k).2 ∧ (H k).2 ≤ 3) ∧ (∀ j, j < 89 → zKj j → (H k).1 j = V 3 (2000 + j)) ∧ zRok (H k).1 n1 np
theorem zHo_e {V V' : Nat → Nat → Int} {n1 np n : Nat} {H : Nat → (Nat → Int) × Int} (hV : ∀ j, j < 89 → zKj j → V' 3 (2000 + j) = V 3 (2000 + j)) (h : zHo V n1 np n H) : zHo V' n1 np n H := fun k hk => ⟨(h k hk).1, fun j h1 h2 => ((h k hk).2.1 j h1 h2).trans (hV j h1 h2).symm, (h k hk).2.2⟩
theorem zHo_rem {V : Nat → Nat → Int} {n1 np n : Nat} {H : Nat → (Nat → Int) × Int} {s : Int} (hn : n ≤ 16) (hs : 0 ≤ s ∧ s ≤ 3) (hR : zRok (zRw V) n1 np) (h : zHo V n1 np n H) : zHo V n1 np (zHn n) (zHr n H (zRw V) s) := fun k hk => by
  have hnew : (0 ≤ (zRw V, s).2 ∧ (zRw V, s).2 ≤ 3) ∧ (∀ j, j < 89 → zKj j → (zRw V, s).1 j = V 3 (2000 + j)) ∧ zRok (zRw V, s).1 n1 np := ⟨hs, fun j _ _ => rfl, hR⟩
  unfold zHr
  unfold zHn at hk
  by_cases c : n = 16
  · rw [if_pos c] at hk ⊢
    by_cases d : k = 15
    · rw [if_pos d]
      exact hnew
    · rw [if_neg d]
      exact h (k + 1) (by omega)
  · rw [if_neg c] at hk ⊢
    by_cases d : k = n
    · rw [if_pos d]
      exact hnew
    · rw [if_neg d]
      exact h k (by omega)
/-- what can be undone agrees -/
noncomputable def zUU (V W : Nat → Nat → Int) (n1 np : Nat) : Prop := ∃ (n : Nat) (H : Nat → (Nat → Int) × Int), zUr V n H ∧ zUc W n H ∧ zHo V n1 np n H
theorem zUU_e {V V' W W' : Nat → Nat → Int} {n1 np : Nat} (hV : zUe V V') (h3 : ∀ j, j < 89 → zKj j → V' 3 (2000 + j) = V 3 (2000 + j)) (hW : zUd W W') (h : zUU V W n1 np) : zUU V' W' n1 np := by
  obtain ⟨n, H, h1, h2, h4⟩ := h
  exact ⟨n, H, zUr_e hV h1, zUc_d hW h2, zHo_e h3 h4⟩
/-- nothing can be undone -/
theorem zUU_0 {V W : Nat → Nat → Int} {n1 np f : Nat} (h8 : V 0 8 = 0) (h3 : W 3 3 = 0) (h2 : W 3 2 = (f : Int)) (hf : f < 16) : zUU V W n1 np := ⟨0, fun _ => (fun _ => 0, 0), ⟨h8, Nat.zero_le _, fun k hk => absurd hk (Nat.not_lt_zero k)⟩, ⟨f, ⟨h2, hf⟩, ⟨h3, Nat.zero_le _⟩, fun k hk => absurd hk (Nat.not_lt_zero k)⟩, fun k hk => absurd hk (Nat.not_lt_zero k)⟩
theorem zUU_f {V W : Nat → Nat → Int} {n1 np : Nat} (h : zUU V W n1 np) : ∃ f : Nat, W 3 2 = (f : Int) ∧ f < 16 := by
  obtain ⟨n, H, -, ⟨f, h1, -⟩, -⟩ := h
  exact ⟨f, h1⟩
/-- doings: their kind; either nothing is done, or it is remembered -/
noncomputable def zo_s (k : Int) : Int := if k = 0 then 0 else if k = 1 then 1 else if k = 2 then 2 else 3
theorem zo_s_b {k : Int} : 0 ≤ zo_s k ∧ zo_s k ≤ 3 := by
  unfold zo_s
  repeat' split
  all_goals decide
theorem zU_wea {V V' : Nat → Nat → Int} {Lw : List yK} {t : Int} (h : zUe V V') : zUe V (zf_wea V' Lw t).2 := by
  unfold zf_wea
  split
  · exact zUe_o (Or.inl (by decide)) (by decide) (by decide) (zUe_o (Or.inl (by decide)) (by decide) (by decide) (zUe_o (Or.inl (by decide)) (by decide) (by decide) h))
  · exact zUe_o (Or.inl (by decide)) (by decide) (by decide) (zUe_o (Or.inl (by decide)) (by decide) (by decide) (zUe_o (Or.inl (by decide)) (by decide) (by decide) h))
theorem zU_dn {V V' : Nat → Nat → Int} {X : (Nat → Int) × (Nat → Int)} (h : zUe V V') : ∀ {w : Nat}, zUe V (zc_dn V' X w)
  | 0 => h
  | w + 1 => by
    rw [zc_dn]
    exact zUe_o (Or.inl (by decide)) (by decide) (by decide) (zU_dn h)
theorem zU_pl {V V' : Nat → Nat → Int} (h : zUe V V') : ∀ {p : Nat}, zUe V (zc_pl V' p)
  | 0 => h
  | p + 1 => by
    rw [zc_pl]
    exact zUe_o (Or.inl (by decide)) (by decide) (by decide) (zUe_o (Or.inl (by decide)) (by decide) (by decide) (zU_pl h))
theorem zU_dr0 {V : Nat → Nat → Int} {nu : Nat} {Lw : List yK} {a : Int} : ((zf_wnn V nu Lw a).1 < 0 ∧ zUe V (zf_wnn V nu Lw a).2) ∨ (0 ≤ (zf_wnn V nu Lw a).1 ∧ zUe (zT_rem V 0 nu) (zf_wnn V nu Lw a).2) := by
  unfold zf_wnn
  split
  · split
    · exact Or.inl ⟨show (-3 : Int) < 0 by decide, zUe_i⟩
    · split
      · exact Or.inl ⟨show (-3 : Int) < 0 by decide, zUe_i⟩
      · split
        · refine Or.inr ⟨?_, zU_wea zUe_i⟩
          dsimp only
          rw [zf_wea_8]
          omega
        · split
          · refine Or.inr ⟨?_, zU_wea zUe_i⟩
            dsimp only
            rw [zf_wea_8]
            omega
          · exact Or.inl ⟨show (-3 : Int) < 0 by decide, zUe_i⟩
  · exact Or.inl ⟨show (-1 : Int) < 0 by decide, zUe_i⟩
theorem zU_dr1 {V : Nat → Nat → Int} {nu np : Nat} {Lw : List yK} {a b : Int} (hl : ∀ p, p < np → 0 ≤ V 3 (2000 + (3 * p + 13))) : ((zf_kyn V nu np Lw a b).1 < 0 ∧ zUe V (zf_kyn V nu np Lw a b).2) ∨ (0 ≤ (zf_kyn V nu np Lw a b).1 ∧ zUe (zT_rem V 1 nu) (zf_kyn V nu np Lw a b).2) := by
  unfold zf_kyn
  by_cases c1 : 1 ≤ b ∧ b ≤ 9
  · rw [if_pos c1]
    by_cases c2 : 0 ≤ a ∧ a < (np : Int)
    · rw [if_pos c2]
      split
      · exact Or.inl ⟨show (-3 : Int) < 0 by decide, zUe_i⟩
      · split
        · exact Or.inl ⟨show (-3 : Int) < 0 by decide, zUe_i⟩
        · refine Or.inr ⟨?_, zUe_o (Or.inl (by decide)) (by decide) (by decide) zUe_i⟩
          have h9 := hl a.toNat (by omega)
          dsimp only
          omega
    · rw [if_neg c2]
      exact Or.inl ⟨show (-2 : Int) < 0 by decide, zUe_i⟩
  · rw [if_neg c1]
    exact Or.inl ⟨show (-1 : Int) < 0 by decide, zUe_i⟩
theorem zU_dr2 {V : Nat → Nat → Int} {nu n1 np : Nat} {Lw : List yK} : ((zf_rnn V nu n1 np Lw).1 < 0 ∧ zUe V (zf_rnn V nu n1 np Lw).2) ∨ (0 ≤ (zf_rnn V nu n1 np Lw).1 ∧ zUe (zT_rem V 2 nu) (zf_rnn V nu n1 np Lw).2) := by
  unfold zf_rnn
  split
  · exact Or.inl ⟨show (-3 : Int) < 0 by decide, zUe_i⟩
  · split
    · refine Or.inr ⟨?_, ?_⟩
      · show 0 ≤ zc_ct _ _
        exact zc_ctb.1
      · show zUe _ (zp_set (zp_set _ 3 (2000 + 10) (-1)) 3 (2000 + 5) _)
        exact zUe_o (Or.inl (by decide)) (by decide) (by decide) (zUe_o (Or.inl (by decide)) (by decide) (by decide) (zU_pl (zU_dn zUe_i)))
    · exact Or.inl ⟨show (-3 : Int) < 0 by decide, zUe_i⟩
theorem zU_dr3 {V : Nat → Nat → Int} {nu : Nat} {a : Int} : ((zf_mnn V nu a).1 < 0 ∧ zUe V (zf_mnn V nu a).2) ∨ (0 ≤ (zf_mnn V nu a).1 ∧ zUe (zT_rem V 3 nu) (zf_mnn V nu a).2) := by
  unfold zf_mnn
  split
  · split
    · refine Or.inr ⟨?_, zUe_o (Or.inl (by decide)) (by decide) (by decide) (zUe_o (Or.inl (by decide)) (by decide) (by decide) zUe_i)⟩
      dsimp only
      omega
    · exact Or.inl ⟨show (-3 : Int) < 0 by decide, zUe_i⟩
  · exact Or.inl ⟨show (-1 : Int) < 0 by decide, zUe_i⟩
theorem zU_dr {V : Nat → Nat → Int} {nu n1 np : Nat} {Lw : List yK} {k a b : Int} (hl : ∀ p, p < np → 0 ≤ V 3 (2000 + (3 * p + 13))) : ((zo_do V nu n1 np Lw k a b).1 < 0 ∧ zUe V (zo_do V nu n1 np Lw k a b).2) ∨ (0 ≤ (zo_do V nu n1 np Lw k a b).1 ∧ zUe (zT_rem V (zo_s k) nu) (zo_do V nu n1 np Lw k a b).2) := by
  unfold zo_do zo_s
  by_cases c0 : k = 0
  · rw [if_pos c0, if_pos c0]
    exact zU_dr0
  · rw [if_neg c0, if_neg c0]
    by_cases c1 : k = 1
    · rw [if_pos c1, if_pos c1]
      exact zU_dr1 hl
    · rw [if_neg c1, if_neg c1]
      by_cases c2 : k = 2
      · rw [if_pos c2, if_pos c2]
        exact zU_dr2
      · rw [if_neg c2, if_neg c2]
        exact zU_dr3
theorem zf_wby2_3 {W : Nat → Nat → Int} {a x : Int} : 0 ≤ (zf_wby2 W a x).2 2 3 := by
  have h : (zf_wea2 W x).2 2 3 = max 0 (W 2 3 - x) := by (unfold zf_wea2; dsimp only; exact zp_set_self)
  unfold zf_wby2
  split
  · show 0 ≤ zp_set (zp_set (zf_wea2 W x).2 2 4 0) 2 5 a 2 3
    rw [zp_set_ne (Or.inr (by decide)), zp_set_ne (Or.inr (by decide)), h]
    omega
  · show 0 ≤ zp_set (zp_set (zf_wea2 W x).2 2 4 1) 2 5 (-1) 2 3
    rw [zp_set_ne (Or.inr (by decide)), zp_set_ne (Or.inr (by decide)), h]
    omega
theorem zUd_wby {W W' : Nat → Nat → Int} {a x : Int} (h : zUd W W') : zUd W (zf_wby2 W' a x).2 := zUd_t h (zUd_f (fun o k ho => zf_wby2_f (fun hm => by
  have h9 : o = 2 := by simpa using hm
  omega)))
theorem zU_dc0 {W : Nat → Nat → Int} {Lw : List yK} {a : Int} : ((zf_wnbc W Lw a).1 < 0 ∧ zUd W (zf_wnbc W Lw a).2) ∨ (0 ≤ (zf_wnbc W Lw a).1 ∧ zUd (zf_kep3 W 0).2 (zf_wnbc W Lw a).2) := by
  unfold zf_wnbc
  rw [zf_mot1_2]
  split
  · split
    · exact Or.inl ⟨show (-3 : Int) < 0 by decide, zUd_i⟩
    · split
      · exact Or.inl ⟨show (-3 : Int) < 0 by decide, zUd_i⟩
      · split
        · exact Or.inr ⟨zf_wby2_3, zUd_wby zUd_i⟩
        · exact Or.inl ⟨show (-3 : Int) < 0 by decide, zUd_i⟩
  · exact Or.inl ⟨show (-1 : Int) < 0 by decide, zUd_i⟩
theorem zU_dc1 {W : Nat → Nat → Int} {Lw : List yK} {a b : Int} (hl : ∀ p, p < 6 → 0 ≤ W 51 (2000 + p)) : ((zf_keybc W Lw a b).1 < 0 ∧ zUd W (zf_keybc W Lw a b).2) ∨ (0 ≤ (zf_keybc W Lw a b).1 ∧ zUd (zf_kep3 W 1).2 (zf_keybc W Lw a b).2) := by
  unfold zf_keybc
  by_cases c1 : 1 ≤ b ∧ b ≤ 9
  · rw [if_pos c1]
    by_cases c2 : 0 ≤ a ∧ a < W 1 1 ∧ a < 6
    · rw [if_pos c2]
      split
      · split
        · refine Or.inr ⟨?_, zUd_o (by decide) (by decide) (by decide) zUd_i⟩
          have h9 := hl a.toNat (by omega)
          dsimp only
          omega
        · exact Or.inl ⟨show (-3 : Int) < 0 by decide, zUd_i⟩
      · exact Or.inl ⟨show (-3 : Int) < 0 by decide, zUd_i⟩
    · rw [if_neg c2]
      exact Or.inl ⟨show (-2 : Int) < 0 by decide, zUd_i⟩
  · rw [if_neg c1]
    exact Or.inl ⟨show (-1 : Int) < 0 by decide, zUd_i⟩
theorem zU_dc2 {W : Nat → Nat → Int} {n1 np : Nat} {Lw : List yK} : ((zf_rudc W n1 np Lw).1 < 0 ∧ zUd W (zf_rudc W n1 np Lw).2) ∨ (0 ≤ (zf_rudc W n1 np Lw).1 ∧ zUd (zf_kep3 W 2).2 (zf_rudc W n1 np Lw).2) := by
  unfold zf_rudc
  split
  · exact Or.inl ⟨show (-3 : Int) < 0 by decide, zUd_i⟩
  · split
    · refine Or.inr ⟨?_, ?_⟩
      · show 0 ≤ zc_ct _ _
        exact zc_ctb.1
      · refine zUd_f (fun o k ho => ?_)
        show (zf_slp2 (zc_put (zf_kep3 W 2).2 52 _)).2 o k = _
        rw [zf_slp2_f (fun hm => by
          have h9 : o = 2 ∨ o = 50 ∨ o = 51 := by simpa using hm
          omega), zc_put_o (by omega)]
    · exact Or.inl ⟨show (-3 : Int) < 0 by decide, zUd_i⟩
theorem zU_dc3 {W : Nat → Nat → Int} {a : Int} (h3 : 0 ≤ W 2 3) : ((zf_mbyc W a).1 < 0 ∧ zUd W (zf_mbyc W a).2) ∨ (0 ≤ (zf_mbyc W a).1 ∧ zUd (zf_kep3 W 3).2 (zf_mbyc W a).2) := by
  unfold zf_mbyc
  by_cases c1 : 1 ≤ a ∧ a ≤ 9999
  · rw [if_pos c1]
    split
    · refine Or.inr ⟨?_, zUd_o (by decide) (by decide) (by decide) (zUd_o (by decide) (by decide) (by decide) zUd_i)⟩
      dsimp only
      omega
    · exact Or.inl ⟨show (-3 : Int) < 0 by decide, zUd_i⟩
  · rw [if_neg c1]
    exact Or.inl ⟨show (-1 : Int) < 0 by decide, zUd_i⟩
theorem zU_dc {W : Nat → Nat → Int} {n1 np : Nat} {Lw : List yK} {k a b : Int} (hl : ∀ p, p < 6 → 0 ≤ W 51 (2000 + p)) (h3 : 0 ≤ W 2 3) : ((zo_doC W n1 np Lw k a b).1 < 0 ∧ zUd W (zo_doC W n1 np Lw k a b).2) ∨ (0 ≤ (zo_doC W n1 np Lw k a b).1 ∧ zUd (zf_kep3 W (zo_s k)).2 (zo_doC W n1 np Lw k a b).2) := by
  unfold zo_doC zo_s
  by_cases c0 : k = 0
  · rw [if_pos c0, if_pos c0]
    exact zU_dc0
  · rw [if_neg c0, if_neg c0]
    by_cases c1 : k = 1
    · rw [if_pos c1, if_pos c1]
      exact zU_dc1 hl
    · rw [if_neg c1, if_neg c1]
      by_cases c2 : k = 2
      · rw [if_pos c2, if_pos c2]
        exact zU_dc2
      · rw [if_neg c2, if_neg c2]
        exact zU_dc3 h3
/-- what the relation of the rows says of the class's numbers -/
theorem zU_lw {V W : Nat → Nat → Int} {nu n1 np : Nat} {Lw : List yK} (hr : zRr V W) (hI : zRI V nu n1 np Lw) (hz : zRz V np) : (∀ p, p < 6 → 0 ≤ W 51 (2000 + p)) ∧ 0 ≤ W 2 3 ∧ (0 ≤ W 2 4 ∧ W 2 4 ≤ 1) := by
  obtain ⟨e5, e6, e8, e9, e10, -, -⟩ := zRr_5 hr
  refine ⟨fun p hp => ?_, ?_, ?_⟩
  · have h1 : W 51 (2000 + p) = V 3 (2000 + (3 * p + 13)) := Eq.trans (zRc_l (V := W) (g := 2) (b := 50) hp).symm (hr (3 * p + 13) (by omega))
    rw [h1]
    by_cases c : p < np
    · exact (hI.2.2.1.2.2.2.2.2 p c).1
    · rw [(hz.2 p (by omega) hp).2]
      exact Int.le_refl 0
  · rw [e8]
    exact hI.2.2.2.2.2.2.1.1
  · rw [e9]
    exact hz.1
theorem zU_do {V W : Nat → Nat → Int} {nu n1 np : Nat} {Lw : List yK} {k a b : Int} (hr : zRr V W) (hI : zRI V nu n1 np Lw) (hz : zRz V np) (he : (zo_doC W n1 np Lw k a b).1 = (zo_do V nu n1 np Lw k a b).1) (hm : zDm V n1) (hU : zUU V W n1 np) : zUU (zo_do V nu n1 np Lw k a b).2 (zo_doC W n1 np Lw k a b).2 n1 np := by
  obtain ⟨n, H, u1, u2, u3⟩ := hU
  have en : n = nu := by
    have h1 := u1.1
    have h2 := hI.2.1.1
    omega
  subst en
  have hk := zKr_do (V := V) (Lw := Lw) (k := k) (a := a) (b := b) hI.2.1.2 hI.2.2.1.1 hI.2.2.1.2.1
  obtain ⟨g1, g2, g3⟩ := zU_lw hr hI hz
  have hl : ∀ p, p < np → 0 ≤ V 3 (2000 + (3 * p + 13)) := fun p hp => (hI.2.2.1.2.2.2.2.2 p hp).1
  rcases zU_dr (nu := n) (n1 := n1) (Lw := Lw) (k := k) (a := a) (b := b) hl with ⟨a1, a2⟩ | ⟨a1, a2⟩
  · rcases zU_dc (n1 := n1) (np := np) (Lw := Lw) (k := k) (a := a) (b := b) g1 g2 with ⟨b1, b2⟩ | ⟨b1, b2⟩
    · exact ⟨n, H, zUr_e a2 u1, zUc_d b2 u2, zHo_e (fun j _ h8 => hk.1 j h8) u3⟩
    · omega
  · rcases zU_dc (n1 := n1) (np := np) (Lw := Lw) (k := k) (a := a) (b := b) g1 g2 with ⟨b1, b2⟩ | ⟨b1, b2⟩
    · omega
    · exact ⟨zHn n, zHr n H (zRw V) (zo_s k), zUr_e a2 (zUr_rem u1), zUc_d b2 (zUc_kep u2 hr g3), zHo_e (fun j _ h8 => hk.1 j h8) (zHo_rem u1.2.1 zo_s_b (zRok_i hI hz hm) u3)⟩
