/-! part lg: both sides agree: what is asked of all calls; the small calls -/
/-- the core: row, law in force, status, what can be undone -/
noncomputable def zCo (V W : Nat → Nat → Int) (n1 np : Nat) (Lw : List yK) : Prop := zRr V W ∧ zRok (zRw V) n1 np ∧ zLV V Lw ∧ V 0 47 = -1 ∧ zSt V W ∧ zUU V W n1 np
theorem zCo_I {V W : Nat → Nat → Int} {n1 np : Nat} {Lw : List yK} (h : zCo V W n1 np Lw) : ∃ nu : Nat, zRI V nu n1 np Lw ∧ zRz V np ∧ zDm V n1 := by
  obtain ⟨h1, ⟨d1, d2, d3, d4, d5, d6, d7, d8, d9⟩, h3, h4, h5, n, H, ⟨u1, u2, u3⟩, u4, u5⟩ := h
  exact ⟨n, ⟨h3, ⟨u1, u2⟩, d1, h4, d2, d3, d4, d5⟩, ⟨d6, d7⟩, d9⟩
theorem zCo_of {V W : Nat → Nat → Int} {nu n1 np : Nat} {Lw : List yK} (hr : zRr V W) (hI : zRI V nu n1 np Lw) (hz : zRz V np) (hm : zDm V n1) (hs : zSt V W) (hU : zUU V W n1 np) : zCo V W n1 np Lw := ⟨hr, zRok_i hI hz hm, hI.1, hI.2.2.2.1, hs, hU⟩
theorem zCo_n {V W : Nat → Nat → Int} {n1 np : Nat} {Lw : List yK} (h : zCo V W n1 np Lw) : (n1 ≤ 10 ∧ np ≤ 6) ∧ (V 3 (2000 + 1) = (n1 : Int) ∧ V 3 (2000 + 0) = (np : Int)) ∧ W 1 3 = (n1 : Int) ∧ W 1 1 = (np : Int) := by
  obtain ⟨h1, ⟨d1, -⟩, -⟩ := h
  have e1 : V 3 (2000 + 1) = (n1 : Int) := d1.2.2.1
  have e0 : V 3 (2000 + 0) = (np : Int) := d1.2.2.2.1
  exact ⟨⟨d1.1, d1.2.1⟩, ⟨e1, e0⟩, (h1 1 (by decide)).trans e1, (h1 0 (by decide)).trans e0⟩
/-- what the core rests on in the class -/
noncomputable def zCc (o k : Nat) : Prop := o = 1 ∨ o = 2 ∨ o = 3 ∨ o = 20 ∨ (30 ≤ o ∧ o < 40) ∨ (50 ≤ o ∧ o < 53) ∨ o = 62 ∨ o = 63 ∨ (o = 0 ∧ k = 18)
/-- in the reference -/
noncomputable def zCr (o k : Nat) : Prop := o = 2 ∨ o = 3 ∨ (o = 6 ∧ k < 2544) ∨ o = 7 ∨ (o = 0 ∧ (k = 1 ∨ k = 8 ∨ k = 20 ∨ k = 47))
theorem zCo_e {V V' W W' : Nat → Nat → Int} {n1 np : Nat} {Lw : List yK} (hV : ∀ o k, zCr o k → V' o k = V o k) (hW : ∀ o k, zCc o k → W' o k = W o k) (h : zCo V W n1 np Lw) : zCo V' W' n1 np Lw := by
  obtain ⟨h1, h2, h3, h4, h5, h6⟩ := h
  have v3 : ∀ k, V' 3 k = V 3 k := fun k => hV _ _ (by unfold zCr; omega)
  refine ⟨zRr_e h1 (fun j _ => v3 _) (fun o k ho => hW _ _ (by unfold zCc; omega)), zRok_q (fun j _ => v3 _) h2, zLV_e v3 (hV _ _ (by unfold zCr; omega)) h3, (hV _ _ (by unfold zCr; omega)).trans h4, zSt_e h5 (hV _ _ (by unfold zCr; omega)) (fun k => hV _ _ (by unfold zCr; omega)) (hW _ _ (by unfold zCc; omega)) (fun k => hW _ _ (by unfold zCc; omega)), zUU_e ⟨hV _ _ (by unfold zCr; omega), fun j hj => hV _ _ (by unfold zCr; omega), fun j hj => hV _ _ (by unfold zCr; omega)⟩ (fun j _ _ => v3 _) ⟨hW _ _ (by unfold zCc; omega), hW _ _ (by unfold zCc; omega), fun j hj => hW _ _ (by unfold zCc; omega), fun j hj => hW _ _ (by unfold zCc; omega)⟩ h6⟩
theorem zCo_0 {V W : Nat → Nat → Int} {n1 np : Nat} {Lw : List yK} {v : Int} (h : zCo V W n1 np Lw) : zCo (zp_set V 0 0 v) W n1 np Lw := zCo_e (fun o k ho => zp_set_ne (by unfold zCr at ho; omega)) (fun _ _ _ => rfl) h
/-- what tells, refuses leaves -/
theorem zT_tell_k {V : Nat → Nat → Int} {v : Int} {o k : Nat} (h : o ≠ 2) (h0 : o ≠ 0 ∨ k ≠ 1) : zT_tell V v o k = V o k := by
  unfold zT_tell
  split
  · exact (zp_set_ne (Or.inl h)).trans (zp_set_ne h0)
  · exact zp_set_ne h0
theorem zf_rfs_1 {W : Nat → Nat → Int} {v : Int} : (zf_rfs W v).1 = v := by
  unfold zf_rfs
  repeat' split
  all_goals rfl
theorem zf_rfs_k {W : Nat → Nat → Int} {v : Int} {o k : Nat} (h : o ≠ 20) (h0 : o ≠ 0 ∨ k ≠ 18) : (zf_rfs W v).2 o k = W o k := by
  unfold zf_rfs
  repeat' split
  all_goals first | exact zp_set_ne h0 | exact (zp_set_ne (Or.inl h)).trans (zp_set_ne h0)
theorem zf_stc_1 {W : Nat → Nat → Int} {v : Int} : (zf_stc W v).1 = v := by
  unfold zf_stc
  split
  · rfl
  · exact zf_rfs_1
theorem zf_stc_k {W : Nat → Nat → Int} {v : Int} {o k : Nat} (h : o ≠ 20) (h0 : o ≠ 0 ∨ k ≠ 18) : (zf_stc W v).2 o k = W o k := by
  unfold zf_stc
  split
  · exact zp_set_ne h0
  · exact zf_rfs_k h h0
/-- an answer is told on both sides -/
theorem zCo_st {V W : Nat → Nat → Int} {n1 np : Nat} {Lw : List yK} {v : Int} (h : zCo V W n1 np Lw) (h6 : -6 ≤ v) : zCo (zT_tell V v) (zf_stc W v).2 n1 np Lw := by
  obtain ⟨h1, h2, h3, h4, h5, h7⟩ := h
  have v3 : ∀ k, zT_tell V v 3 k = V 3 k := fun k => zT_tell_k (by decide) (Or.inl (by decide))
  refine ⟨zRr_e h1 (fun j _ => v3 _) (fun o k ho => zf_stc_k (by omega) (Or.inl (by omega))), zRok_q (fun j _ => v3 _) h2, zLV_e v3 (zT_tell_k (by decide) (Or.inr (by decide))) h3, (zT_tell_k (by decide) (Or.inr (by decide))).trans h4, zSt_stc h5 h6, zUU_e zU_tell (fun j _ _ => v3 _) (zUd_f (fun o k ho => zf_stc_k (by omega) (Or.inl (by omega)))) h7⟩
theorem zCo_rf {V W : Nat → Nat → Int} {n1 np : Nat} {Lw : List yK} {v : Int} (h : zCo V W n1 np Lw) (h6 : -6 ≤ v) (h0 : v < 0) : zCo (zT_tell (zp_set V 0 0 0) v) (zf_rfs W v).2 n1 np Lw := by
  have h9 := zCo_st (zCo_0 (v := 0) h) h6
  unfold zf_stc at h9
  rw [if_neg (by omega)] at h9
  exact h9
theorem zCo_an {V W : Nat → Nat → Int} {n1 np : Nat} {Lw : List yK} {v v' : Int} (h : zCo V W n1 np Lw) (h0 : 0 ≤ v) : zCo (zT_tell V v) (zf_ans W v').2 n1 np Lw := by
  have h9 := zCo_st h (v := v) (by omega)
  unfold zf_stc at h9
  rw [if_pos h0] at h9
  exact h9
/-- told by the field alone -/
theorem zCo_a1 {V W : Nat → Nat → Int} {n1 np : Nat} {Lw : List yK} {v' : Int} (h : zCo V W n1 np Lw) : zCo (zp_set V 0 1 0) (zf_ans W v').2 n1 np Lw := by
  have h9 := zCo_an (v := 0) (v' := v') h (Int.le_refl 0)
  have e : zT_tell V 0 = zp_set V 0 1 0 := if_neg (by decide)
  rw [e] at h9
  exact h9
/-- places of the row -/
theorem zPl_11 : ∀ p, p < 6 → zPl (3 * p + 11) = (50, 2000 + p) ∧ zPl (3 * p + 12) = (31, 2000 + p) ∧ zPl (3 * p + 13) = (51, 2000 + p) := by decide +kernel
theorem zPl_39 : ∀ w, w < 10 → zPl (5 * w + 39) = (32, 2000 + w) ∧ zPl (5 * w + 40) = (33, 2000 + w) ∧ zPl (5 * w + 41) = (34, 2000 + w) ∧ zPl (5 * w + 42) = (35, 2000 + w) ∧ zPl (5 * w + 43) = (36, 2000 + w) ∧ zPl (w + 29) = (52, 2000 + w) := by decide +kernel
theorem zPl_89 : ∀ j, j < 64 → zPl (j + 89) = (30, 2000 + j) := by decide +kernel
theorem zPl_153 : ∀ k, k < 8 → zPl (3 * k + 153) = (37, 2000 + k) ∧ zPl (3 * k + 154) = (38, 2000 + k) ∧ zPl (3 * k + 155) = (39, 2000 + k) := by decide +kernel
theorem zRr_sp {V W : Nat → Nat → Int} {j o k : Nat} {v : Int} (h : zRr V W) (hj : j < 180) (hp : zPl j = (o, k)) : zRr (zp_set V 3 (2000 + j) v) (zp_set W o k v) := by
  have h1 := zRr_s (v := v) h hj
  rw [hp] at h1
  exact h1
theorem zRr_gt {V W : Nat → Nat → Int} {j o k : Nat} (h : zRr V W) (hj : j < 180) (hp : zPl j = (o, k)) : W o k = V 3 (2000 + j) := by
  have h1 := h j hj
  rw [zRc_pl, hp] at h1
  exact h1
theorem zp_set_comm {M : Nat → Nat → Int} {a k b j : Nat} {v x : Int} (h : a ≠ b ∨ k ≠ j) : zp_set (zp_set M a k v) b j x = zp_set (zp_set M b j x) a k v := by
  funext o i
  unfold zp_set
  by_cases c : o = b ∧ i = j
  · rw [if_pos c, if_neg (by omega), if_pos c]
  · rw [if_neg c]
    by_cases d : o = a ∧ i = k
    · rw [if_pos d, if_pos d]
    · rw [if_neg d, if_neg d, if_neg c]
theorem zRr_0 {V W : Nat → Nat → Int} {o k : Nat} {v : Int} (ho : o ≠ 3) (h : zRr V W) : zRr (zp_set V o k v) W := zRr_v h (fun j _ => zp_set_ne (Or.inl (Ne.symm ho)))
theorem zRr_c {V W : Nat → Nat → Int} {o k : Nat} {v : Int} (ho : ¬ (o = 1 ∨ o = 2 ∨ (30 ≤ o ∧ o < 40) ∨ (50 ≤ o ∧ o < 53))) (h : zRr V W) : zRr V (zp_set W o k v) := zRr_e h (fun _ _ => rfl) (fun o' k' ho' => zp_set_ne (Or.inl (fun e => ho (e ▸ ho'))))
/-- a number of the row is changed, within what may stand -/
noncomputable def zRm (j n1 np : Nat) (v : Int) : Prop := (-2147483648 ≤ v ∧ v ≤ 2147483647) ∧ j ≠ 0 ∧ j ≠ 1 ∧ (j = 5 → 0 ≤ v ∧ v ≤ 999) ∧ (j = 8 → 0 ≤ v ∧ v ≤ 9999) ∧ (j = 9 → 0 ≤ v ∧ v ≤ 1) ∧ (j = 10 → -1 ≤ v ∧ v ≤ 12) ∧ (∀ p, p < np → (j = 3 * p + 11 ∨ j = 3 * p + 13) → 0 ≤ v ∧ v ≤ 9) ∧ (∀ p, np ≤ p → p < 6 → j ≠ 3 * p + 11 ∧ j ≠ 3 * p + 13) ∧ (∀ w, w < n1 → (j ≠ w + 29 ∧ j ≠ 5 * w + 40) ∧ (j = 5 * w + 43 → -1 ≤ v ∧ v < (n1 : Int)))
theorem zRok_s {V : Nat → Nat → Int} {n1 np j : Nat} {v : Int} (hv : zRm j n1 np v) (h : zRok (zRw V) n1 np) : zRok (zRw (zp_set V 3 (2000 + j) v)) n1 np := by
  obtain ⟨⟨d1, d2, d3, d4, d5, d6⟩, e2, e3, e4, e5, e6, e7, e8, e9⟩ := h
  obtain ⟨v1, v2, v3, v4, v5, v6, v7, v8, v9, va⟩ := hv
  have e : ∀ i, zRw (zp_set V 3 (2000 + j) v) i = if i = j then v else zRw V i := fun i => by
    show zp_set V 3 (2000 + j) v 3 (2000 + i) = _
    by_cases c : i = j
    · rw [if_pos c, c, zp_set_self]
    · rw [if_neg c, zp_set_ne (Or.inr (by omega))]
      rfl
  refine ⟨⟨d1, d2, ?_, ?_, fun w hw => ?_, fun p hp => ?_⟩, ?_, ?_, ?_, fun p hp => ?_, ?_, fun p h1 h2 => ?_, fun i hi => ?_, fun w hw => ?_⟩
  · rw [e, if_neg (Ne.symm v3)]
    exact d3
  · rw [e, if_neg (Ne.symm v2)]
    exact d4
  · obtain ⟨f1, f2, f3, f4, f5, f6⟩ := d5 w hw
    obtain ⟨g1, g2⟩ := va w hw
    rw [e (5 * w + 43), e (5 * w + 40), e (w + 29)]
    rw [if_neg (show ¬ 5 * w + 40 = j from fun z => g1.2 z.symm), if_neg (show ¬ w + 29 = j from fun z => g1.1 z.symm)]
    refine ⟨?_, ?_, f3, f4, f5, f6⟩
    · by_cases c : 5 * w + 43 = j
      · rw [if_pos c]
        exact (g2 c.symm).1
      · rw [if_neg c]
        exact f1
    · by_cases c : 5 * w + 43 = j
      · rw [if_pos c]
        exact (g2 c.symm).2
      · rw [if_neg c]
        exact f2
  · rw [e]
    by_cases c : 3 * p + 13 = j
    · rw [if_pos c]
      exact v8 p hp (Or.inr c.symm)
    · rw [if_neg c]
      exact d6 p hp
  · rw [e]
    by_cases c : 10 = j
    · rw [if_pos c]
      exact v7 c.symm
    · rw [if_neg c]
      exact e2
  · rw [e]
    by_cases c : 5 = j
    · rw [if_pos c]
      exact v4 c.symm
    · rw [if_neg c]
      exact e3
  · rw [e]
    by_cases c : 8 = j
    · rw [if_pos c]
      exact v5 c.symm
    · rw [if_neg c]
      exact e4
  · rw [e]
    by_cases c : 3 * p + 11 = j
    · rw [if_pos c]
      exact v8 p hp (Or.inl c.symm)
    · rw [if_neg c]
      exact e5 p hp
  · rw [e]
    by_cases c : 9 = j
    · rw [if_pos c]
      exact v6 c.symm
    · rw [if_neg c]
      exact e6
  · obtain ⟨g1, g2⟩ := v9 p h1 h2
    rw [e, e, if_neg (Ne.symm g1), if_neg (Ne.symm g2)]
    exact e7 p h1 h2
  · rw [e]
    by_cases c : i = j
    · rw [if_pos c]
      exact v1
    · rw [if_neg c]
      exact e8 i hi
  · obtain ⟨g1, g2⟩ := va w hw
    rw [e (w + 29), e (5 * w + 40), if_neg (show ¬ w + 29 = j from fun z => g1.1 z.symm), if_neg (show ¬ 5 * w + 40 = j from fun z => g1.2 z.symm)]
    exact e9 w hw
theorem zRok_o {V : Nat → Nat → Int} {n1 np o k : Nat} {v : Int} (ho : o ≠ 3) (h : zRok (zRw V) n1 np) : zRok (zRw (zp_set V o k v)) n1 np := zRok_q (fun j _ => zp_set_ne (Or.inl (Ne.symm ho))) h
/-- a number that no doing touches is changed: rows that can be undone have it changed, too -/
theorem zUo_q {W : Nat → Nat → Int} {t : Nat} {R R' : Nat → Int} (h : ∀ i, 5 ≤ i → R' i = R i) (hU : zUo W t R) : zUo W t R' := by
  obtain ⟨a1, a2, a3, a4, a5, a6⟩ := hU
  exact ⟨fun p hp => ⟨(a1 p hp).1.trans (h _ (by omega)).symm, (a1 p hp).2.trans (h _ (by omega)).symm⟩, fun w hw => (a2 w hw).trans (h _ (by omega)).symm, a3.trans (h _ (by omega)).symm, a4.trans (h _ (by omega)).symm, a5.trans (h _ (by omega)).symm, a6.trans (h _ (by omega)).symm⟩
theorem zRok_q2 {R R' : Nat → Int} {n1 np : Nat} (h : ∀ j, j < 89 → (j < 2 ∨ 5 ≤ j) → R' j = R j) (hb : ∀ j, j < 89 → -2147483648 ≤ R' j ∧ R' j ≤ 2147483647) (hd : zRok R n1 np) : zRok R' n1 np := by
  obtain ⟨⟨d1, d2, d3, d4, d5, d6⟩, e2, e3, e4, e5, e6, e7, e8, e9⟩ := hd
  refine ⟨⟨d1, d2, ?_, ?_, fun w hw => ?_, fun p hp => ?_⟩, ?_, ?_, ?_, fun p hp => ?_, ?_, fun p h1 h2 => ?_, hb, fun w hw => ?_⟩
  · rw [h 1 (by decide) (by omega)]
    exact d3
  · rw [h 0 (by decide) (by omega)]
    exact d4
  · rw [h (5 * w + 43) (by omega) (by omega), h (5 * w + 40) (by omega) (by omega), h (w + 29) (by omega) (by omega)]
    exact d5 w hw
  · rw [h _ (by omega) (by omega)]
    exact d6 p hp
  · rw [h 10 (by decide) (by omega)]
    exact e2
  · rw [h 5 (by decide) (by omega)]
    exact e3
  · rw [h 8 (by decide) (by omega)]
    exact e4
  · rw [h _ (by omega) (by omega)]
    exact e5 p hp
  · rw [h 9 (by decide) (by omega)]
    exact e6
  · rw [h _ (by omega) (by omega), h _ (by omega) (by omega)]
    exact e7 p h1 h2
  · rw [h (w + 29) (by omega) (by omega), h (5 * w + 40) (by omega) (by omega)]
    exact e9 w hw
theorem zUU_p {V W : Nat → Nat → Int} {n1 np j : Nat} {v : Int} (hj : 2 ≤ j ∧ j ≤ 4) (hv : -2147483648 ≤ v ∧ v ≤ 2147483647) (h : zUU V W n1 np) : zUU (zp_set V 3 (2000 + j) v) W n1 np := by
  obtain ⟨n, H, ⟨u1, u2, u3⟩, ⟨f, f1, f2, f3⟩, h4⟩ := h
  refine ⟨n, fun k => (fun i => if i = j then v else (H k).1 i, (H k).2), ⟨(zp_set_ne (Or.inl (by decide))).trans u1, u2, fun k hk => ⟨(zp_set_ne (Or.inl (by decide))).trans (u3 k hk).1, fun i hi => ?_⟩⟩, ⟨f, f1, f2, fun k hk => ⟨(f3 k hk).1, zUo_q (fun i hi => if_neg (by omega)) (f3 k hk).2⟩⟩, fun k hk => ⟨(h4 k hk).1, fun i h1 h2 => ?_, zRok_q2 (fun i _ hi => if_neg (by omega)) (fun i hi => ?_) (h4 k hk).2.2⟩⟩
  · refine (zp_set_ne (Or.inl (by decide))).trans (((u3 k hk).2 i hi).trans ?_)
    exact (if_neg (by omega)).symm
  · show (if i = j then v else (H k).1 i) = zp_set V 3 (2000 + j) v 3 (2000 + i)
    by_cases c : i = j
    · rw [if_pos c, c, zp_set_self]
    · rw [if_neg c, zp_set_ne (Or.inr (by omega))]
      exact (h4 k hk).2.1 i h1 h2
  · show -2147483648 ≤ (if i = j then v else (H k).1 i) ∧ (if i = j then v else (H k).1 i) ≤ 2147483647
    have h8 := (h4 k hk).2.2.2.2.2.2.2.2.2.1 i hi
    split
    · exact hv
    · exact h8
/-- roads -/
theorem zS_roa {V W : Nat → Nat → Int} {n1 np : Nat} {Lw : List yK} {p1 p2 p3 : Int} (h : zCo V W n1 np Lw) : (zf_roac W p1 p2 p3).1 = (zf_roa V p1 p2 p3).1 ∧ zCo (zf_roa V p1 p2 p3).2 (zf_roac W p1 p2 p3).2 n1 np Lw := by
  have rf : ((zf_rfs W (-1)).1 = (-1 : Int)) ∧ zCo (zT_tell (zp_set V 0 0 0) (-1)) (zf_rfs W (-1)).2 n1 np Lw := ⟨zf_rfs_1, zCo_rf h (by decide) (by decide)⟩
  unfold zf_roac zf_roa
  by_cases c1 : 0 ≤ p1 ∧ p1 ≤ 7
  · rw [if_pos c1, if_pos c1]
    by_cases c2 : 0 ≤ p2 ∧ p2 ≤ 7
    · rw [if_pos c2, if_pos c2]
      by_cases c3 : p1 = p2
      · rw [if_pos c3, if_pos c3]
        exact rf
      · rw [if_neg c3, if_neg c3]
        by_cases c4 : 0 ≤ p3 ∧ p3 ≤ 99
        · rw [if_pos c4, if_pos c4]
          have q1 := zPl_89 (8 * p1.toNat + p2.toNat) (by omega)
          have q2 := zPl_89 (8 * p2.toNat + p1.toNat) (by omega)
          have hg := zRr_gt h.1 (by omega) q1
          refine ⟨hg, ?_⟩
          obtain ⟨h1, h2, h3, h4, h5, h6⟩ := h
          have hm : ∀ j, 89 ≤ j → zRm j n1 np p3 := fun j hj => by
            have hnp := h2.1.2.1
            have hn1 := h2.1.1
            refine ⟨by omega, by omega, by omega, by omega, by omega, by omega, by omega, fun p hp hq => by omega, fun p _ hp => by omega, fun w hw => ⟨by omega, fun hq => by omega⟩⟩
          have hc : zCo (zp_set (zp_set (zp_set V 0 0 0) 3 (2000 + (8 * p2.toNat + p1.toNat + 89)) p3) 3 (2000 + (8 * p1.toNat + p2.toNat + 89)) p3) (zp_set (zp_set W 30 (2000 + (8 * p1.toNat + p2.toNat)) p3) 30 (2000 + (8 * p2.toNat + p1.toNat)) p3) n1 np Lw := by
            refine ⟨?_, zRok_s (hm _ (by omega)) (zRok_s (hm _ (by omega)) (zRok_o (by decide) h2)), zLV_3 (by omega) (by omega) (by omega) (zLV_3 (by omega) (by omega) (by omega) (zLV_o (by decide) (Or.inr (by decide)) h3)), ?_, ?_, ?_⟩
            · rw [zp_set_comm (M := W) (Or.inr (by omega))]
              exact zRr_sp (zRr_sp (zRr_0 (by decide) h1) (by omega) q2) (by omega) q1
            · exact (zp_set_ne (Or.inl (by decide))).trans ((zp_set_ne (Or.inl (by decide))).trans ((zp_set_ne (Or.inr (by decide))).trans h4))
            · exact zSt_e h5 ((zp_set_ne (Or.inl (by decide))).trans ((zp_set_ne (Or.inl (by decide))).trans (zp_set_ne (Or.inr (by decide))))) (fun k => (zp_set_ne (Or.inl (by decide))).trans ((zp_set_ne (Or.inl (by decide))).trans (zp_set_ne (Or.inl (by decide))))) ((zp_set_ne (Or.inl (by decide))).trans (zp_set_ne (Or.inl (by decide)))) (fun k => (zp_set_ne (Or.inl (by decide))).trans (zp_set_ne (Or.inl (by decide))))
            · exact zUU_e (zUe_o (Or.inl (by decide)) (by decide) (by decide) (zUe_o (Or.inl (by decide)) (by decide) (by decide) (zUe_o (Or.inr (by decide)) (by decide) (by decide) zUe_i))) (fun j hj _ => (zp_set_ne (Or.inr (by omega))).trans ((zp_set_ne (Or.inr (by omega))).trans (zp_set_ne (Or.inl (by decide))))) (zUd_o (by decide) (by decide) (by decide) (zUd_o (by decide) (by decide) (by decide) zUd_i)) h6
          exact zCo_a1 hc
        · rw [if_neg c4, if_neg c4]
          exact rf
    · rw [if_neg c2, if_neg c2]
      exact rf
  · rw [if_neg c1, if_neg c1]
    exact rf
/-- a number of the row is changed by a call behind which nothing can be undone -/
theorem zCo_ch {V W : Nat → Nat → Int} {n1 np : Nat} {Lw : List yK} {j o k : Nat} {v v' : Int} (h : zCo V W n1 np Lw) (hj : j < 89) (h4 : j ≠ 4) (hp : zPl j = (o, k)) (ho : o ≠ 3 ∧ o ≠ 0 ∧ o ≠ 20) (hm : zRm j n1 np v) : zCo (zp_set (zp_set (zp_set (zp_set V 0 0 0) 0 8 0) 3 (2000 + j) v) 0 1 0) (zf_ans (zf_clr3 (zp_set W o k v)).2 v').2 n1 np Lw := by
  obtain ⟨h1, h2, h3, h47, h5, h6⟩ := h
  obtain ⟨f, f1, f2⟩ := zUU_f h6
  refine zCo_a1 ⟨?_, zRok_s hm (zRok_o (by decide) (zRok_o (by decide) h2)), zLV_3 (by omega) h4 hm.1 (zLV_o (by decide) (Or.inr (by decide)) (zLV_o (by decide) (Or.inr (by decide)) h3)), ?_, ?_, ?_⟩
  · exact zRr_c (by omega) (zRr_sp (zRr_0 (by decide) (zRr_0 (by decide) h1)) (by omega) hp)
  · exact (zp_set_ne (Or.inl (by decide))).trans ((zp_set_ne (Or.inr (by decide))).trans ((zp_set_ne (Or.inr (by decide))).trans h47))
  · exact zSt_e h5 (by simp (disch := omega) only [zf_ans, zf_clr3, zp_set_ne, zp_set_self]) (fun k => by simp (disch := omega) only [zf_ans, zf_clr3, zp_set_ne, zp_set_self]) (by simp (disch := omega) only [zf_ans, zf_clr3, zp_set_ne, zp_set_self]) (fun k => by simp (disch := omega) only [zf_ans, zf_clr3, zp_set_ne, zp_set_self])
  · refine zUU_0 (f := f) ?_ ?_ ?_ f2
    · simp (disch := omega) only [zf_ans, zf_clr3, zp_set_ne, zp_set_self]
    · simp (disch := omega) only [zf_ans, zf_clr3, zp_set_ne, zp_set_self]
    · simp (disch := omega) only [zf_ans, zf_clr3, zp_set_ne, zp_set_self]
      exact f1
theorem zS_oil {V W : Nat → Nat → Int} {n1 np : Nat} {Lw : List yK} {p1 p2 : Int} (h : zCo V W n1 np Lw) : (zf_oilc W p1 p2).1 = (zf_oil V np p1 p2).1 ∧ zCo (zf_oil V np p1 p2).2 (zf_oilc W p1 p2).2 n1 np Lw := by
  obtain ⟨⟨hn1, hnp⟩, -, -, e1⟩ := zCo_n h
  unfold zf_oilc zf_oil
  rw [e1]
  by_cases c1 : 0 ≤ p2 ∧ p2 ≤ 9
  · rw [if_pos c1, if_pos c1]
    by_cases c2 : 0 ≤ p1 ∧ p1 < (np : Int)
    · rw [if_pos (show 0 ≤ p1 ∧ p1 < (np : Int) ∧ p1 < 6 by omega), if_pos c2]
      obtain ⟨q1, -, -⟩ := zPl_11 p1.toNat (by omega)
      refine ⟨zRr_gt h.1 (by omega) q1, zCo_ch h (by omega) (by omega) q1 (by decide) ?_⟩
      exact ⟨by omega, by omega, by omega, by omega, by omega, by omega, by omega, fun p hp hq => by omega, fun p _ hp => by omega, fun w hw => ⟨by omega, fun hq => by omega⟩⟩
    · rw [if_neg (show ¬ (0 ≤ p1 ∧ p1 < (np : Int) ∧ p1 < 6) by omega), if_neg c2]
      exact ⟨zf_rfs_1, zCo_rf h (by decide) (by decide)⟩
  · rw [if_neg c1, if_neg c1]
    exact ⟨zf_rfs_1, zCo_rf h (by decide) (by decide)⟩
theorem zS_ter {V W : Nat → Nat → Int} {n1 np : Nat} {Lw : List yK} {p1 p2 : Int} (h : zCo V W n1 np Lw) : (zf_terc W p1 p2).1 = (zf_ter V p1 p2).1 ∧ zCo (zf_ter V p1 p2).2 (zf_terc W p1 p2).2 n1 np Lw := by
  obtain ⟨⟨hn1, hnp⟩, -, -, -⟩ := zCo_n h
  have rf : ((zf_rfs W (-1)).1 = (-1 : Int)) ∧ zCo (zT_tell (zp_set V 0 0 0) (-1)) (zf_rfs W (-1)).2 n1 np Lw := ⟨zf_rfs_1, zCo_rf h (by decide) (by decide)⟩
  unfold zf_terc zf_ter
  by_cases c0 : ¬ p1 = 0
  · rw [if_pos c0, if_pos c0]
    by_cases c1 : ¬ p1 = 1
    · rw [if_pos c1, if_pos c1]
      by_cases c2 : ¬ p1 = 2
      · rw [if_pos c2, if_pos c2]
        exact rf
      · rw [if_neg c2, if_neg c2]
        by_cases c3 : 0 ≤ p2 ∧ p2 ≤ 9
        · rw [if_pos c3, if_pos c3]
          refine ⟨zRr_gt h.1 (j := 7) (by decide) rfl, zCo_ch h (j := 7) (by decide) (by decide) rfl (by decide) ?_⟩
          exact ⟨by omega, by omega, by omega, by omega, by omega, by omega, by omega, fun p hp hq => by omega, fun p _ hp => by omega, fun w hw => ⟨by omega, fun hq => by omega⟩⟩
        · rw [if_neg c3, if_neg c3]
          exact rf
    · rw [if_neg c1, if_neg c1]
      by_cases c3 : 1 ≤ p2 ∧ p2 ≤ 9
      · rw [if_pos c3, if_pos c3]
        refine ⟨zRr_gt h.1 (j := 6) (by decide) rfl, zCo_ch h (j := 6) (by decide) (by decide) rfl (by decide) ?_⟩
        exact ⟨by omega, by omega, by omega, by omega, by omega, by omega, by omega, fun p hp hq => by omega, fun p _ hp => by omega, fun w hw => ⟨by omega, fun hq => by omega⟩⟩
      · rw [if_neg c3, if_neg c3]
        exact rf
  · rw [if_neg c0, if_neg c0]
    by_cases c3 : 0 ≤ p2 ∧ p2 ≤ 999
    · rw [if_pos c3, if_pos c3]
      refine ⟨zRr_gt h.1 (j := 5) (by decide) rfl, zCo_ch h (j := 5) (by decide) (by decide) rfl (by decide) ?_⟩
      exact ⟨by omega, by omega, by omega, by omega, by omega, by omega, by omega, fun p hp hq => by omega, fun p _ hp => by omega, fun w hw => ⟨by omega, fun hq => by omega⟩⟩
    · rw [if_neg c3, if_neg c3]
      exact rf
/-- one more person, work -/
theorem zRok_p {V : Nat → Nat → Int} {n1 np : Nat} {a b c : Int} (hnp : np < 6) (ha : 0 ≤ a ∧ a ≤ 9) (hb : 0 ≤ b ∧ b ≤ 7) (hc : c = 0) (h : zRok (zRw V) n1 np) : zRok (zRw (zp_set (zp_set (zp_set (zp_set V 3 (2000 + (3 * np + 11)) a) 3 (2000 + (3 * np + 12)) b) 3 (2000 + (3 * np + 13)) c) 3 (2000 + 0) ((np : Int) + 1))) n1 (np + 1) := by
  obtain ⟨⟨d1, d2, d3, d4, d5, d6⟩, e2, e3, e4, e5, e6, e7, e8, e9⟩ := h
  have e : ∀ i, zRw (zp_set (zp_set (zp_set (zp_set V 3 (2000 + (3 * np + 11)) a) 3 (2000 + (3 * np + 12)) b) 3 (2000 + (3 * np + 13)) c) 3 (2000 + 0) ((np : Int) + 1)) i = if i = 0 then (np : Int) + 1 else if i = 3 * np + 13 then c else if i = 3 * np + 12 then b else if i = 3 * np + 11 then a else zRw V i := fun i => by
    show zp_set (zp_set (zp_set (zp_set V 3 (2000 + (3 * np + 11)) a) 3 (2000 + (3 * np + 12)) b) 3 (2000 + (3 * np + 13)) c) 3 (2000 + 0) ((np : Int) + 1) 3 (2000 + i) = _
    by_cases c0 : i = 0
    · rw [if_pos c0, c0, zp_set_self]
    · rw [if_neg c0, zp_set_ne (Or.inr (by omega))]
      by_cases c1 : i = 3 * np + 13
      · rw [if_pos c1, c1, zp_set_self]
      · rw [if_neg c1, zp_set_ne (Or.inr (by omega))]
        by_cases c2 : i = 3 * np + 12
        · rw [if_pos c2, c2, zp_set_self]
        · rw [if_neg c2, zp_set_ne (Or.inr (by omega))]
          by_cases c3 : i = 3 * np + 11
          · rw [if_pos c3, c3, zp_set_self]
          · rw [if_neg c3, zp_set_ne (Or.inr (by omega))]
            rfl
  refine ⟨⟨d1, by omega, ?_, ?_, fun w hw => ?_, fun p hp => ?_⟩, ?_, ?_, ?_, fun p hp => ?_, ?_, fun p h1 h2 => ?_, fun i hi => ?_, fun w hw => ?_⟩
  · rw [e, if_neg (by omega), if_neg (by omega), if_neg (by omega), if_neg (by omega)]
    exact d3
  · rw [e, if_pos rfl]
    omega
  · rw [e (5 * w + 43), e (5 * w + 40), e (w + 29), if_neg (by omega), if_neg (by omega), if_neg (by omega), if_neg (by omega), if_neg (by omega), if_neg (by omega), if_neg (by omega), if_neg (by omega), if_neg (by omega), if_neg (by omega), if_neg (by omega), if_neg (by omega)]
    exact d5 w hw
  · rw [e, if_neg (by omega)]
    by_cases c1 : 3 * p + 13 = 3 * np + 13
    · rw [if_pos c1]
      omega
    · rw [if_neg c1, if_neg (by omega), if_neg (by omega)]
      exact d6 p (by omega)
  · rw [e, if_neg (by omega), if_neg (by omega), if_neg (by omega), if_neg (by omega)]
    exact e2
  · rw [e, if_neg (by omega), if_neg (by omega), if_neg (by omega), if_neg (by omega)]
    exact e3
  · rw [e, if_neg (by omega), if_neg (by omega), if_neg (by omega), if_neg (by omega)]
    exact e4
  · rw [e, if_neg (by omega), if_neg (by omega), if_neg (by omega)]
    by_cases c1 : 3 * p + 11 = 3 * np + 11
    · rw [if_pos c1]
      exact ha
    · rw [if_neg c1]
      exact e5 p (by omega)
  · rw [e, if_neg (by omega), if_neg (by omega), if_neg (by omega), if_neg (by omega)]
    exact e6
  · rw [e (3 * p + 11), e (3 * p + 13), if_neg (by omega), if_neg (by omega), if_neg (by omega), if_neg (by omega), if_neg (by omega), if_neg (by omega), if_neg (by omega), if_neg (by omega)]
    exact e7 p (by omega) h2
  · rw [e]
    have h8 := e8 i hi
    split
    · omega
    · split
      · omega
      · split
        · omega
        · split
          · omega
          · exact h8
  · rw [e (w + 29), e (5 * w + 40), if_neg (by omega), if_neg (by omega), if_neg (by omega), if_neg (by omega), if_neg (by omega), if_neg (by omega), if_neg (by omega), if_neg (by omega)]
    exact e9 w hw
theorem zf_stl_0 {V : Nat → Nat → Int} {v : Int} (h : 0 ≤ v) : (zf_stl V v).2 = zp_set (zp_set V 0 8 0) 0 1 0 := by
  unfold zf_stl
  rw [if_pos h]
  exact if_neg (by omega)
theorem zS_per {V W : Nat → Nat → Int} {n1 np : Nat} {Lw : List yK} {p1 p2 : Int} (h : zCo V W n1 np Lw) : (zf_perc W p1 p2).1 = (zf_per V np p1 p2).1 ∧ ∃ np' : Nat, zCo (zf_per V np p1 p2).2 (zf_perc W p1 p2).2 n1 np' Lw := by
  obtain ⟨⟨hn1, hnp⟩, -, -, e1⟩ := zCo_n h
  have rf : ∀ v : Int, -6 ≤ v → v < 0 → ((zf_rfs W v).1 = v) ∧ ∃ np' : Nat, zCo (zT_tell (zp_set V 0 0 0) v) (zf_rfs W v).2 n1 np' Lw := fun v h1 h2 => ⟨zf_rfs_1, np, zCo_rf h h1 h2⟩
  unfold zf_perc zf_per
  rw [e1]
  by_cases c1 : 0 ≤ p1 ∧ p1 ≤ 9
  · rw [if_pos c1, if_pos c1]
    by_cases c2 : 0 ≤ p2 ∧ p2 ≤ 7
    · rw [if_pos c2, if_pos c2]
      by_cases c3 : np < 6
      · rw [if_pos (show (np : Int) < 6 by omega), if_pos (show ¬ (np : Int) = 6 by omega)]
        obtain ⟨q1, q2, q3⟩ := zPl_11 np c3
        have a1 : (zf_clr3 W).2 1 1 = (np : Int) := (zf_clr3_f (by decide)).trans e1
        have e2 : zf_adp1 (zf_clr3 W).2 p1 p2 = ((np : Int), zp_set (zp_set (zp_set (zp_set (zf_clr3 W).2 50 (2000 + np) p1) 51 (2000 + np) 0) 31 (2000 + np) p2) 1 1 ((np : Int) + 1)) := by
          unfold zf_adp1
          rw [a1, if_pos (show (np : Int) < 6 by omega), Int.toNat_natCast]
        rw [e2, zf_stl_0 (by omega)]
        refine ⟨rfl, np + 1, ?_⟩
        obtain ⟨h1, h2, h3, h47, h5, h6⟩ := h
        obtain ⟨f, f1, f2⟩ := zUU_f h6
        refine zCo_a1 ⟨?_, zRok_o (by decide) (zRok_p c3 c1 c2 rfl (zRok_o (by decide) h2)), zLV_o (by decide) (Or.inr (by decide)) (zLV_3 (by omega) (by omega) (by omega) (zLV_3 (by omega) (by omega) (by omega) (zLV_3 (by omega) (by omega) (by omega) (zLV_3 (by omega) (by omega) (by omega) (zLV_o (by decide) (Or.inr (by decide)) h3))))), ?_, ?_, ?_⟩
        · refine zRr_0 (by decide) ?_
          show zRr _ (zp_set (zp_set (zp_set (zp_set (zf_clr3 W).2 50 (2000 + np) p1) 51 (2000 + np) 0) 31 (2000 + np) p2) 1 1 ((np : Int) + 1))
          rw [zp_set_comm (M := zp_set (zf_clr3 W).2 50 (2000 + np) p1) (Or.inl (by decide))]
          have hb : zRr (zp_set V 0 0 0) (zf_clr3 W).2 := zRr_c (by omega) (zRr_0 (by decide) h1)
          exact zRr_sp (zRr_sp (zRr_sp (zRr_sp hb (by omega) q1) (by omega) q2) (by omega) q3) (by decide) rfl
        · exact (zp_set_ne (Or.inr (by decide))).trans ((zp_set_ne (Or.inl (by decide))).trans ((zp_set_ne (Or.inl (by decide))).trans ((zp_set_ne (Or.inl (by decide))).trans ((zp_set_ne (Or.inl (by decide))).trans ((zp_set_ne (Or.inr (by decide))).trans h47)))))
        · refine zSt_e h5 ?_ (fun k => ?_) ?_ (fun k => ?_)
          · simp (disch := omega) only [zf_ans, zf_clr3, zp_set_ne, zp_set_self]
          · simp (disch := omega) only [zf_ans, zf_clr3, zp_set_ne, zp_set_self]
          · simp (disch := omega) only [zf_ans, zf_clr3, zp_set_ne, zp_set_self]
          · simp (disch := omega) only [zf_ans, zf_clr3, zp_set_ne, zp_set_self]
        · refine zUU_0 (f := f) ?_ ?_ ?_ f2
          · simp (disch := omega) only [zf_ans, zf_clr3, zp_set_ne, zp_set_self]
          · simp (disch := omega) only [zf_ans, zf_clr3, zp_set_ne, zp_set_self]
          · simp (disch := omega) only [zf_ans, zf_clr3, zp_set_ne, zp_set_self]
            exact f1
      · rw [if_neg (show ¬ (np : Int) < 6 by omega), if_neg (show ¬ ¬ (np : Int) = 6 by omega)]
        exact rf (-5) (by decide) (by decide)
    · rw [if_neg c2, if_neg c2]
      exact rf (-1) (by decide) (by decide)
  · rw [if_neg c1, if_neg c1]
    exact rf (-1) (by decide) (by decide)
