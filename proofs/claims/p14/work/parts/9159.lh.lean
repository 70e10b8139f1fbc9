/-! part lh: both sides agree: works, sights, questions, doings as calls -/
theorem zRok_w {V : Nat → Nat → Int} {n1 np : Nat} {a b c d e0 f0 : Int} (hn1 : n1 < 10) (ha : 0 ≤ a ∧ a < (np : Int)) (hb : 1 ≤ b ∧ b ≤ 600) (hc : 0 ≤ c ∧ c ≤ 23) (hd : 1 ≤ d ∧ d ≤ 99) (he : -1 ≤ e0 ∧ e0 < (n1 : Int)) (hf : f0 = 0) (h : zRok (zRw V) n1 np) : zRok (zRw (zp_set (zp_set (zp_set (zp_set (zp_set (zp_set (zp_set V 3 (2000 + (5 * n1 + 39)) a) 3 (2000 + (5 * n1 + 40)) b) 3 (2000 + (5 * n1 + 41)) c) 3 (2000 + (5 * n1 + 42)) d) 3 (2000 + (5 * n1 + 43)) e0) 3 (2000 + (n1 + 29)) f0) 3 (2000 + 1) ((n1 : Int) + 1))) (n1 + 1) np := by
  obtain ⟨⟨d1, d2, d3, d4, d5, d6⟩, e2, e3, e4, e5, e6, e7, e8, ez⟩ := h
  have e : ∀ i, zRw (zp_set (zp_set (zp_set (zp_set (zp_set (zp_set (zp_set V 3 (2000 + (5 * n1 + 39)) a) 3 (2000 + (5 * n1 + 40)) b) 3 (2000 + (5 * n1 + 41)) c) 3 (2000 + (5 * n1 + 42)) d) 3 (2000 + (5 * n1 + 43)) e0) 3 (2000 + (n1 + 29)) f0) 3 (2000 + 1) ((n1 : Int) + 1)) i = if i = 1 then (n1 : Int) + 1 else if i = n1 + 29 then f0 else if i = 5 * n1 + 43 then e0 else if i = 5 * n1 + 42 then d else if i = 5 * n1 + 41 then c else if i = 5 * n1 + 40 then b else if i = 5 * n1 + 39 then a else zRw V i := fun i => by
    show zp_set (zp_set (zp_set (zp_set (zp_set (zp_set (zp_set V 3 (2000 + (5 * n1 + 39)) a) 3 (2000 + (5 * n1 + 40)) b) 3 (2000 + (5 * n1 + 41)) c) 3 (2000 + (5 * n1 + 42)) d) 3 (2000 + (5 * n1 + 43)) e0) 3 (2000 + (n1 + 29)) f0) 3 (2000 + 1) ((n1 : Int) + 1) 3 (2000 + i) = _
    by_cases c0 : i = 1
    · rw [if_pos c0, c0, zp_set_self]
    · rw [if_neg c0, zp_set_ne (Or.inr (by omega))]
      by_cases c1 : i = n1 + 29
      · rw [if_pos c1, c1, zp_set_self]
      · rw [if_neg c1, zp_set_ne (Or.inr (by omega))]
        by_cases c2 : i = 5 * n1 + 43
        · rw [if_pos c2, c2, zp_set_self]
        · rw [if_neg c2, zp_set_ne (Or.inr (by omega))]
          by_cases c3 : i = 5 * n1 + 42
          · rw [if_pos c3, c3, zp_set_self]
          · rw [if_neg c3, zp_set_ne (Or.inr (by omega))]
            by_cases c4 : i = 5 * n1 + 41
            · rw [if_pos c4, c4, zp_set_self]
            · rw [if_neg c4, zp_set_ne (Or.inr (by omega))]
              by_cases c5 : i = 5 * n1 + 40
              · rw [if_pos c5, c5, zp_set_self]
              · rw [if_neg c5, zp_set_ne (Or.inr (by omega))]
                by_cases c6 : i = 5 * n1 + 39
                · rw [if_pos c6, c6, zp_set_self]
                · rw [if_neg c6, zp_set_ne (Or.inr (by omega))]
                  rfl
  have e9 : ∀ i, i ≠ 1 → i ≠ n1 + 29 → i < 5 * n1 + 39 ∨ 5 * n1 + 44 ≤ i → zRw (zp_set (zp_set (zp_set (zp_set (zp_set (zp_set (zp_set V 3 (2000 + (5 * n1 + 39)) a) 3 (2000 + (5 * n1 + 40)) b) 3 (2000 + (5 * n1 + 41)) c) 3 (2000 + (5 * n1 + 42)) d) 3 (2000 + (5 * n1 + 43)) e0) 3 (2000 + (n1 + 29)) f0) 3 (2000 + 1) ((n1 : Int) + 1)) i = zRw V i := fun i h1 h2 h3 => by
    rw [e, if_neg h1, if_neg h2, if_neg (by omega), if_neg (by omega), if_neg (by omega), if_neg (by omega), if_neg (by omega)]
  refine ⟨⟨by omega, d2, ?_, ?_, fun w hw => ?_, fun p hp => ?_⟩, ?_, ?_, ?_, fun p hp => ?_, ?_, fun p h1 h2 => ?_, fun i hi => ?_, fun w hw => ?_⟩
  · rw [e, if_pos rfl]
    omega
  · rw [e9 0 (by decide) (by omega) (by omega)]
    exact d4
  · by_cases cw : w = n1
    · subst cw
      rw [e (5 * w + 43), e (5 * w + 40), e (w + 29), if_neg (by omega), if_neg (by omega), if_pos rfl, if_neg (by omega), if_neg (by omega), if_neg (by omega), if_neg (by omega), if_neg (by omega), if_pos rfl, if_neg (by omega), if_pos rfl]
      omega
    · have h5 := d5 w (by omega)
      rw [e9 (5 * w + 43) (by omega) (by omega) (by omega), e9 (5 * w + 40) (by omega) (by omega) (by omega), e9 (w + 29) (by omega) (by omega) (by omega)]
      omega
  · rw [e9 _ (by omega) (by omega) (by omega)]
    exact d6 p hp
  · rw [e9 10 (by decide) (by omega) (by omega)]
    exact e2
  · rw [e9 5 (by decide) (by omega) (by omega)]
    exact e3
  · rw [e9 8 (by decide) (by omega) (by omega)]
    exact e4
  · rw [e9 _ (by omega) (by omega) (by omega)]
    exact e5 p hp
  · rw [e9 9 (by decide) (by omega) (by omega)]
    exact e6
  · rw [e9 (3 * p + 11) (by omega) (by omega) (by omega), e9 (3 * p + 13) (by omega) (by omega) (by omega)]
    exact e7 p h1 h2
  · rw [e]
    have h8 := e8 i hi
    repeat' split
    all_goals omega
  · by_cases cw : w = n1
    · subst cw
      rw [e (w + 29), e (5 * w + 40), if_neg (by omega), if_pos rfl, if_neg (by omega), if_neg (by omega), if_neg (by omega), if_neg (by omega), if_neg (by omega), if_pos rfl]
      omega
    · rw [e9 (w + 29) (by omega) (by omega) (by omega), e9 (5 * w + 40) (by omega) (by omega) (by omega)]
      exact ez w (by omega)
/-- a work is added to the row -/
noncomputable def zWa (V : Nat → Nat → Int) (n1 : Nat) (a b c d e : Int) : Nat → Nat → Int := zp_set (zp_set (zp_set (zp_set (zp_set (zp_set (zp_set V 3 (2000 + (5 * n1 + 39)) a) 3 (2000 + (5 * n1 + 40)) b) 3 (2000 + (5 * n1 + 41)) c) 3 (2000 + (5 * n1 + 42)) d) 3 (2000 + (5 * n1 + 43)) e) 3 (2000 + (n1 + 29)) 0) 3 (2000 + 1) ((n1 : Int) + 1)
noncomputable def zWaC (W : Nat → Nat → Int) (n1 : Nat) (a b c d e : Int) : Nat → Nat → Int := zp_set (zp_set (zp_set (zp_set (zp_set (zp_set (zp_set W 32 (2000 + n1) a) 33 (2000 + n1) b) 34 (2000 + n1) c) 35 (2000 + n1) d) 36 (2000 + n1) e) 52 (2000 + n1) 0) 1 3 ((n1 : Int) + 1)
theorem zWa_o {V : Nat → Nat → Int} {n1 : Nat} {a b c d e : Int} {o k : Nat} (ho : o ≠ 3) : zWa V n1 a b c d e o k = V o k := by
  unfold zWa
  rw [zp_set_ne (Or.inl ho), zp_set_ne (Or.inl ho), zp_set_ne (Or.inl ho), zp_set_ne (Or.inl ho), zp_set_ne (Or.inl ho), zp_set_ne (Or.inl ho), zp_set_ne (Or.inl ho)]
theorem zWaC_o {W : Nat → Nat → Int} {n1 : Nat} {a b c d e : Int} {o k : Nat} (h1 : o ≠ 1) (h2 : ¬ (32 ≤ o ∧ o < 37)) (h3 : o ≠ 52) : zWaC W n1 a b c d e o k = W o k := by
  unfold zWaC
  rw [zp_set_ne (Or.inl h1), zp_set_ne (Or.inl h3), zp_set_ne (Or.inl (by omega)), zp_set_ne (Or.inl (by omega)), zp_set_ne (Or.inl (by omega)), zp_set_ne (Or.inl (by omega)), zp_set_ne (Or.inl (by omega))]
theorem zRr_wa {V W : Nat → Nat → Int} {n1 : Nat} {a b c d e : Int} (hn : n1 < 10) (h : zRr V W) : zRr (zWa V n1 a b c d e) (zWaC W n1 a b c d e) := by
  obtain ⟨q1, q2, q3, q4, q5, q6⟩ := zPl_39 n1 hn
  unfold zWa zWaC
  exact zRr_sp (zRr_sp (zRr_sp (zRr_sp (zRr_sp (zRr_sp (zRr_sp h (by omega) q1) (by omega) q2) (by omega) q3) (by omega) q4) (by omega) q5) (by omega) q6) (by decide) rfl
theorem zLV_wa {V : Nat → Nat → Int} {n1 np : Nat} {a b c d e : Int} {Lw : List yK} (hn : n1 < 10) (hnp : np ≤ 6) (ha : 0 ≤ a ∧ a < (np : Int)) (hb : 1 ≤ b ∧ b ≤ 600) (hc : 0 ≤ c ∧ c ≤ 23) (hd : 1 ≤ d ∧ d ≤ 99) (he : -1 ≤ e ∧ e < (n1 : Int)) (h : zLV V Lw) : zLV (zWa V n1 a b c d e) Lw := by
  unfold zWa
  exact zLV_3 (by omega) (by omega) (by omega) (zLV_3 (by omega) (by omega) (by omega) (zLV_3 (by omega) (by omega) (by omega) (zLV_3 (by omega) (by omega) (by omega) (zLV_3 (by omega) (by omega) (by omega) (zLV_3 (by omega) (by omega) (by omega) (zLV_3 (by omega) (by omega) (by omega) h))))))
/-- a work that can be, can't be: both sides -/
theorem zf_wk1_s {V : Nat → Nat → Int} {np n1 : Nat} {p1 p2 p3 p4 p5 : Int} (hc : (1 ≤ p2 ∧ p2 ≤ 600) ∧ (0 ≤ p3 ∧ p3 ≤ 23) ∧ (1 ≤ p4 ∧ p4 ≤ 99) ∧ (0 ≤ p1 ∧ p1 < (np : Int)) ∧ -1 ≤ p5 ∧ p5 < (n1 : Int)) (hn : n1 < 10) : zf_wk1 V np n1 p1 p2 p3 p4 p5 = ((n1 : Int), zWa V n1 p1 p2 p3 p4 p5) := by
  obtain ⟨c1, c2, c3, c4, c5⟩ := hc
  unfold zf_wk1
  rw [if_pos c1, if_pos c2, if_pos c3, if_pos c4]
  by_cases c6 : p5 = -1
  · rw [if_pos c6, if_pos (show ¬ (n1 : Int) = 10 by omega)]
    rfl
  · rw [if_neg c6, if_pos (show 0 ≤ p5 ∧ p5 < (n1 : Int) by omega), if_pos (show ¬ (n1 : Int) = 10 by omega)]
    rfl
/-- by what a work is refused -/
noncomputable def zWr (np n1 : Nat) (p1 p2 p3 p4 p5 : Int) : Int := if (1 ≤ p2 ∧ p2 ≤ 600) ∧ (0 ≤ p3 ∧ p3 ≤ 23) ∧ 1 ≤ p4 ∧ p4 ≤ 99 then (if (0 ≤ p1 ∧ p1 < (np : Int)) ∧ -1 ≤ p5 ∧ p5 < (n1 : Int) then -5 else -2) else -1
theorem zWr_b {np n1 : Nat} {p1 p2 p3 p4 p5 : Int} : -6 ≤ zWr np n1 p1 p2 p3 p4 p5 ∧ zWr np n1 p1 p2 p3 p4 p5 < 0 := by
  unfold zWr
  repeat' split
  all_goals decide
theorem zf_wk1_r {V : Nat → Nat → Int} {np n1 : Nat} {p1 p2 p3 p4 p5 : Int} (h10 : n1 ≤ 10) (hc : ¬ (((1 ≤ p2 ∧ p2 ≤ 600) ∧ (0 ≤ p3 ∧ p3 ≤ 23) ∧ (1 ≤ p4 ∧ p4 ≤ 99) ∧ (0 ≤ p1 ∧ p1 < (np : Int)) ∧ -1 ≤ p5 ∧ p5 < (n1 : Int)) ∧ n1 < 10)) : zf_wk1 V np n1 p1 p2 p3 p4 p5 = (zWr np n1 p1 p2 p3 p4 p5, V) := by
  unfold zf_wk1 zWr
  by_cases c1 : 1 ≤ p2 ∧ p2 ≤ 600
  · rw [if_pos c1]
    by_cases c2 : 0 ≤ p3 ∧ p3 ≤ 23
    · rw [if_pos c2]
      by_cases c3 : 1 ≤ p4 ∧ p4 ≤ 99
      · rw [if_pos c3, if_pos (show (1 ≤ p2 ∧ p2 ≤ 600) ∧ (0 ≤ p3 ∧ p3 ≤ 23) ∧ 1 ≤ p4 ∧ p4 ≤ 99 from ⟨c1, c2, c3⟩)]
        by_cases c4 : 0 ≤ p1 ∧ p1 < (np : Int)
        · rw [if_pos c4]
          by_cases c6 : p5 = -1
          · rw [if_pos c6, if_neg (show ¬ ¬ (n1 : Int) = 10 by omega), if_pos (show (0 ≤ p1 ∧ p1 < (np : Int)) ∧ -1 ≤ p5 ∧ p5 < (n1 : Int) by omega)]
          · rw [if_neg c6]
            by_cases c7 : 0 ≤ p5 ∧ p5 < (n1 : Int)
            · rw [if_pos c7, if_neg (show ¬ ¬ (n1 : Int) = 10 by omega), if_pos (show (0 ≤ p1 ∧ p1 < (np : Int)) ∧ -1 ≤ p5 ∧ p5 < (n1 : Int) by omega)]
            · rw [if_neg c7, if_neg (show ¬ ((0 ≤ p1 ∧ p1 < (np : Int)) ∧ -1 ≤ p5 ∧ p5 < (n1 : Int)) by omega)]
        · rw [if_neg c4, if_neg (show ¬ ((0 ≤ p1 ∧ p1 < (np : Int)) ∧ -1 ≤ p5 ∧ p5 < (n1 : Int)) from fun z => c4 z.1)]
      · rw [if_neg c3, if_neg (show ¬ ((1 ≤ p2 ∧ p2 ≤ 600) ∧ (0 ≤ p3 ∧ p3 ≤ 23) ∧ 1 ≤ p4 ∧ p4 ≤ 99) from fun z => c3 z.2.2)]
    · rw [if_neg c2, if_neg (show ¬ ((1 ≤ p2 ∧ p2 ≤ 600) ∧ (0 ≤ p3 ∧ p3 ≤ 23) ∧ 1 ≤ p4 ∧ p4 ≤ 99) from fun z => c2 z.2.1)]
  · rw [if_neg c1, if_neg (show ¬ ((1 ≤ p2 ∧ p2 ≤ 600) ∧ (0 ≤ p3 ∧ p3 ≤ 23) ∧ 1 ≤ p4 ∧ p4 ≤ 99) from fun z => c1 z.1)]
theorem zf_adw1_s {W : Nat → Nat → Int} {n1 : Nat} {p1 p2 p3 p4 p5 : Int} (e3 : W 1 3 = (n1 : Int)) (hn : n1 < 10) : zf_adw1 W p1 p2 p3 p4 p5 = ((n1 : Int), zWaC W n1 p1 p2 p3 p4 p5) := by
  unfold zf_adw1
  rw [e3, if_pos (show (n1 : Int) < 10 by omega), Int.toNat_natCast]
  rfl
/-- what the core holds behind a work that was added -/
theorem zCo_wa {V W : Nat → Nat → Int} {n1 np : Nat} {Lw : List yK} {p1 p2 p3 p4 p5 : Int} (hc : (1 ≤ p2 ∧ p2 ≤ 600) ∧ (0 ≤ p3 ∧ p3 ≤ 23) ∧ (1 ≤ p4 ∧ p4 ≤ 99) ∧ (0 ≤ p1 ∧ p1 < (np : Int)) ∧ -1 ≤ p5 ∧ p5 < (n1 : Int)) (hn : n1 < 10) (h1 : zRr V W) (h2 : zRok (zRw V) n1 np) (h3 : zLV V Lw) : zRr (zWa V n1 p1 p2 p3 p4 p5) (zWaC W n1 p1 p2 p3 p4 p5) ∧ zRok (zRw (zWa V n1 p1 p2 p3 p4 p5)) (n1 + 1) np ∧ zLV (zWa V n1 p1 p2 p3 p4 p5) Lw := by
  obtain ⟨c1, c2, c3, c4, c5⟩ := hc
  exact ⟨zRr_wa hn h1, zRok_w hn c4 c1 c2 c3 c5 rfl h2, zLV_wa hn h2.1.2.1 c4 c1 c2 c3 c5 h3⟩
theorem zS_wrk {V W : Nat → Nat → Int} {n1 np : Nat} {Lw : List yK} {p1 p2 p3 p4 p5 : Int} (h : zCo V W n1 np Lw) : (zf_wrkc W p1 p2 p3 p4 p5).1 = (zf_wrk V np n1 p1 p2 p3 p4 p5).1 ∧ ∃ n1' : Nat, zCo (zf_wrk V np n1 p1 p2 p3 p4 p5).2 (zf_wrkc W p1 p2 p3 p4 p5).2 n1' np Lw := by
  obtain ⟨⟨hn1, hnp⟩, -, e3, e1⟩ := zCo_n h
  have rf : ∀ v : Int, -6 ≤ v → v < 0 → zf_wk1 (zp_set V 0 0 0) np n1 p1 p2 p3 p4 p5 = (v, zp_set V 0 0 0) → ((zf_rfs W v).1 = (zf_wrk V np n1 p1 p2 p3 p4 p5).1) ∧ ∃ n1' : Nat, zCo (zf_wrk V np n1 p1 p2 p3 p4 p5).2 (zf_rfs W v).2 n1' np Lw := fun v h1 h2 h3 => by
    have h4 : zf_wrk V np n1 p1 p2 p3 p4 p5 = (v, (zf_stl (zp_set V 0 0 0) v).2) := by
      unfold zf_wrk
      rw [h3]
    rw [h4]
    refine ⟨zf_rfs_1, n1, ?_⟩
    have h5 : (zf_stl (zp_set V 0 0 0) v).2 = zT_tell (zp_set (zp_set V 0 0 0) 0 8 ((zp_set V 0 0 0) 0 8)) v := by
      unfold zf_stl
      rw [if_neg (by omega)]
    have h6 : zp_set (zp_set V 0 0 0) 0 8 ((zp_set V 0 0 0) 0 8) = zp_set V 0 0 0 := by
      funext o k
      by_cases c : o = 0 ∧ k = 8
      · rw [c.1, c.2, zp_set_self]
      · exact zp_set_ne (by omega)
    show zCo (zf_stl (zp_set V 0 0 0) v).2 (zf_rfs W v).2 n1 np Lw
    rw [h5, h6]
    exact zCo_rf h h1 h2
  by_cases cc : ((1 ≤ p2 ∧ p2 ≤ 600) ∧ (0 ≤ p3 ∧ p3 ≤ 23) ∧ (1 ≤ p4 ∧ p4 ≤ 99) ∧ (0 ≤ p1 ∧ p1 < (np : Int)) ∧ -1 ≤ p5 ∧ p5 < (n1 : Int)) ∧ n1 < 10
  · obtain ⟨hc, hn⟩ := cc
    have h4 : zf_wrk V np n1 p1 p2 p3 p4 p5 = ((n1 : Int), (zf_stl (zWa (zp_set V 0 0 0) n1 p1 p2 p3 p4 p5) (n1 : Int)).2) := by
      unfold zf_wrk
      rw [zf_wk1_s hc hn]
    have a3 : (zf_clr3 W).2 1 3 = (n1 : Int) := (zf_clr3_f (by decide)).trans e3
    have h5 : zf_wrkc W p1 p2 p3 p4 p5 = ((n1 : Int), (zf_ans (zWaC (zf_clr3 W).2 n1 p1 p2 p3 p4 p5) (n1 : Int)).2) := by
      obtain ⟨c1, c2, c3, c4, c5⟩ := hc
      unfold zf_wrkc
      rw [if_pos c1, if_pos c2, if_pos c3, e1, e3, if_pos (show 0 ≤ p1 ∧ p1 < (np : Int) ∧ p1 < 6 by omega), zf_adw1_s a3 hn]
      by_cases c6 : p5 = -1
      · rw [if_pos c6, if_pos (show (n1 : Int) < 10 by omega)]
        rfl
      · rw [if_neg c6, if_pos (show 0 ≤ p5 ∧ p5 < (n1 : Int) ∧ p5 < 10 by omega), if_pos (show (n1 : Int) < 10 by omega)]
        rfl
    rw [h4, h5, zf_stl_0 (by omega)]
    refine ⟨rfl, n1 + 1, ?_⟩
    obtain ⟨g1, g2, g3, g47, g5, g6⟩ := h
    obtain ⟨f, f1, f2⟩ := zUU_f g6
    have hb : zRr (zp_set V 0 0 0) (zf_clr3 W).2 := zRr_c (by omega) (zRr_0 (by decide) g1)
    obtain ⟨k1, k2, k3⟩ := zCo_wa (V := zp_set V 0 0 0) (W := (zf_clr3 W).2) hc hn hb (zRok_o (by decide) g2) (zLV_o (by decide) (Or.inr (by decide)) g3)
    have q0 : ∀ k, k ≠ 8 → zp_set (zWa (zp_set V 0 0 0) n1 p1 p2 p3 p4 p5) 0 8 0 0 k = zp_set V 0 0 0 0 k := fun k hk => (zp_set_ne (Or.inr hk)).trans (zWa_o (by decide))
    refine zCo_a1 ⟨zRr_0 (by decide) k1, zRok_o (by decide) k2, zLV_o (by decide) (Or.inr (by decide)) k3, (q0 47 (by decide)).trans ((zp_set_ne (Or.inr (by decide))).trans g47), ?_, ?_⟩
    · refine zSt_e g5 ((q0 1 (by decide)).trans (zp_set_ne (Or.inr (by decide)))) (fun k => (zp_set_ne (Or.inl (by decide))).trans ((zWa_o (by decide)).trans (zp_set_ne (Or.inl (by decide))))) ?_ (fun k => ?_)
      · exact (zWaC_o (by decide) (by decide) (by decide)).trans (by simp (disch := omega) only [zf_ans, zf_clr3, zp_set_ne, zp_set_self])
      · exact (zWaC_o (by decide) (by decide) (by decide)).trans (by simp (disch := omega) only [zf_ans, zf_clr3, zp_set_ne, zp_set_self])
    · refine zUU_0 (f := f) zp_set_self ?_ ?_ f2
      · exact (zWaC_o (by decide) (by decide) (by decide)).trans (by simp (disch := omega) only [zf_ans, zf_clr3, zp_set_ne, zp_set_self])
      · exact (zWaC_o (by decide) (by decide) (by decide)).trans ((show (zf_clr3 W).2 3 2 = W 3 2 by simp (disch := omega) only [zf_ans, zf_clr3, zp_set_ne, zp_set_self]).trans f1)
  · have h3 := zf_wk1_r (V := zp_set V 0 0 0) (np := np) (p1 := p1) (p2 := p2) (p3 := p3) (p4 := p4) (p5 := p5) hn1 cc
    obtain ⟨b1, b2⟩ := zWr_b (np := np) (n1 := n1) (p1 := p1) (p2 := p2) (p3 := p3) (p4 := p4) (p5 := p5)
    have h5 : zf_wrkc W p1 p2 p3 p4 p5 = ((zf_rfs W (zWr np n1 p1 p2 p3 p4 p5)).1, (zf_rfs W (zWr np n1 p1 p2 p3 p4 p5)).2) := by
      unfold zf_wrkc zWr
      rw [e1, e3]
      by_cases c1 : 1 ≤ p2 ∧ p2 ≤ 600
      · rw [if_pos c1]
        by_cases c2 : 0 ≤ p3 ∧ p3 ≤ 23
        · rw [if_pos c2]
          by_cases c3 : 1 ≤ p4 ∧ p4 ≤ 99
          · rw [if_pos c3, if_pos (show (1 ≤ p2 ∧ p2 ≤ 600) ∧ (0 ≤ p3 ∧ p3 ≤ 23) ∧ 1 ≤ p4 ∧ p4 ≤ 99 from ⟨c1, c2, c3⟩)]
            by_cases c4 : 0 ≤ p1 ∧ p1 < (np : Int)
            · rw [if_pos (show 0 ≤ p1 ∧ p1 < (np : Int) ∧ p1 < 6 by omega)]
              by_cases c6 : p5 = -1
              · rw [if_pos c6, if_neg (show ¬ (n1 : Int) < 10 by omega), if_pos (show (0 ≤ p1 ∧ p1 < (np : Int)) ∧ -1 ≤ p5 ∧ p5 < (n1 : Int) by omega)]
              · rw [if_neg c6]
                by_cases c7 : 0 ≤ p5 ∧ p5 < (n1 : Int)
                · rw [if_pos (show 0 ≤ p5 ∧ p5 < (n1 : Int) ∧ p5 < 10 by omega), if_neg (show ¬ (n1 : Int) < 10 by omega), if_pos (show (0 ≤ p1 ∧ p1 < (np : Int)) ∧ -1 ≤ p5 ∧ p5 < (n1 : Int) by omega)]
                · rw [if_neg (show ¬ (0 ≤ p5 ∧ p5 < (n1 : Int) ∧ p5 < 10) by omega), if_neg (show ¬ ((0 ≤ p1 ∧ p1 < (np : Int)) ∧ -1 ≤ p5 ∧ p5 < (n1 : Int)) by omega)]
            · rw [if_neg (show ¬ (0 ≤ p1 ∧ p1 < (np : Int) ∧ p1 < 6) by omega), if_neg (show ¬ ((0 ≤ p1 ∧ p1 < (np : Int)) ∧ -1 ≤ p5 ∧ p5 < (n1 : Int)) by omega)]
          · rw [if_neg c3, if_neg (show ¬ ((1 ≤ p2 ∧ p2 ≤ 600) ∧ (0 ≤ p3 ∧ p3 ≤ 23) ∧ 1 ≤ p4 ∧ p4 ≤ 99) by omega)]
        · rw [if_neg c2, if_neg (show ¬ ((1 ≤ p2 ∧ p2 ≤ 600) ∧ (0 ≤ p3 ∧ p3 ≤ 23) ∧ 1 ≤ p4 ∧ p4 ≤ 99) by omega)]
      · rw [if_neg c1, if_neg (show ¬ ((1 ≤ p2 ∧ p2 ≤ 600) ∧ (0 ≤ p3 ∧ p3 ≤ 23) ∧ 1 ≤ p4 ∧ p4 ≤ 99) by omega)]
    rw [h5]
    exact rf _ b1 b2 h3
/-- a sight -/
theorem zS_sig {V W : Nat → Nat → Int} {n1 np ns : Nat} {Lw : List yK} {p1 p2 p3 : Int} (h : zCo V W n1 np Lw) (hns : V 3 (2000 + 2) = (ns : Int)) (hn8 : ns ≤ 8) : (zf_sigc W p1 p2 p3).1 = (zf_sig V n1 ns p1 p2 p3).1 ∧ zCo (zf_sig V n1 ns p1 p2 p3).2 (zf_sigc W p1 p2 p3).2 n1 np Lw := by
  obtain ⟨⟨hn1, hnp⟩, -, e3, e1⟩ := zCo_n h
  have e9 : W 1 9 = (ns : Int) := (h.1 2 (by decide)).trans hns
  have rf : ∀ v : Int, -6 ≤ v → v < 0 → ((zf_rfs W v).1 = v) ∧ zCo (zT_tell (zp_set V 0 0 0) v) (zf_rfs W v).2 n1 np Lw := fun v h1 h2 => ⟨zf_rfs_1, zCo_rf h h1 h2⟩
  unfold zf_sigc zf_sig
  rw [e3, e9]
  by_cases c1 : 0 ≤ p2 ∧ p2 ≤ 23
  · rw [if_pos c1, if_pos c1]
    by_cases c2 : 0 ≤ p3 ∧ p3 ≤ 600
    · rw [if_pos c2, if_pos c2]
      by_cases c4 : 0 ≤ p1 ∧ p1 < (n1 : Int)
      · rw [if_pos (show 0 ≤ p1 ∧ p1 < (n1 : Int) ∧ p1 < 10 by omega), if_pos c4]
        by_cases c5 : ns < 8
        · rw [if_pos (show (ns : Int) < 8 by omega), if_pos (show ¬ (ns : Int) = 8 by omega)]
          obtain ⟨q1, q2, q3⟩ := zPl_153 ns c5
          have ea : (zf_ads1 W p1 p2 p3).2 = zp_set (zp_set (zp_set (zp_set W 37 (2000 + ns) p1) 38 (2000 + ns) p2) 39 (2000 + ns) p3) 1 9 ((ns : Int) + 1) := by
            unfold zf_ads1
            rw [e9, if_pos (show (ns : Int) < 8 by omega), Int.toNat_natCast]
          rw [ea]
          refine ⟨by simp (disch := omega) only [zf_ans, zp_set_self], zCo_an (v := (ns : Int) + 1) ?_ (by omega)⟩
          obtain ⟨g1, g2, g3, g47, g5, g6⟩ := h
          have hm : ∀ (j : Nat) (v : Int), 153 ≤ j ∨ j = 2 → -1 ≤ v → v ≤ 600 → zRm j n1 np v := fun j v hj hv0 hv6 => ⟨by omega, by omega, by omega, by omega, by omega, by omega, by omega, fun p hp hq => by omega, fun p _ hp => by omega, fun w hw => ⟨by omega, fun hq => by omega⟩⟩
          refine ⟨zRr_sp (zRr_sp (zRr_sp (zRr_sp (zRr_0 (by decide) g1) (by omega) q1) (by omega) q2) (by omega) q3) (by decide) rfl, zRok_s (hm _ _ (Or.inr rfl) (by omega) (by omega)) (zRok_s (hm _ _ (Or.inl (by omega)) (by omega) (by omega)) (zRok_s (hm _ _ (Or.inl (by omega)) (by omega) (by omega)) (zRok_s (hm _ _ (Or.inl (by omega)) (by omega) (by omega)) (zRok_o (by decide) g2)))), zLV_3 (by decide) (by decide) (by omega) (zLV_3 (by omega) (by omega) (by omega) (zLV_3 (by omega) (by omega) (by omega) (zLV_3 (by omega) (by omega) (by omega) (zLV_o (by decide) (Or.inr (by decide)) g3)))), ?_, ?_, ?_⟩
          · exact (zp_set_ne (Or.inl (by decide))).trans ((zp_set_ne (Or.inl (by decide))).trans ((zp_set_ne (Or.inl (by decide))).trans ((zp_set_ne (Or.inl (by decide))).trans ((zp_set_ne (Or.inr (by decide))).trans g47))))
          · refine zSt_e g5 ?_ (fun k => ?_) ?_ (fun k => ?_)
            · exact (zp_set_ne (Or.inl (by decide))).trans ((zp_set_ne (Or.inl (by decide))).trans ((zp_set_ne (Or.inl (by decide))).trans ((zp_set_ne (Or.inl (by decide))).trans (zp_set_ne (Or.inr (by decide))))))
            · exact (zp_set_ne (Or.inl (by decide))).trans ((zp_set_ne (Or.inl (by decide))).trans ((zp_set_ne (Or.inl (by decide))).trans ((zp_set_ne (Or.inl (by decide))).trans (zp_set_ne (Or.inl (by decide))))))
            · exact (zp_set_ne (Or.inl (by decide))).trans ((zp_set_ne (Or.inl (by decide))).trans ((zp_set_ne (Or.inl (by decide))).trans (zp_set_ne (Or.inl (by decide)))))
            · exact (zp_set_ne (Or.inl (by decide))).trans ((zp_set_ne (Or.inl (by decide))).trans ((zp_set_ne (Or.inl (by decide))).trans (zp_set_ne (Or.inl (by decide)))))
          · refine zUU_p (by omega) (by omega) (zUU_e (zUe_o (Or.inl (by decide)) (by decide) (by decide) (zUe_o (Or.inl (by decide)) (by decide) (by decide) (zUe_o (Or.inl (by decide)) (by decide) (by decide) (zUe_o (Or.inr (by decide)) (by decide) (by decide) zUe_i)))) (fun j hj hk => ?_) (zUd_o (by decide) (by decide) (by decide) (zUd_o (by decide) (by decide) (by decide) (zUd_o (by decide) (by decide) (by decide) (zUd_o (by decide) (by decide) (by decide) zUd_i)))) g6)
            exact (zp_set_ne (Or.inr (by omega))).trans ((zp_set_ne (Or.inr (by omega))).trans ((zp_set_ne (Or.inr (by omega))).trans (zp_set_ne (Or.inl (by decide)))))
        · rw [if_neg (show ¬ (ns : Int) < 8 by omega), if_neg (show ¬ ¬ (ns : Int) = 8 by omega)]
          exact rf (-5) (by decide) (by decide)
      · rw [if_neg (show ¬ (0 ≤ p1 ∧ p1 < (n1 : Int) ∧ p1 < 10) by omega), if_neg c4]
        exact rf (-2) (by decide) (by decide)
    · rw [if_neg c2, if_neg c2]
      exact rf (-1) (by decide) (by decide)
  · rw [if_neg c1, if_neg c1]
    exact rf (-1) (by decide) (by decide)
/-- no sights any more -/
theorem zS_fgt {V W : Nat → Nat → Int} {n1 np : Nat} {Lw : List yK} (h : zCo V W n1 np Lw) : (zf_fgtc W).1 = (zf_fgt V).1 ∧ zCo (zf_fgt V).2 (zf_fgtc W).2 n1 np Lw := by
  refine ⟨h.1 2 (by decide), ?_⟩
  obtain ⟨⟨hn1, hnp⟩, -, -, -⟩ := zCo_n h
  obtain ⟨g1, g2, g3, g47, g5, g6⟩ := h
  have hm : zRm 2 n1 np 0 := ⟨by omega, by omega, by omega, by omega, by omega, by omega, by omega, fun p hp hq => by omega, fun p _ hp => by omega, fun w hw => ⟨by omega, fun hq => by omega⟩⟩
  refine ⟨zRr_sp (zRr_0 (by decide) g1) (j := 2) (by decide) rfl, zRok_s hm (zRok_o (by decide) g2), zLV_3 (by decide) (by decide) (by omega) (zLV_o (by decide) (Or.inr (by decide)) g3), ?_, ?_, ?_⟩
  · show (zf_fgt V).2 0 47 = -1
    rw [show (zf_fgt V).2 0 47 = V 0 47 by simp (disch := omega) only [zf_fgt, zf_fgtc, zp_set_ne]]
    exact g47
  · exact zSt_e g5 (by simp (disch := omega) only [zf_fgt, zf_fgtc, zp_set_ne]) (fun k => by simp (disch := omega) only [zf_fgt, zf_fgtc, zp_set_ne]) (by simp (disch := omega) only [zf_fgt, zf_fgtc, zp_set_ne]) (fun k => by simp (disch := omega) only [zf_fgt, zf_fgtc, zp_set_ne])
  · exact zUU_p (by omega) (by omega) (zUU_e (zUe_o (Or.inr (by decide)) (by decide) (by decide) zUe_i) (fun j hj _ => zp_set_ne (Or.inl (by decide))) (zUd_o (by decide) (by decide) (by decide) zUd_i) g6)
/-- questions: the same answer -/
theorem zS_at {V W : Nat → Nat → Int} {n1 np : Nat} {Lw : List yK} {p1 p2 : Int} (h : zCo V W n1 np Lw) : (zf_atc W p1 p2).1 = (zf_atr V n1 p1 p2).1 ∧ zCo (zf_atr V n1 p1 p2).2 (zf_atc W p1 p2).2 n1 np Lw := by
  obtain ⟨⟨hn1, hnp⟩, -, e3, e1⟩ := zCo_n h
  have h0 := zCo_0 (v := 0) h
  unfold zf_atc zf_atr
  rw [e3]
  by_cases c1 : 0 ≤ p1 ∧ p1 < (n1 : Int)
  · rw [if_pos (show 0 ≤ p1 ∧ p1 < (n1 : Int) ∧ p1 < 10 by omega), if_pos c1]
    obtain ⟨q1, q2, q3, q4, q5, q6⟩ := zPl_39 p1.toNat (by omega)
    by_cases d0 : p2 = 0
    · rw [if_pos d0, if_pos (show 0 ≤ p2 ∧ p2 ≤ 5 by omega), if_pos (show ¬ p2 = 5 by omega), if_pos d0]
      exact ⟨zRr_gt h.1 (by omega) q1, h0⟩
    · rw [if_neg d0]
      by_cases d1 : p2 = 1
      · rw [if_pos d1, if_pos (show 0 ≤ p2 ∧ p2 ≤ 5 by omega), if_pos (show ¬ p2 = 5 by omega), if_neg d0, if_pos d1]
        exact ⟨zRr_gt h.1 (by omega) q2, h0⟩
      · rw [if_neg d1]
        by_cases d2 : p2 = 2
        · rw [if_pos d2, if_pos (show 0 ≤ p2 ∧ p2 ≤ 5 by omega), if_pos (show ¬ p2 = 5 by omega), if_neg d0, if_neg d1, if_pos d2]
          exact ⟨zRr_gt h.1 (by omega) q3, h0⟩
        · rw [if_neg d2]
          by_cases d3 : p2 = 3
          · rw [if_pos d3, if_pos (show 0 ≤ p2 ∧ p2 ≤ 5 by omega), if_pos (show ¬ p2 = 5 by omega), if_neg d0, if_neg d1, if_neg d2, if_pos d3]
            exact ⟨zRr_gt h.1 (by omega) q4, h0⟩
          · rw [if_neg d3]
            by_cases d4 : p2 = 4
            · rw [if_pos d4, if_pos (show 0 ≤ p2 ∧ p2 ≤ 5 by omega), if_pos (show ¬ p2 = 5 by omega), if_neg d0, if_neg d1, if_neg d2, if_neg d3]
              exact ⟨zRr_gt h.1 (by omega) q5, h0⟩
            · rw [if_neg d4]
              by_cases d5 : p2 = 5
              · rw [if_pos d5, if_pos (show 0 ≤ p2 ∧ p2 ≤ 5 by omega), if_neg (show ¬ ¬ p2 = 5 by omega)]
                exact ⟨zRr_gt h.1 (by omega) q6, h0⟩
              · rw [if_neg d5, if_neg (show ¬ (0 ≤ p2 ∧ p2 ≤ 5) by omega)]
                exact ⟨rfl, h0⟩
  · rw [if_neg (show ¬ (0 ≤ p1 ∧ p1 < (n1 : Int) ∧ p1 < 10) by omega), if_neg c1]
    exact ⟨rfl, h0⟩
theorem zc_wl_q {a b c a' b' c' : Nat → Int} {p : Int} : ∀ {n : Nat}, (∀ w, w < n → a' w = a w ∧ b' w = b w ∧ c' w = c w) → zc_wl a' b' c' p n = zc_wl a b c p n
  | 0, _ => rfl
  | n + 1, h => by
    obtain ⟨h1, h2, h3⟩ := h n (by omega)
    rw [zc_wl, zc_wl, zc_wl_q (n := n) (fun w hw => h w (by omega)), h1, h2, h3]
theorem zS_of {V W : Nat → Nat → Int} {n1 np : Nat} {Lw : List yK} {p1 p2 : Int} (h : zCo V W n1 np Lw) : (zf_ofcc W n1 p1 p2).1 = (zf_ofr V np n1 p1 p2).1 ∧ zCo (zf_ofr V np n1 p1 p2).2 (zf_ofcc W n1 p1 p2).2 n1 np Lw := by
  obtain ⟨⟨hn1, hnp⟩, -, e3, e1⟩ := zCo_n h
  have h0 := zCo_0 (v := 0) h
  unfold zf_ofcc zf_ofr
  rw [e1]
  by_cases c1 : 0 ≤ p1 ∧ p1 < (np : Int)
  · rw [if_pos (show 0 ≤ p1 ∧ p1 < (np : Int) ∧ p1 < 6 by omega), if_pos c1]
    obtain ⟨q1, q2, q3⟩ := zPl_11 p1.toNat (by omega)
    by_cases d0 : p2 = 0
    · rw [if_pos d0, if_pos (show 0 ≤ p2 ∧ p2 ≤ 3 by omega), if_neg (show ¬ 3 ≤ p2 by omega), if_pos d0]
      exact ⟨zRr_gt h.1 (by omega) q1, h0⟩
    · rw [if_neg d0]
      by_cases d1 : p2 = 1
      · rw [if_pos d1, if_pos (show 0 ≤ p2 ∧ p2 ≤ 3 by omega), if_neg (show ¬ 3 ≤ p2 by omega), if_neg d0, if_pos d1]
        exact ⟨zRr_gt h.1 (by omega) q2, h0⟩
      · rw [if_neg d1]
        by_cases d2 : p2 = 2
        · rw [if_pos d2, if_pos (show 0 ≤ p2 ∧ p2 ≤ 3 by omega), if_neg (show ¬ 3 ≤ p2 by omega), if_neg d0, if_neg d1]
          exact ⟨zRr_gt h.1 (by omega) q3, h0⟩
        · rw [if_neg d2]
          by_cases d3 : p2 = 3
          · rw [if_pos d3, if_pos (show 0 ≤ p2 ∧ p2 ≤ 3 by omega), if_pos (show 3 ≤ p2 by omega)]
            refine ⟨zc_wl_q (fun w hw => ?_), h0⟩
            obtain ⟨r1, r2, r3, r4, r5, r6⟩ := zPl_39 w (by omega)
            exact ⟨zRr_gt h.1 (by omega) r1, zRr_gt h.1 (by omega) r6, zRr_gt h.1 (by omega) r2⟩
          · rw [if_neg d3, if_neg (show ¬ (0 ≤ p2 ∧ p2 ≤ 3) by omega)]
            exact ⟨rfl, h0⟩
  · rw [if_neg (show ¬ (0 ≤ p1 ∧ p1 < (np : Int) ∧ p1 < 6) by omega), if_neg c1]
    exact ⟨rfl, h0⟩
theorem zS_cnt {V W : Nat → Nat → Int} {n1 np : Nat} {Lw : List yK} {p1 : Int} (h : zCo V W n1 np Lw) (ht : W 11 1 = V 0 13) : (zf_cntc W p1).1 = (zf_cnt V p1).1 ∧ zCo (zf_cnt V p1).2 (zf_cntc W p1).2 n1 np Lw := by
  have h0 := zCo_0 (v := 0) h
  obtain ⟨g1, g2, g3, g47, ⟨s1, s2, s3, s4, s5, s6⟩, g6⟩ := h
  have u8 : W 3 3 = V 0 8 := by
    obtain ⟨n, H, u1, ⟨f, -, f3, -⟩, -⟩ := g6
    exact f3.1.trans u1.1.symm
  have r : ∀ (j o k : Nat), j < 180 → zPl j = (o, k) → W o k = V 3 (2000 + j) := fun j o k hj hp => zRr_gt g1 hj hp
  have h9 := g2.2.2.2.2.2.1
  have e24 := r 9 2 4 (by decide) rfl
  unfold zf_cntc zf_cnt
  by_cases c0 : p1 = 0
  · rw [if_pos c0, if_pos c0]
    exact ⟨r 0 1 1 (by decide) rfl, h0⟩
  rw [if_neg c0, if_neg c0]
  by_cases c1 : p1 = 1
  · rw [if_pos c1, if_pos c1]
    exact ⟨r 1 1 3 (by decide) rfl, h0⟩
  rw [if_neg c1, if_neg c1]
  by_cases c2 : p1 = 2
  · rw [if_pos c2, if_pos c2]
    exact ⟨r 2 1 9 (by decide) rfl, h0⟩
  rw [if_neg c2, if_neg c2]
  by_cases c3 : p1 = 3
  · rw [if_pos c3, if_pos c3]
    exact ⟨r 3 1 14 (by decide) rfl, h0⟩
  rw [if_neg c3, if_neg c3]
  by_cases c4 : p1 = 4
  · rw [if_pos c4, if_pos c4]
    exact ⟨u8, h0⟩
  rw [if_neg c4, if_neg c4]
  by_cases c5 : p1 = 5
  · rw [if_pos c5, if_pos c5]
    exact ⟨ht, h0⟩
  rw [if_neg c5, if_neg c5]
  by_cases c6 : p1 = 6
  · rw [if_pos c6, if_pos c6]
    exact ⟨s2, h0⟩
  rw [if_neg c6, if_neg c6]
  by_cases c7 : p1 = 7
  · rw [if_pos c7, if_pos c7]
    exact ⟨s3, h0⟩
  rw [if_neg c7, if_neg c7]
  by_cases c8 : p1 = 8
  · rw [if_pos c8, if_pos c8]
    exact ⟨s4, h0⟩
  rw [if_neg c8, if_neg c8]
  by_cases c9 : p1 = 9
  · rw [if_pos c9, if_pos c9]
    exact ⟨s5, h0⟩
  rw [if_neg c9, if_neg c9]
  by_cases c10 : p1 = 10
  · rw [if_pos c10, if_pos c10]
    exact ⟨s6, h0⟩
  rw [if_neg c10, if_neg c10]
  by_cases c11 : p1 = 11
  · rw [if_pos c11, if_pos c11]
    exact ⟨r 4 1 15 (by decide) rfl, h0⟩
  rw [if_neg c11, if_neg c11]
  by_cases c12 : p1 = 12
  · rw [if_pos c12, if_pos c12]
    exact ⟨r 8 2 3 (by decide) rfl, h0⟩
  rw [if_neg c12, if_neg c12]
  by_cases c13 : p1 = 13
  · rw [if_pos c13, if_pos c13]
    have h9 : 0 ≤ V 3 (2000 + 9) ∧ V 3 (2000 + 9) ≤ 1 := h9
    by_cases d : W 2 4 = 0
    · rw [if_pos d]
      refine ⟨?_, h0⟩
      show (0 : Int) = V 3 (2000 + 9)
      omega
    · rw [if_neg d]
      refine ⟨?_, h0⟩
      show (1 : Int) = V 3 (2000 + 9)
      omega
  rw [if_neg c13, if_neg c13]
  by_cases c14 : p1 = 14
  · rw [if_pos c14, if_pos c14]
    exact ⟨r 10 2 5 (by decide) rfl, h0⟩
  rw [if_neg c14, if_neg c14]
  by_cases c15 : p1 = 15
  · rw [if_pos c15, if_pos (show 15 ≤ p1 ∧ p1 ≤ 17 by omega), show (5 + p1 - 15).toNat = 5 by omega]
    exact ⟨r 5 2 6 (by decide) rfl, h0⟩
  rw [if_neg c15]
  by_cases c16 : p1 = 16
  · rw [if_pos c16, if_pos (show 15 ≤ p1 ∧ p1 ≤ 17 by omega), show (5 + p1 - 15).toNat = 6 by omega]
    exact ⟨r 6 1 16 (by decide) rfl, h0⟩
  rw [if_neg c16]
  by_cases c17 : p1 = 17
  · rw [if_pos c17, if_pos (show 15 ≤ p1 ∧ p1 ≤ 17 by omega), show (5 + p1 - 15).toNat = 7 by omega]
    exact ⟨r 7 1 17 (by decide) rfl, h0⟩
  rw [if_neg c17, if_neg (show ¬ (15 ≤ p1 ∧ p1 ≤ 17) by omega)]
  exact ⟨rfl, h0⟩
/-- what the law tells -/
theorem zS_ask {V W : Nat → Nat → Int} {n1 np : Nat} {Lw : List yK} {p1 p2 : Int} (h : zCo V W n1 np Lw) : (zf_askc W Lw p1 p2).1 = (zf_ask V Lw p1 p2).1 ∧ zCo (zf_ask V Lw p1 p2).2 (zf_askc W Lw p1 p2).2 n1 np Lw := by
  have h0 := zCo_0 (v := 0) h
  have hr0 := h0.1
  unfold zf_askc zf_ask
  by_cases c1 : 0 ≤ p1 ∧ p1 ≤ 12
  · rw [if_pos c1, if_pos c1]
    by_cases d0 : p2 = 0
    · rw [if_pos d0, if_pos (show 0 ≤ p2 ∧ p2 ≤ 1 by omega), if_neg (show ¬ ¬ p2 = 0 by omega)]
      exact ⟨zS_we hr0, h0⟩
    · rw [if_neg d0]
      by_cases d1 : p2 = 1
      · rw [if_pos d1, if_pos (show 0 ≤ p2 ∧ p2 ≤ 1 by omega), if_pos d0]
        refine ⟨?_, h0⟩
        show zy_sn _ _ _ = zd_sn _ _ _
        unfold zd_sn
        rw [zg_ew_q (zRr_q hr0) (by decide)]
        rfl
      · rw [if_neg d1, if_neg (show ¬ (0 ≤ p2 ∧ p2 ≤ 1) by omega)]
        exact ⟨rfl, h0⟩
  · rw [if_neg c1, if_neg c1]
    exact ⟨rfl, h0⟩
/-- doings as calls -/
theorem zCo_do {A : Nat → Nat} {Y : List (Nat × Nat)} {F : List (Nat × Nat × Nat)} {V W : Nat → Nat → Int} {nu n1 np : Nat} {Lw : List yK} {k a b : Int} (hC : zCI A Y F W n1 np Lw) (h : zCo V W n1 np Lw) (hI : zRI V nu n1 np Lw) (hz : zRz V np) : (zo_doC W n1 np Lw k a b).1 = (zo_do V nu n1 np Lw k a b).1 ∧ zCo (zo_do V nu n1 np Lw k a b).2 (zo_doC W n1 np Lw k a b).2 n1 np Lw := by
  obtain ⟨g1, g2, g3, g47, g5, g6⟩ := h
  have hd := zS_do (k := k) (a := a) (b := b) g1 hI hz.1 g3.2.2.1 hz.2
  obtain ⟨nu', hI'⟩ := zRI_do (k := k) (a := a) (b := b) hI
  refine ⟨hd.1, zCo_of hd.2 hI' (zRz_do hz) (zDm_of hd.2 (zCI_do hC)) ?_ (zU_do g1 hI hz hd.1 (zDm_of g1 hC) g6)⟩
  have hf : ∀ j, (zo_doC W n1 np Lw k a b).2 20 j = W 20 j := fun j => by
    unfold zo_doC
    split
    · exact zf_wnbc_f (by decide)
    · split
      · exact zf_keybc_f (by decide)
      · split
        · exact zf_rudc_f (by decide)
        · exact zf_mbyc_f (by decide)
  exact zSt_e g5 (zo_kp_do 0 1 (by decide) (by decide) (by decide) (Or.inr (by decide))) (fun j => zo_kp_do 2 j (by decide) (by decide) (by decide) (Or.inl (by decide))) zo_doC_0 hf
theorem zo_do_b6 {V : Nat → Nat → Int} {nu n1 np : Nat} {Lw : List yK} {k a b : Int} (hl : ∀ p, p < np → 0 ≤ V 3 (2000 + (3 * p + 13)) ∧ V 3 (2000 + (3 * p + 13)) ≤ 9) (hn : n1 ≤ 10) : -6 ≤ (zo_do V nu n1 np Lw k a b).1 := by
  unfold zo_do
  split
  · have h9 := zf_wnn_b (V := V) (nuξ := nu) (L := Lw) (t := a)
    omega
  · split
    · have h9 := zf_kyn_b (V := V) (nuξ := nu) (L := Lw) (p := a) (t := b) hl
      omega
    · split
      · have h9 := zf_rnn_b (V := V) (nuξ := nu) (npξ := np) (L := Lw) hn
        omega
      · have h9 := zf_mnn_b (V := V) (nuξ := nu) (t := a)
        omega
/-- a doing, told -/
theorem zCo_dt {A : Nat → Nat} {Y : List (Nat × Nat)} {F : List (Nat × Nat × Nat)} {V W : Nat → Nat → Int} {nu n1 np : Nat} {Lw : List yK} {k a b : Int} (hC : zCI A Y F W n1 np Lw) (h : zCo V W n1 np Lw) (h8 : V 0 8 = (nu : Int)) : (zf_stc (zo_doC W n1 np Lw k a b).2 (zo_doC W n1 np Lw k a b).1).1 = (zo_do (zp_set V 0 0 0) nu n1 np Lw k a b).1 ∧ zCo (zT_tell (zo_do (zp_set V 0 0 0) nu n1 np Lw k a b).2 (zo_do (zp_set V 0 0 0) nu n1 np Lw k a b).1) (zf_stc (zo_doC W n1 np Lw k a b).2 (zo_doC W n1 np Lw k a b).1).2 n1 np Lw := by
  have h0 := zCo_0 (v := 0) h
  obtain ⟨nu', hI, hz, -⟩ := zCo_I h0
  have en : nu' = nu := by
    have h1 := hI.2.1.1
    have h2 : zp_set V 0 0 0 0 8 = V 0 8 := zp_set_ne (Or.inr (by decide))
    omega
  subst en
  obtain ⟨d1, d2⟩ := zCo_do (k := k) (a := a) (b := b) hC h0 hI hz
  have hb := zo_do_b6 (nu := nu') (Lw := Lw) (k := k) (a := a) (b := b) hI.2.2.1.2.2.2.2.2 hI.2.2.1.1
  rw [d1]
  exact ⟨zf_stc_1, zCo_st d2 hb⟩
theorem zS_win {A : Nat → Nat} {Y : List (Nat × Nat)} {F : List (Nat × Nat × Nat)} {V W : Nat → Nat → Int} {nu n1 np : Nat} {Lw : List yK} {p1 : Int} (hC : zCI A Y F W n1 np Lw) (h : zCo V W n1 np Lw) (h8 : V 0 8 = (nu : Int)) : (zf_windc W Lw p1).1 = (zf_win V nu Lw p1).1 ∧ zCo (zf_win V nu Lw p1).2 (zf_windc W Lw p1).2 n1 np Lw := zCo_dt (k := 0) (a := p1) (b := 0) hC h h8
theorem zS_key {A : Nat → Nat} {Y : List (Nat × Nat)} {F : List (Nat × Nat × Nat)} {V W : Nat → Nat → Int} {nu n1 np : Nat} {Lw : List yK} {p1 p2 : Int} (hC : zCI A Y F W n1 np Lw) (h : zCo V W n1 np Lw) (h8 : V 0 8 = (nu : Int)) : (zf_keyc W Lw p1 p2).1 = (zf_key V nu np Lw p1 p2).1 ∧ zCo (zf_key V nu np Lw p1 p2).2 (zf_keyc W Lw p1 p2).2 n1 np Lw := zCo_dt (k := 1) (a := p1) (b := p2) hC h h8
theorem zS_rud {A : Nat → Nat} {Y : List (Nat × Nat)} {F : List (Nat × Nat × Nat)} {V W : Nat → Nat → Int} {nu n1 np : Nat} {Lw : List yK} (hC : zCI A Y F W n1 np Lw) (h : zCo V W n1 np Lw) (h8 : V 0 8 = (nu : Int)) : (zf_runc W n1 np Lw).1 = (zf_run V nu n1 np Lw).1 ∧ zCo (zf_run V nu n1 np Lw).2 (zf_runc W n1 np Lw).2 n1 np Lw := zCo_dt (k := 2) (a := 0) (b := 0) hC h h8
theorem zS_men {A : Nat → Nat} {Y : List (Nat × Nat)} {F : List (Nat × Nat × Nat)} {V W : Nat → Nat → Int} {nu n1 np : Nat} {Lw : List yK} {p1 : Int} (hC : zCI A Y F W n1 np Lw) (h : zCo V W n1 np Lw) (h8 : V 0 8 = (nu : Int)) : (zf_menc W p1).1 = (zf_men V nu p1).1 ∧ zCo (zf_men V nu p1).2 (zf_menc W p1).2 n1 np Lw := zCo_dt (k := 3) (a := p1) (b := 0) hC h h8
/-- days on paper -/
theorem zX_q {V W : Nat → Nat → Int} {n1 np : Nat} {Lw : List yK} {t : Int} (h : zCo V W n1 np Lw) : zQx (zd_X V n1 np Lw t) (zc_X W 2 50 n1 np Lw t) := zd_hr_q h.2.1.1 (zRr_q h.1)
theorem zS_hor {V W : Nat → Nat → Int} {n1 np : Nat} {Lw : List yK} {p1 p2 p3 : Int} (h : zCo V W n1 np Lw) : (zf_horc W n1 np Lw p1 p2 p3).1 = (zf_hor V n1 np Lw p1 p2 p3).1 ∧ zCo (zf_hor V n1 np Lw p1 p2 p3).2 (zf_horc W n1 np Lw p1 p2 p3).2 n1 np Lw := by
  obtain ⟨⟨hn1, hnp⟩, -, e3, e1⟩ := zCo_n h
  have h0 := zCo_0 (v := 0) h
  have hq := zRr_q h.1
  have er : zd_ru (zRc W 2 50) Lw p1 = zd_ru (zRw V) Lw p1 := zd_ru_q hq
  unfold zf_horc zf_hor
  rw [e1, er]
  by_cases c1 : 0 ≤ p1 ∧ p1 ≤ 12
  · rw [if_pos c1, if_pos c1]
    by_cases c2 : 0 ≤ p2 ∧ p2 ≤ 23
    · rw [if_pos c2, if_pos c2]
      by_cases c3 : p3 = 0
      · rw [if_pos c3, if_pos (show 0 ≤ p3 ∧ p3 ≤ (np : Int) by omega), if_neg (show ¬ ¬ p3 = 0 by omega)]
        exact ⟨rfl, h0⟩
      · rw [if_neg c3]
        by_cases c4 : 0 ≤ p3 - 1 ∧ p3 - 1 < (np : Int)
        · rw [if_pos (show 0 ≤ p3 - 1 ∧ p3 - 1 < (np : Int) ∧ p3 - 1 < 6 by omega), if_pos (show 0 ≤ p3 ∧ p3 ≤ (np : Int) by omega), if_pos c3]
          refine ⟨?_, h0⟩
          refine (if_pos ⟨c2, by omega⟩).trans ?_
          exact zd_sp_q hq (by omega)
        · rw [if_neg (show ¬ (0 ≤ p3 - 1 ∧ p3 - 1 < (np : Int) ∧ p3 - 1 < 6) by omega), if_neg (show ¬ (0 ≤ p3 ∧ p3 ≤ (np : Int)) by omega)]
          exact ⟨rfl, h0⟩
    · rw [if_neg c2, if_neg c2]
      exact ⟨rfl, h0⟩
  · rw [if_neg c1, if_neg c1]
    exact ⟨rfl, h0⟩
theorem zS_end {V W : Nat → Nat → Int} {n1 np : Nat} {Lw : List yK} {p1 p2 p3 : Int} (h : zCo V W n1 np Lw) : (zf_endc W n1 np Lw p1 p2 p3).1 = (zf_edr V n1 np Lw p1 p2 p3).1 ∧ zCo (zf_edr V n1 np Lw p1 p2 p3).2 (zf_endc W n1 np Lw p1 p2 p3).2 n1 np Lw := by
  obtain ⟨⟨hn1, hnp⟩, -, e3, e1⟩ := zCo_n h
  have h0 := zCo_0 (v := 0) h
  have hX := zX_q (t := p1) h
  unfold zf_endc zf_edr
  rw [e3]
  by_cases c1 : 0 ≤ p1 ∧ p1 ≤ 12
  · rw [if_pos c1, if_pos c1]
    by_cases c2 : 0 ≤ p2 ∧ p2 < (n1 : Int)
    · rw [if_pos (show 0 ≤ p2 ∧ p2 < (n1 : Int) ∧ p2 < 10 by omega), if_pos c2]
      have hx := hX p2.toNat (by omega)
      by_cases c3 : 0 ≤ p3 ∧ p3 ≤ 1
      · rw [if_pos c3, if_pos c3]
        by_cases c4 : ¬ p3 = 0
        · rw [if_pos c4, if_pos c4]
          exact ⟨hx.1, h0⟩
        · rw [if_neg c4, if_neg c4]
          exact ⟨hx.2, h0⟩
      · rw [if_neg c3, if_neg c3]
        exact ⟨rfl, h0⟩
    · rw [if_neg (show ¬ (0 ≤ p2 ∧ p2 < (n1 : Int) ∧ p2 < 10) by omega), if_neg c2]
      exact ⟨rfl, h0⟩
  · rw [if_neg c1, if_neg c1]
    exact ⟨rfl, h0⟩
theorem zc_wt_q {X X' : (Nat → Int) × (Nat → Int)} {d d' o o' : Nat → Int} : ∀ {n : Nat}, n ≤ 10 → zQx X X' → (∀ w, w < n → d' w = d w ∧ o' w = o w) → zc_wt X' d' o' n = zc_wt X d o n
  | 0, _, _, _ => rfl
  | n + 1, hn, hX, h => by
    obtain ⟨h1, h2⟩ := h n (by omega)
    rw [zc_wt, zc_wt, zc_wt_q (n := n) (by omega) hX (fun w hw => h w (by omega)), h1, h2, (hX n (by omega)).2]
theorem zc_md_q {X X' : (Nat → Int) × (Nat → Int)} {m m' : Nat → Int} : ∀ {n : Nat}, n ≤ 10 → zQx X X' → (∀ w, w < n → m' w = m w) → zc_md X' m' n = zc_md X m n
  | 0, _, _, _ => rfl
  | n + 1, hn, hX, h => by
    rw [zc_md, zc_md, zc_md_q (n := n) (by omega) hX (fun w hw => h w (by omega)), h n (by omega), (hX n (by omega)).1]
theorem zc_an_q {s s' : Nat → Int} : ∀ {n : Nat}, (∀ p, p < n → s' p = s p) → zc_an s' n = zc_an s n
  | 0, _ => rfl
  | n + 1, h => by
    rw [zc_an, zc_an, zc_an_q (n := n) (fun p hp => h p (by omega)), h n (by omega)]
theorem zc_sf_q {s s' : Nat → Nat → Int} {np : Nat} (h : ∀ k p, p < np → s' k p = s k p) : ∀ {n : Nat}, zc_sf s' np n = zc_sf s np n
  | 0 => rfl
  | n + 1 => by
    rw [zc_sf, zc_sf, zc_sf_q h (n := n), zc_an_q (h n)]
theorem zS_day {V W : Nat → Nat → Int} {n1 np : Nat} {Lw : List yK} {p1 p2 : Int} (h : zCo V W n1 np Lw) : (zf_dayc W n1 np Lw p1 p2).1 = (zf_dyr V n1 np Lw p1 p2).1 ∧ zCo (zf_dyr V n1 np Lw p1 p2).2 (zf_dayc W n1 np Lw p1 p2).2 n1 np Lw := by
  obtain ⟨⟨hn1, hnp⟩, -, e3, e1⟩ := zCo_n h
  have h0 := zCo_0 (v := 0) h
  have hX := zX_q (t := p1) h
  have hq := zRr_q h.1
  have er : zd_ru (zRc W 2 50) Lw p1 = zd_ru (zRw V) Lw p1 := zd_ru_q hq
  unfold zf_dayc zf_dyr
  by_cases c1 : 0 ≤ p1 ∧ p1 ≤ 12
  · rw [if_pos c1, if_pos c1]
    by_cases d0 : p2 = 0
    · rw [if_pos d0, if_pos (show 0 ≤ p2 ∧ p2 ≤ 2 by omega), if_neg (show ¬ ¬ p2 = 0 by omega)]
      refine ⟨?_, h0⟩
      rw [er]
      exact zc_sf_q (fun k p hp => zd_sp_q hq (by omega))
    · rw [if_neg d0]
      by_cases d1 : p2 = 1
      · rw [if_pos d1, if_pos (show 0 ≤ p2 ∧ p2 ≤ 2 by omega), if_pos d0, if_neg (show ¬ ¬ p2 = 1 by omega)]
        refine ⟨zc_wt_q hn1 hX (fun w hw => ?_), h0⟩
        obtain ⟨r1, r2, r3, r4, r5, r6⟩ := zPl_39 w (by omega)
        exact ⟨zRr_gt h.1 (by omega) r3, zRr_gt h.1 (by omega) r4⟩
      · rw [if_neg d1]
        by_cases d2 : p2 = 2
        · rw [if_pos d2, if_pos (show 0 ≤ p2 ∧ p2 ≤ 2 by omega), if_pos d0, if_pos d1]
          refine ⟨zc_md_q hn1 hX (fun w hw => ?_), h0⟩
          obtain ⟨r1, r2, r3, r4, r5, r6⟩ := zPl_39 w (by omega)
          exact zRr_gt h.1 (by omega) r2
        · rw [if_neg d2, if_neg (show ¬ (0 ≤ p2 ∧ p2 ≤ 2) by omega)]
          exact ⟨rfl, h0⟩
  · rw [if_neg c1, if_neg c1]
    exact ⟨rfl, h0⟩
