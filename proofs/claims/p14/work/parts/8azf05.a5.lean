/-! part a5: the pile reads as the text says (pure) -/
section YS
variable {so : Nat → Nat} {wo : Nat → Int} {nx : Nat → Nat} {lf : Nat → Nat ⊕ (Nat × Int × Int)}
/-- what is to be shown of each kind of reading -/
noncomputable def yP (so : Nat → Nat) (wo : Nat → Int) (nx : Nat → Nat) (lf : Nat → Nat ⊕ (Nat × Int × Int)) (k d n p : Nat) (x : yD) (s : yR) : Prop :=
  (k = 0 → ∀ (test : Bool) (pile : List (Int × Int)) (c : yC), yA so wo nx lf test (1, p, n, d, pile, c) 3 7 d n c.2.2 pile c s) ∧
  (k = 1 → ∀ (test : Bool) (pile : List (Int × Int)) (c : yC), ym_tp 6 pile → yA so wo nx lf test (1, p, n, d, pile, c) 3 6 d n c.2.2 pile c s) ∧
  (k = 2 → ∀ (test : Bool) (pile pend : List (Int × Int)) (c c0 : yC) (n0 kk b : Nat), ym_tp 6 pile → (∀ e ∈ pend, yp 6 e) → n = n0 + kk → yF b c0 (ym_fl pend c) kk x → yL so wo nx lf test (3, p, n, d, pend ++ pile, c) 3 6 d n0 b pile c0 s) ∧
  (k = 3 → ∀ (test : Bool) (pile : List (Int × Int)) (c : yC), ym_tp 5 pile → yA so wo nx lf test (1, p, n, d, pile, c) 3 5 d n c.2.2 pile c s) ∧
  (k = 4 → ∀ (test : Bool) (pile pend : List (Int × Int)) (c c0 : yC) (n0 kk b : Nat), ym_tp 5 pile → (∀ e ∈ pend, yp 5 e) → n = n0 + kk → yF b c0 (ym_fl pend c) kk x → yL so wo nx lf test (3, p, n, d, pend ++ pile, c) 3 5 d n0 b pile c0 s) ∧
  (k = 5 → ∀ (pile : List (Int × Int)) (c : yC), ym_tp 4 pile → ym_in pile ≠ 32 → yA so wo nx lf true (0, p, n, d, pile, c) 2 3 d n c.2.2 pile c s) ∧
  (k = 6 → ∀ (pile : List (Int × Int)) (c : yC), ym_tp 2 pile → ym_in pile ≠ 32 → yA so wo nx lf true (0, p, n, d, pile, c) 2 2 d n c.2.2 pile c s) ∧
  (k = 7 → ∀ (pile pend : List (Int × Int)) (c c0 : yC) (n0 kk b : Nat), ym_tp 2 pile → ym_in pile ≠ 32 → (∀ e ∈ pend, yp 2 e) → n = n0 + kk → yF b c0 (ym_fl pend c) kk x → yd_T x → yL so wo nx lf true (2, p, n, d, pend ++ pile, c) 2 2 d n0 b pile c0 s) ∧
  (k = 8 → ∀ (pile : List (Int × Int)) (c : yC), ym_tp 1 pile → ym_in pile ≠ 32 → yA so wo nx lf true (0, p, n, d, pile, c) 2 1 d n c.2.2 pile c s) ∧
  (k = 9 → ∀ (pile pend : List (Int × Int)) (c c0 : yC) (n0 kk b : Nat), ym_tp 1 pile → ym_in pile ≠ 32 → (∀ e ∈ pend, yp 1 e) → n = n0 + kk → yF b c0 (ym_fl pend c) kk x → yd_T x → ¬ yr_w so wo 1476 p = true → yL so wo nx lf true (2, p, n, d, pend ++ pile, c) 2 1 d n0 b pile c0 s)
theorem yL_to {test : Bool} {S S' : yS} {t : Nat} {lo : Int} {d n0 b : Nat} {pile : List (Int × Int)} {c0 : yC} {s : yR} (h : ym_to so wo nx lf test S (Sum.inr S')) (h2 : yL so wo nx lf test S' t lo d n0 b pile c0 s) : yL so wo nx lf test S t lo d n0 b pile c0 s := yL_A (yA_L h h2)
theorem yp_nil {lo : Int} : ∀ e ∈ ([] : List (Int × Int)), yp lo e := fun e he => by cases he
theorem yp_one {lo o t : Int} (h1 : lo ≤ zbinds o) (h2 : 20 ≤ o) : ∀ e ∈ [(o, t)], yp lo e := fun e he => by
  rcases List.mem_cons.mp he with rfl | he
  · exact ⟨h1, h2⟩
  · cases he
theorem yp_app {lo : Int} {p q : List (Int × Int)} (h1 : ∀ e ∈ p, yp lo e) (h2 : ∀ e ∈ q, yp lo e) : ∀ e ∈ p ++ q, yp lo e := fun e he => by
  rcases List.mem_append.mp he with h | h
  · exact h1 e h
  · exact h2 e h
theorem yp_los {a b : Int} {p : List (Int × Int)} (h : ∀ e ∈ p, yp a e) (hb : b ≤ a) : ∀ e ∈ p, yp b e := fun e he => yp_lo (h e he) hb
theorem ym_app1 {p q : List (Int × Int)} {a : Int × Int} : (p ++ [a]) ++ q = p ++ (a :: q) := by rw [List.append_assoc]; rfl
theorem ym_fl1 {p : List (Int × Int)} {o t : Int} {c : yC} : ym_fl (p ++ [(o, t)]) c = ym_e1 o t (ym_fl p c) := by rw [ym_fl_app]; rfl
/-- a part -/
theorem yP_0 (hlf : ∀ p p1 o a, lf p = Sum.inr (p1, o, a) → 0 ≤ o ∧ o ≤ 12) {f : Nat} (ih : ∀ k d n p x s, yr so wo nx lf f k d n p x = some s → yP so wo nx lf k d n p x s) {d n p : Nat} {x : yD} {s : yR} (h : yr so wo nx lf (f + 1) 0 d n p x = some s) (test : Bool) (pile : List (Int × Int)) (c : yC) : yA so wo nx lf test (1, p, n, d, pile, c) 3 7 d n c.2.2 pile c s := by
  rw [yr_0] at h
  have st : ∀ r, ym_rp so wo nx lf p n d pile c = r → ym_to so wo nx lf test (1, p, n, d, pile, c) r := fun r hr => ym_one (by show (1 : Nat) ≠ 4; decide) hr
  by_cases h1 : yr_s so wo 91 p = true
  · rw [if_pos h1] at h
    by_cases h2 : 8 ≤ d
    · rw [if_pos h2] at h
      rw [← Option.some.inj h]
      exact yA_inl (st _ (by unfold ym_rp; rw [if_pos h1, if_pos h2]))
    · rw [if_neg h2] at h
      have s1 := st (Sum.inr (1, nx p, n, d + 1, (32, 0) :: pile, c)) (by unfold ym_rp; rw [if_pos h1, if_neg h2])
      rcases yb_some h with ⟨q, e1, e2⟩ | ⟨p1, n1, y, e1, e2⟩
      · rw [e2]
        exact yA_inl (ym_cat s1 (ym_ts (((ih _ _ _ _ _ _ e1).2.2.2.1 rfl test ((32, 0) :: pile) c (by show zbinds 32 < 5; decide)).1 q rfl)))
      · obtain ⟨pend, c', k, g1, g2, g3, g4⟩ := ((ih _ _ _ _ _ _ e1).2.2.2.1 rfl test ((32, 0) :: pile) c (by show zbinds 32 < 5; decide)).2 p1 n1 y rfl
        have en := (yr_end _ _ _ _ _ _ _ _ _ e1).2.1 rfl
        have i1 : ym_in (pend ++ (32, 0) :: pile) = 32 := ym_in_app pend (yp_los g2 (by decide))
        have s2 := ym_cat s1 (ym_ts g1)
        have z1 : ym_se 5 (pend ++ (32, 0) :: pile) c' = ((32, 0) :: pile, ym_fl pend c') := ym_se_fl (by show zbinds 32 < 5; decide) pend c' g2
        have s3 : ∀ r, ym_bs so wo nx test p1 n1 (d + 1) (pend ++ (32, 0) :: pile) c' = r → ym_to so wo nx lf test (1, p, n, d, pile, c) r := fun r hr => ym_cat s2 (ym_ts (ym_one (by show (3 : Nat) ≠ 4; decide) hr))
        by_cases h3 : yr_s so wo 93 p1 = true
        · rw [if_pos h3] at e2
          rw [← Option.some.inj e2]
          refine yA_inr [] (ym_fl pend c') k (s3 _ ?_) yp_nil g3 g4
          unfold ym_bs
          rw [if_neg (fun z => z (ym_jo_no en.1 en.2)), if_pos i1, if_pos h3, z1]
          rfl
        · rw [if_neg h3] at e2
          rw [← Option.some.inj e2]
          refine yA_inl (s3 _ ?_)
          unfold ym_bs
          rw [if_neg (fun z => z (ym_jo_no en.1 en.2)), if_pos i1, if_neg h3]
  · rw [if_neg h1] at h
    by_cases h2 : 50 ≤ n
    · rw [if_pos h2] at h
      rw [← Option.some.inj h]
      exact yA_inl (st _ (by unfold ym_rp; rw [if_neg h1, if_pos h2]))
    · rw [if_neg h2] at h
      cases hl : lf p with
      | inl q =>
        rw [hl] at h
        rw [← Option.some.inj h]
        exact yA_inl (st _ (by unfold ym_rp; rw [if_neg h1, if_neg h2, hl]))
      | inr t =>
        obtain ⟨p1, o, a⟩ := t
        rw [hl] at h
        rw [← Option.some.inj h]
        have ho := hlf p p1 o a hl
        refine yA_inr [] (yu c.1 c.2.2 o, yu c.2.1 c.2.2 a, c.2.2 + 1) 1 (st _ ?_) yp_nil rfl (yF_lf ho.1 ho.2)
        unfold ym_rp
        rw [if_neg h1, if_neg h2, hl]
        rfl
/-- on with a term -/
theorem yP_2 {f : Nat} (ih : ∀ k d n p x s, yr so wo nx lf f k d n p x = some s → yP so wo nx lf k d n p x s) {d n p : Nat} {x : yD} {s : yR} (h : yr so wo nx lf (f + 1) 2 d n p x = some s) (test : Bool) (pile pend : List (Int × Int)) (c c0 : yC) (n0 kk b : Nat) (hp : ym_tp 6 pile) (hd : ∀ e ∈ pend, yp 6 e) (hn : n = n0 + kk) (hF : yF b c0 (ym_fl pend c) kk x) : yL so wo nx lf test (3, p, n, d, pend ++ pile, c) 3 6 d n0 b pile c0 s := by
  rw [yr_2] at h
  by_cases h1 : yr_mu so wo p = -1
  · rw [if_pos h1] at h
    rw [← Option.some.inj h]
    exact yL_inr pend c kk ym_rfl hd hn hF
  · rw [if_neg h1] at h
    have hr := yr_ad_mu h1
    have s1 : ym_to so wo nx lf test (3, p, n, d, pend ++ pile, c) (Sum.inr (1, nx p, n, d, (yr_mu so wo p, 0) :: pile, ym_fl pend c)) := by
      refine ym_one (by show (3 : Nat) ≠ 4; decide) ?_
      show ym_bs so wo nx test p n d (pend ++ pile) c = _
      unfold ym_bs
      rw [ym_jo_mu h1, if_pos h1, zb_mu hr.2, ym_se_fl hp pend c hd]
    rcases yb_some h with ⟨q, e1, e2⟩ | ⟨p1, n1, y, e1, e2⟩
    · rw [e2]
      exact yL_A (yA_inl (ym_cat s1 (ym_ts (((ih _ _ _ _ _ _ e1).1 rfl test ((yr_mu so wo p, 0) :: pile) (ym_fl pend c)).1 q rfl))))
    · obtain ⟨pe, c', k, g1, g2, g3, g4⟩ := ((ih _ _ _ _ _ _ e1).1 rfl test ((yr_mu so wo p, 0) :: pile) (ym_fl pend c)).2 p1 n1 y rfl
      have hpe := yp_7 g2
      subst hpe
      have g1 : ym_to so wo nx lf test (1, nx p, n, d, (yr_mu so wo p, 0) :: pile, ym_fl pend c) (Sum.inr (3, p1, n1, d, [(yr_mu so wo p, 0)] ++ pile, c')) := g1
      have g4 : yF (ym_fl pend c).2.2 (ym_fl pend c) c' k y := g4
      refine yL_to (ym_cat s1 (ym_ts g1)) ((ih _ _ _ _ _ _ e2).2.2.1 rfl test pile [(yr_mu so wo p, 0)] c' c0 n0 (kk + k) b hp (yp_one (by rw [zb_mu hr.2]; decide) (by omega)) (by omega) ?_)
      show yF b c0 (ym_e1 (yr_mu so wo p) 0 c') (kk + k) _
      rw [ym_e1_op (by omega)]
      exact yF_op hF g4 (by omega) (by omega)
/-- a term -/
theorem yP_1 {f : Nat} (ih : ∀ k d n p x s, yr so wo nx lf f k d n p x = some s → yP so wo nx lf k d n p x s) {d n p : Nat} {x : yD} {s : yR} (h : yr so wo nx lf (f + 1) 1 d n p x = some s) (test : Bool) (pile : List (Int × Int)) (c : yC) (hp : ym_tp 6 pile) : yA so wo nx lf test (1, p, n, d, pile, c) 3 6 d n c.2.2 pile c s := by
  rw [yr_1] at h
  rcases yb_some h with ⟨q, e1, e2⟩ | ⟨p1, n1, y, e1, e2⟩
  · rw [e2]
    exact yA_inl (((ih _ _ _ _ _ _ e1).1 rfl test pile c).1 q rfl)
  · obtain ⟨pe, c', k, g1, g2, g3, g4⟩ := ((ih _ _ _ _ _ _ e1).1 rfl test pile c).2 p1 n1 y rfl
    have hpe := yp_7 g2
    subst hpe
    exact yA_L g1 ((ih _ _ _ _ _ _ e2).2.2.1 rfl test pile [] c' c n k c.2.2 hp yp_nil g3 g4)
/-- on with a sum -/
theorem yP_4 {f : Nat} (ih : ∀ k d n p x s, yr so wo nx lf f k d n p x = some s → yP so wo nx lf k d n p x s) {d n p : Nat} {x : yD} {s : yR} (h : yr so wo nx lf (f + 1) 4 d n p x = some s) (test : Bool) (pile pend : List (Int × Int)) (c c0 : yC) (n0 kk b : Nat) (hp : ym_tp 5 pile) (hd : ∀ e ∈ pend, yp 5 e) (hn : n = n0 + kk) (hF : yF b c0 (ym_fl pend c) kk x) : yL so wo nx lf test (3, p, n, d, pend ++ pile, c) 3 5 d n0 b pile c0 s := by
  rw [yr_4] at h
  by_cases h1 : yr_ad so wo p = -1
  · rw [if_pos h1] at h
    rw [← Option.some.inj h]
    exact yL_inr pend c kk ym_rfl hd hn hF
  · rw [if_neg h1] at h
    have hr := yr_ad_r h1
    have hb := zb_ad hr
    have s1 : ym_to so wo nx lf test (3, p, n, d, pend ++ pile, c) (Sum.inr (1, nx p, n, d, (yr_ad so wo p, 0) :: pile, ym_fl pend c)) := by
      refine ym_one (by show (3 : Nat) ≠ 4; decide) ?_
      show ym_bs so wo nx test p n d (pend ++ pile) c = _
      unfold ym_bs
      rw [ym_jo_ad h1, if_pos h1, hb, ym_se_fl hp pend c hd]
    have t6 : ym_tp 6 ((yr_ad so wo p, 0) :: pile) := by
      show zbinds (yr_ad so wo p) < 6
      omega
    rcases yb_some h with ⟨q, e1, e2⟩ | ⟨p1, n1, y, e1, e2⟩
    · rw [e2]
      exact yL_A (yA_inl (ym_cat s1 (ym_ts (((ih _ _ _ _ _ _ e1).2.1 rfl test ((yr_ad so wo p, 0) :: pile) (ym_fl pend c) t6).1 q rfl))))
    · obtain ⟨pe, c', k, g1, g2, g3, g4⟩ := ((ih _ _ _ _ _ _ e1).2.1 rfl test ((yr_ad so wo p, 0) :: pile) (ym_fl pend c) t6).2 p1 n1 y rfl
      rw [← ym_app1] at g1
      refine yL_to (ym_cat s1 (ym_ts g1)) ((ih _ _ _ _ _ _ e2).2.2.2.2.1 rfl test pile (pe ++ [(yr_ad so wo p, 0)]) c' c0 n0 (kk + k) b hp (yp_app (yp_los g2 (by decide)) (yp_one (by rw [hb]; decide) hr.1)) (by omega) ?_)
      rw [ym_fl1, ym_e1_op (by omega)]
      exact yF_op hF g4 hr.1 (by omega)
/-- a sum -/
theorem yP_3 {f : Nat} (ih : ∀ k d n p x s, yr so wo nx lf f k d n p x = some s → yP so wo nx lf k d n p x s) {d n p : Nat} {x : yD} {s : yR} (h : yr so wo nx lf (f + 1) 3 d n p x = some s) (test : Bool) (pile : List (Int × Int)) (c : yC) (hp : ym_tp 5 pile) : yA so wo nx lf test (1, p, n, d, pile, c) 3 5 d n c.2.2 pile c s := by
  rw [yr_3] at h
  rcases yb_some h with ⟨q, e1, e2⟩ | ⟨p1, n1, y, e1, e2⟩
  · rw [e2]
    exact yA_inl (((ih _ _ _ _ _ _ e1).2.1 rfl test pile c (ym_tp_lo hp (by decide))).1 q rfl)
  · obtain ⟨pe, c', k, g1, g2, g3, g4⟩ := ((ih _ _ _ _ _ _ e1).2.1 rfl test pile c (ym_tp_lo hp (by decide))).2 p1 n1 y rfl
    exact yA_L g1 ((ih _ _ _ _ _ _ e2).2.2.2.2.1 rfl test pile pe c' c n k c.2.2 hp (yp_los g2 (by decide)) g3 g4)
/-- plain -/
theorem yP_5 {f : Nat} (ih : ∀ k d n p x s, yr so wo nx lf f k d n p x = some s → yP so wo nx lf k d n p x s) {d n p : Nat} {x : yD} {s : yR} (h : yr so wo nx lf (f + 1) 5 d n p x = some s) (pile : List (Int × Int)) (c : yC) (hp : ym_tp 4 pile) (hi : ym_in pile ≠ 32) : yA so wo nx lf true (0, p, n, d, pile, c) 2 3 d n c.2.2 pile c s := by
  rw [yr_5] at h
  have st : ∀ r, ym_rl so wo nx lf p n d pile c = r → ym_to so wo nx lf true (0, p, n, d, pile, c) r := fun r hr => ym_one (by show (0 : Nat) ≠ 4; decide) hr
  by_cases h0 : yr_w so wo 14836 p = true
  · rw [if_pos h0] at h
    have s1 := st (Sum.inr (0, nx p, n, d, (28, 0) :: pile, c)) (by unfold ym_rl; rw [if_pos h0])
    have t4 : ym_tp 4 ((28, 0) :: pile) := by show zbinds 28 < 4; decide
    rcases yb_some h with ⟨q, e1, e2⟩ | ⟨p1, n1, y, e1, e2⟩
    · rw [e2]
      exact yA_inl (ym_cat s1 (ym_ts (((ih _ _ _ _ _ _ e1).2.2.2.2.2.1 rfl ((28, 0) :: pile) c t4 hi).1 q rfl)))
    · obtain ⟨pe, c', k, g1, g2, g3, g4⟩ := ((ih _ _ _ _ _ _ e1).2.2.2.2.2.1 rfl ((28, 0) :: pile) c t4 hi).2 p1 n1 y rfl
      rw [← Option.some.inj e2]
      rw [← ym_app1] at g1
      refine yA_inr (pe ++ [(28, 0)]) c' k (ym_cat s1 (ym_ts g1)) (yp_app g2 (yp_one (by decide) (by decide))) g3 ?_
      rw [ym_fl1, ym_e1_op (by decide)]
      exact yF_nt g4 ((yr_T _ _ _ _ _ _ _ _ _ e1).1 (Or.inl rfl))
  · rw [if_neg h0] at h
    by_cases h1 : yr_s so wo 40 p = true
    · rw [if_pos h1] at h
      by_cases h2 : 8 ≤ d
      · rw [if_pos h2] at h
        rw [← Option.some.inj h]
        exact yA_inl (st _ (by unfold ym_rl; rw [if_neg h0, if_pos h1, if_pos h2]))
      · rw [if_neg h2] at h
        have s1 := st (Sum.inr (0, nx p, n, d + 1, (31, 0) :: pile, c)) (by unfold ym_rl; rw [if_neg h0, if_pos h1, if_neg h2])
        have t1 : ym_tp 1 ((31, 0) :: pile) := by show zbinds 31 < 1; decide
        have i1 : ym_in ((31, 0) :: pile) ≠ 32 := by show (31 : Int) ≠ 32; decide
        rcases yb_some h with ⟨q, e1, e2⟩ | ⟨p1, n1, y, e1, e2⟩
        · rw [e2]
          exact yA_inl (ym_cat s1 (ym_ts (((ih _ _ _ _ _ _ e1).2.2.2.2.2.2.2.2.1 rfl ((31, 0) :: pile) c t1 i1).1 q rfl)))
        · obtain ⟨pe, c', k, g1, g2, g3, g4⟩ := ((ih _ _ _ _ _ _ e1).2.2.2.2.2.2.2.2.1 rfl ((31, 0) :: pile) c t1 i1).2 p1 n1 y rfl
          have en := (yr_end _ _ _ _ _ _ _ _ _ e1).2.2.2.2.1 rfl
          have i2 : ym_in (pe ++ (31, 0) :: pile) = 31 := ym_in_app pe g2
          have s2 := ym_cat s1 (ym_ts g1)
          have z1 : ym_se 1 (pe ++ (31, 0) :: pile) c' = ((31, 0) :: pile, ym_fl pe c') := ym_se_fl t1 pe c' g2
          have s3 : ∀ r, ym_bt so wo nx p1 n1 (d + 1) (pe ++ (31, 0) :: pile) c' = r → ym_to so wo nx lf true (0, p, n, d, pile, c) r := fun r hr => ym_cat s2 (ym_ts (ym_one (by show (2 : Nat) ≠ 4; decide) hr))
          by_cases h3 : yr_s so wo 41 p1 = true
          · rw [if_pos h3] at e2
            rw [← Option.some.inj e2]
            refine yA_inr [] (ym_fl pe c') k (s3 _ ?_) yp_nil g3 g4
            unfold ym_bt
            rw [if_neg en.1, if_neg en.2, if_neg (by rw [i2]; decide), if_pos h3, z1]
            rfl
          · rw [if_neg h3] at e2
            rw [← Option.some.inj e2]
            refine yA_inl (s3 _ ?_)
            unfold ym_bt
            rw [if_neg en.1, if_neg en.2, if_neg (by rw [i2]; decide), if_neg h3]
    · rw [if_neg h1] at h
      have sm : ∀ r, ym_to so wo nx lf true (1, p, n, d, pile, c) r → ym_to so wo nx lf true (0, p, n, d, pile, c) r := fun r hr => by
        refine ym_same (S := (1, p, n, d, pile, c)) (by show (1 : Nat) ≠ 4; decide) (by show (0 : Nat) ≠ 4; decide) ?_ hr
        show ym_rl so wo nx lf p n d pile c = ym_rp so wo nx lf p n d pile c
        unfold ym_rl
        rw [if_neg h0, if_neg h1]
      have t5 : ym_tp 5 pile := ym_tp_lo hp (by decide)
      rcases yb_some h with ⟨q, e1, e2⟩ | ⟨p1, n1, y, e1, e2⟩
      · rw [e2]
        exact yA_inl (sm _ (((ih _ _ _ _ _ _ e1).2.2.2.1 rfl true pile c t5).1 q rfl))
      · obtain ⟨pe, c', k, g1, g2, g3, g4⟩ := ((ih _ _ _ _ _ _ e1).2.2.2.1 rfl true pile c t5).2 p1 n1 y rfl
        have en := (yr_end _ _ _ _ _ _ _ _ _ e1).2.1 rfl
        have s2 := sm _ g1
        have i2 : ym_in (pe ++ pile) ≠ 32 := by rw [ym_in_app pe (yp_los g2 (by decide))]; exact hi
        have d2 : ¬ ym_cd (pe ++ pile) = true := by rw [ym_cd_app pe g2, ym_cd_tp hp]; decide
        have s3 : ∀ r, ym_bs so wo nx true p1 n1 d (pe ++ pile) c' = r → ym_to so wo nx lf true (0, p, n, d, pile, c) r := fun r hr => ym_cat s2 (ym_ts (ym_one (by show (3 : Nat) ≠ 4; decide) hr))
        by_cases h3 : yr_cm so wo p1 = -1
        · rw [if_pos h3] at e2
          rw [← Option.some.inj e2]
          refine yA_inl (s3 _ ?_)
          unfold ym_bs
          rw [if_neg (fun z => z (ym_jo_no en.1 en.2)), if_neg i2, if_neg (fun z => absurd z.2 (by decide)), if_neg d2, if_pos h3]
        · rw [if_neg h3] at e2
          have hr := yr_cm_r h3
          have hb := zb_cm hr
          have z1 : ym_se 5 (pe ++ pile) c' = (pile, ym_fl pe c') := ym_se_fl t5 pe c' g2
          have s4 := s3 (Sum.inr (1, nx p1, n1, d, (yr_cm so wo p1, 0) :: pile, ym_fl pe c')) (by
            unfold ym_bs
            rw [if_neg (fun z => z (ym_jo_no en.1 en.2)), if_neg i2, if_neg (fun z => absurd z.2 (by decide)), if_neg d2, if_neg h3, z1])
          have t5' : ym_tp 5 ((yr_cm so wo p1, 0) :: pile) := by show zbinds (yr_cm so wo p1) < 5; omega
          rcases yb_some e2 with ⟨q, e3, e4⟩ | ⟨p2, n2, y2, e3, e4⟩
          · rw [e4]
            exact yA_inl (ym_cat s4 (ym_ts (((ih _ _ _ _ _ _ e3).2.2.2.1 rfl true ((yr_cm so wo p1, 0) :: pile) (ym_fl pe c') t5').1 q rfl)))
          · obtain ⟨pf, c2, k2, j1, j2, j3, j4⟩ := ((ih _ _ _ _ _ _ e3).2.2.2.1 rfl true ((yr_cm so wo p1, 0) :: pile) (ym_fl pe c') t5').2 p2 n2 y2 rfl
            have en2 := (yr_end _ _ _ _ _ _ _ _ _ e3).2.1 rfl
            rw [← Option.some.inj e4]
            have i3 : ym_in (pf ++ (yr_cm so wo p1, 0) :: pile) ≠ 32 := by
              rw [ym_in_app pf (yp_los j2 (by decide))]
              show (if 31 ≤ yr_cm so wo p1 then yr_cm so wo p1 else ym_in pile) ≠ 32
              rw [if_neg (by omega)]
              exact hi
            have d3 : ym_cd (pf ++ (yr_cm so wo p1, 0) :: pile) = true := by
              rw [ym_cd_app pf j2]
              show (if 20 ≤ yr_cm so wo p1 ∧ yr_cm so wo p1 ≤ 24 then _ else _) = true
              rw [if_neg (by omega)]
              exact decide_eq_true (by omega)
            have s5 : ym_to so wo nx lf true (0, p, n, d, pile, c) (Sum.inr (2, p2, n2, d, pf ++ (yr_cm so wo p1, 0) :: pile, c2)) := by
              refine ym_cat (ym_cat s4 (ym_ts j1)) (ym_ts (ym_one (by show (3 : Nat) ≠ 4; decide) ?_))
              show ym_bs so wo nx true p2 n2 d (pf ++ (yr_cm so wo p1, 0) :: pile) c2 = _
              unfold ym_bs
              rw [if_neg (fun z => z (ym_jo_no en2.1 en2.2)), if_neg i3, if_neg (fun z => absurd z.2 (by decide)), if_pos d3]
            rw [← ym_app1] at s5
            refine yA_inr (pf ++ [(yr_cm so wo p1, 0)]) c2 (k + k2) s5 (yp_app (yp_los j2 (by decide)) (yp_one (by omega) (by omega))) (by omega) ?_
            rw [ym_fl1, ym_e1_op (by omega)]
            exact yF_op g4 j4 (by omega) (by omega)
/-- on with both -/
theorem yP_7 {f : Nat} (ih : ∀ k d n p x s, yr so wo nx lf f k d n p x = some s → yP so wo nx lf k d n p x s) {d n p : Nat} {x : yD} {s : yR} (h : yr so wo nx lf (f + 1) 7 d n p x = some s) (pile pend : List (Int × Int)) (c c0 : yC) (n0 kk b : Nat) (hp : ym_tp 2 pile) (hi : ym_in pile ≠ 32) (hd : ∀ e ∈ pend, yp 2 e) (hn : n = n0 + kk) (hF : yF b c0 (ym_fl pend c) kk x) (hT : yd_T x) : yL so wo nx lf true (2, p, n, d, pend ++ pile, c) 2 2 d n0 b pile c0 s := by
  rw [yr_7] at h
  by_cases h1 : yr_w so wo 1476 p = true
  · rw [if_pos h1] at h
    have s1 : ym_to so wo nx lf true (2, p, n, d, pend ++ pile, c) (Sum.inr (0, nx p, n, d, (29, ((ym_fl pend c).2.2 : Int)) :: pile, ym_mk 29 (ym_fl pend c))) := by
      refine ym_one (by show (2 : Nat) ≠ 4; decide) ?_
      show ym_bt so wo nx p n d (pend ++ pile) c = _
      unfold ym_bt
      rw [if_pos h1, ym_se_fl hp pend c hd]
    have t4 : ym_tp 4 ((29, ((ym_fl pend c).2.2 : Int)) :: pile) := by show zbinds 29 < 4; decide
    rcases yb_some h with ⟨q, e1, e2⟩ | ⟨p1, n1, y, e1, e2⟩
    · rw [e2]
      exact yL_A (yA_inl (ym_cat s1 (ym_ts (((ih _ _ _ _ _ _ e1).2.2.2.2.2.1 rfl _ (ym_mk 29 (ym_fl pend c)) t4 hi).1 q rfl))))
    · obtain ⟨pe, c', k, g1, g2, g3, g4⟩ := ((ih _ _ _ _ _ _ e1).2.2.2.2.2.1 rfl _ (ym_mk 29 (ym_fl pend c)) t4 hi).2 p1 n1 y rfl
      have hTy := (yr_T _ _ _ _ _ _ _ _ _ e1).1 (Or.inl rfl)
      rw [← ym_app1] at g1
      refine yL_to (ym_cat s1 (ym_ts g1)) ((ih _ _ _ _ _ _ e2).2.2.2.2.2.2.2.1 rfl pile (pe ++ [(29, ((ym_fl pend c).2.2 : Int))]) c' c0 n0 (kk + k) b hp hi (yp_app (yp_los g2 (by decide)) (yp_one (by decide) (by decide))) (by omega) ?_ (yd_T_ad hTy))
      rw [ym_fl1]
      exact (yF_jn (o := 29) hF hT g4).1 rfl
  · rw [if_neg h1] at h
    rw [← Option.some.inj h]
    exact yL_inr pend c kk ym_rfl hd hn hF
/-- both -/
theorem yP_6 {f : Nat} (ih : ∀ k d n p x s, yr so wo nx lf f k d n p x = some s → yP so wo nx lf k d n p x s) {d n p : Nat} {x : yD} {s : yR} (h : yr so wo nx lf (f + 1) 6 d n p x = some s) (pile : List (Int × Int)) (c : yC) (hp : ym_tp 2 pile) (hi : ym_in pile ≠ 32) : yA so wo nx lf true (0, p, n, d, pile, c) 2 2 d n c.2.2 pile c s := by
  rw [yr_6] at h
  rcases yb_some h with ⟨q, e1, e2⟩ | ⟨p1, n1, y, e1, e2⟩
  · rw [e2]
    exact yA_inl (((ih _ _ _ _ _ _ e1).2.2.2.2.2.1 rfl pile c (ym_tp_lo hp (by decide)) hi).1 q rfl)
  · obtain ⟨pe, c', k, g1, g2, g3, g4⟩ := ((ih _ _ _ _ _ _ e1).2.2.2.2.2.1 rfl pile c (ym_tp_lo hp (by decide)) hi).2 p1 n1 y rfl
    exact yA_L g1 ((ih _ _ _ _ _ _ e2).2.2.2.2.2.2.2.1 rfl pile pe c' c n k c.2.2 hp hi (yp_los g2 (by decide)) g3 g4 ((yr_T _ _ _ _ _ _ _ _ _ e1).1 (Or.inl rfl)))
/-- on with a test -/
theorem yP_9 {f : Nat} (ih : ∀ k d n p x s, yr so wo nx lf f k d n p x = some s → yP so wo nx lf k d n p x s) {d n p : Nat} {x : yD} {s : yR} (h : yr so wo nx lf (f + 1) 9 d n p x = some s) (pile pend : List (Int × Int)) (c c0 : yC) (n0 kk b : Nat) (hp : ym_tp 1 pile) (hi : ym_in pile ≠ 32) (hd : ∀ e ∈ pend, yp 1 e) (hn : n = n0 + kk) (hF : yF b c0 (ym_fl pend c) kk x) (hT : yd_T x) (hno : ¬ yr_w so wo 1476 p = true) : yL so wo nx lf true (2, p, n, d, pend ++ pile, c) 2 1 d n0 b pile c0 s := by
  rw [yr_9] at h
  by_cases h1 : yr_w so wo 498 p = true
  · rw [if_pos h1] at h
    have s1 : ym_to so wo nx lf true (2, p, n, d, pend ++ pile, c) (Sum.inr (0, nx p, n, d, (30, ((ym_fl pend c).2.2 : Int)) :: pile, ym_mk 30 (ym_fl pend c))) := by
      refine ym_one (by show (2 : Nat) ≠ 4; decide) ?_
      show ym_bt so wo nx p n d (pend ++ pile) c = _
      unfold ym_bt
      rw [if_neg hno, if_pos h1, ym_se_fl hp pend c hd]
    have t2 : ym_tp 2 ((30, ((ym_fl pend c).2.2 : Int)) :: pile) := by show zbinds 30 < 2; decide
    rcases yb_some h with ⟨q, e1, e2⟩ | ⟨p1, n1, y, e1, e2⟩
    · rw [e2]
      exact yL_A (yA_inl (ym_cat s1 (ym_ts (((ih _ _ _ _ _ _ e1).2.2.2.2.2.2.1 rfl _ (ym_mk 30 (ym_fl pend c)) t2 hi).1 q rfl))))
    · obtain ⟨pe, c', k, g1, g2, g3, g4⟩ := ((ih _ _ _ _ _ _ e1).2.2.2.2.2.2.1 rfl _ (ym_mk 30 (ym_fl pend c)) t2 hi).2 p1 n1 y rfl
      have hTy := (yr_T _ _ _ _ _ _ _ _ _ e1).1 (Or.inr (Or.inl rfl))
      have hn1 := (yr_end _ _ _ _ _ _ _ _ _ e1).2.2.2.1 (Or.inl rfl)
      rw [← ym_app1] at g1
      refine yL_to (ym_cat s1 (ym_ts g1)) ((ih _ _ _ _ _ _ e2).2.2.2.2.2.2.2.2.2 rfl pile (pe ++ [(30, ((ym_fl pend c).2.2 : Int))]) c' c0 n0 (kk + k) b hp hi (yp_app (yp_los g2 (by decide)) (yp_one (by decide) (by decide))) (by omega) ?_ (yd_T_or hTy) hn1)
      rw [ym_fl1]
      exact (yF_jn (o := 30) hF hT g4).2 rfl
  · rw [if_neg h1] at h
    rw [← Option.some.inj h]
    exact yL_inr pend c kk ym_rfl hd hn hF
/-- a test -/
theorem yP_8 {f : Nat} (ih : ∀ k d n p x s, yr so wo nx lf f k d n p x = some s → yP so wo nx lf k d n p x s) {d n p : Nat} {x : yD} {s : yR} (h : yr so wo nx lf (f + 1) 8 d n p x = some s) (pile : List (Int × Int)) (c : yC) (hp : ym_tp 1 pile) (hi : ym_in pile ≠ 32) : yA so wo nx lf true (0, p, n, d, pile, c) 2 1 d n c.2.2 pile c s := by
  rw [yr_8] at h
  rcases yb_some h with ⟨q, e1, e2⟩ | ⟨p1, n1, y, e1, e2⟩
  · rw [e2]
    exact yA_inl (((ih _ _ _ _ _ _ e1).2.2.2.2.2.2.1 rfl pile c (ym_tp_lo hp (by decide)) hi).1 q rfl)
  · obtain ⟨pe, c', k, g1, g2, g3, g4⟩ := ((ih _ _ _ _ _ _ e1).2.2.2.2.2.2.1 rfl pile c (ym_tp_lo hp (by decide)) hi).2 p1 n1 y rfl
    exact yA_L g1 ((ih _ _ _ _ _ _ e2).2.2.2.2.2.2.2.2.2 rfl pile pe c' c n k c.2.2 hp hi (yp_los g2 (by decide)) g3 g4 ((yr_T _ _ _ _ _ _ _ _ _ e1).1 (Or.inr (Or.inl rfl))) ((yr_end _ _ _ _ _ _ _ _ _ e1).2.2.2.1 (Or.inl rfl)))
theorem yP_all (hlf : ∀ p p1 o a, lf p = Sum.inr (p1, o, a) → 0 ≤ o ∧ o ≤ 12) : ∀ (f k d n p : Nat) (x : yD) (s : yR), yr so wo nx lf f k d n p x = some s → yP so wo nx lf k d n p x s
  | 0, k, d, n, p, x, s, h => by cases h
  | f + 1, k, d, n, p, x, s, h => by
    have ih := yP_all hlf f
    refine ⟨fun e => ?_, fun e => ?_, fun e => ?_, fun e => ?_, fun e => ?_, fun e => ?_, fun e => ?_, fun e => ?_, fun e => ?_, fun e => ?_⟩
    · subst e; exact yP_0 hlf ih h
    · subst e; exact yP_1 ih h
    · subst e; exact yP_2 ih h
    · subst e; exact yP_3 ih h
    · subst e; exact yP_4 ih h
    · subst e; exact yP_5 ih h
    · subst e; exact yP_6 ih h
    · subst e; exact yP_7 ih h
    · subst e; exact yP_8 ih h
    · subst e; exact yP_9 ih h
/-- a whole sum, a whole test: as the reference reads them -/
theorem yQ_sum (hlf : ∀ p p1 o a, lf p = Sum.inr (p1, o, a) → 0 ≤ o ∧ o ≤ 12) {n p : Nat} {x : yD} {s : yR} (h : yZ so wo nx lf 3 0 n p x s) (c : yC) : (∀ q, s = Sum.inl q → ∃ g, ym_run so wo nx lf false g (1, p, n, 0, [], c) = some (Sum.inl q)) ∧ ∀ p1 n1 y, s = Sum.inr (p1, n1, y) → ∃ (g k : Nat) (pend : List (Int × Int)) (c' : yC), ym_run so wo nx lf false g (1, p, n, 0, [], c) = some (Sum.inr (4, p1, n1, 0, pend, c')) ∧ ym_se 1 pend c' = ([], ym_fl pend c') ∧ n1 = n + k ∧ yF c.2.2 c (ym_fl pend c') k y := by
  obtain ⟨f, h⟩ := h
  have A := (yP_all hlf f 3 0 n p x s h).2.2.2.1 rfl false [] c trivial
  constructor
  · intro q hq
    obtain ⟨k, h1⟩ := A.1 q hq
    exact ⟨k + 1 + 0, h1 0⟩
  · intro p1 n1 y hy
    obtain ⟨pend, c', k, g1, g2, g3, g4⟩ := A.2 p1 n1 y hy
    subst hy
    have en := (yr_end _ _ _ _ _ _ _ _ _ h).2.1 rfl
    rw [List.append_nil] at g1
    have i1 : ym_in pend = -1 := by
      have := ym_in_app (pile := []) pend (yp_los g2 (by decide))
      rw [List.append_nil] at this
      exact this
    have s2 : ym_to so wo nx lf false (1, p, n, 0, [], c) (Sum.inr (4, p1, n1, 0, pend, c')) := by
      refine ym_cat g1 (ym_ts (ym_one (by show (3 : Nat) ≠ 4; decide) ?_))
      show ym_bs so wo nx false p1 n1 0 pend c' = _
      unfold ym_bs
      rw [if_neg (fun z => z (ym_jo_no en.1 en.2)), if_neg (by rw [i1]; decide), if_pos ⟨i1, rfl⟩]
    obtain ⟨kk, h1⟩ := s2
    have z1 := ym_se_fl (least := 1) (pile := []) trivial pend c' (yp_los g2 (by decide))
    rw [List.append_nil] at z1
    exact ⟨kk + 1 + 1, k, pend, c', h1 1, z1, g3, g4⟩
theorem yQ_test (hlf : ∀ p p1 o a, lf p = Sum.inr (p1, o, a) → 0 ≤ o ∧ o ≤ 12) {n p : Nat} {x : yD} {s : yR} (h : yZ so wo nx lf 8 0 n p x s) (c : yC) : (∀ q, s = Sum.inl q → ∃ g, ym_run so wo nx lf true g (0, p, n, 0, [], c) = some (Sum.inl q)) ∧ ∀ p1 n1 y, s = Sum.inr (p1, n1, y) → yd_T y ∧ ∃ (g k : Nat) (pend : List (Int × Int)) (c' : yC), ym_run so wo nx lf true g (0, p, n, 0, [], c) = some (Sum.inr (4, p1, n1, 0, pend, c')) ∧ ym_se 1 pend c' = ([], ym_fl pend c') ∧ n1 = n + k ∧ yF c.2.2 c (ym_fl pend c') k y := by
  obtain ⟨f, h⟩ := h
  have A := (yP_all hlf f 8 0 n p x s h).2.2.2.2.2.2.2.2.1 rfl [] c trivial (by show (-1 : Int) ≠ 32; decide)
  constructor
  · intro q hq
    obtain ⟨k, h1⟩ := A.1 q hq
    exact ⟨k + 1 + 0, h1 0⟩
  · intro p1 n1 y hy
    obtain ⟨pend, c', k, g1, g2, g3, g4⟩ := A.2 p1 n1 y hy
    subst hy
    refine ⟨(yr_T _ _ _ _ _ _ _ _ _ h).1 (Or.inr (Or.inr rfl)), ?_⟩
    have en := (yr_end _ _ _ _ _ _ _ _ _ h).2.2.2.2.1 rfl
    rw [List.append_nil] at g1
    have i1 : ym_in pend = -1 := by
      have := ym_in_app (pile := []) pend g2
      rw [List.append_nil] at this
      exact this
    have s2 : ym_to so wo nx lf true (0, p, n, 0, [], c) (Sum.inr (4, p1, n1, 0, pend, c')) := by
      refine ym_cat g1 (ym_ts (ym_one (by show (2 : Nat) ≠ 4; decide) ?_))
      show ym_bt so wo nx p1 n1 0 pend c' = _
      unfold ym_bt
      rw [if_neg en.1, if_neg en.2, if_pos i1]
    obtain ⟨kk, h1⟩ := s2
    have z1 := ym_se_fl (least := 1) (pile := []) trivial pend c' g2
    rw [List.append_nil] at z1
    exact ⟨kk + 1 + 1, k, pend, c', h1 1, z1, g3, g4⟩
end YS
