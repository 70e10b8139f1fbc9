/-! part a4: the reference's way of reading, by a pile (pure) -/
noncomputable def yu (g : Nat → Int) (i : Nat) (v : Int) : Nat → Int := fun j => if j = i then v else g j
theorem yu_at {g : Nat → Int} {i : Nat} {v : Int} : yu g i v i = v := if_pos rfl
theorem yu_ne {g : Nat → Int} {i j : Nat} {v : Int} (h : j ≠ i) : yu g i v j = g j := if_neg h
/-- code: what to do, with what, how much -/
abbrev yC : Type := (Nat → Int) × (Nat → Int) × Nat
/-- code that is worth x, with k leaves -/
noncomputable def yE (op ar : Nat → Int) : Nat → Nat → Nat → Nat → yD → Prop
  | 0, _, _, _, _ => False
  | f + 1, b, e, k, x =>
    (e = b + 1 ∧ k = 1 ∧ 0 ≤ op b ∧ op b ≤ 12 ∧ x = yd_lf (op b) (ar b)) ∨
    (∃ (m e1 k1 k2 : Nat) (y z : yD), e = e1 + 1 ∧ yE op ar f b m k1 y ∧ yE op ar f m e1 k2 z ∧ 20 ≤ op e1 ∧ op e1 ≤ 27 ∧ k = k1 + k2 ∧ x = yd_op (op e1) y z) ∨
    (∃ (e1 : Nat) (y : yD), e = e1 + 1 ∧ yE op ar f b e1 k y ∧ op e1 = 28 ∧ yd_T y ∧ x = yd_nt y) ∨
    (∃ (m k1 k2 : Nat) (y z : yD), yE op ar f b m k1 y ∧ op m = 29 ∧ ar m = (e : Int) ∧ yE op ar f (m + 1) e k2 z ∧ yd_T y ∧ k = k1 + k2 ∧ x = yd_ad y z) ∨
    (∃ (m k1 k2 : Nat) (y z : yD), yE op ar f b m k1 y ∧ op m = 30 ∧ ar m = (e : Int) ∧ yE op ar f (m + 1) e k2 z ∧ yd_T y ∧ k = k1 + k2 ∧ x = yd_or y z)
theorem yE_lt {op ar : Nat → Int} : ∀ {f b e k : Nat} {x : yD}, yE op ar f b e k x → b < e ∧ 1 ≤ k
  | 0, b, e, k, x, h => h.elim
  | f + 1, b, e, k, x, h => by
    rcases h with ⟨h1, h2, _⟩ | ⟨m, e1, k1, k2, y, z, h1, h2, h3, _, _, h4, _⟩ | ⟨e1, y, h1, h2, _⟩ | ⟨m, k1, k2, y, z, h1, _, _, h2, _, h4, _⟩ | ⟨m, k1, k2, y, z, h1, _, _, h2, _, h4, _⟩
    · omega
    · have a1 := yE_lt h2
      have a2 := yE_lt h3
      omega
    · have a1 := yE_lt h2
      omega
    · have a1 := yE_lt h1
      have a2 := yE_lt h2
      omega
    · have a1 := yE_lt h1
      have a2 := yE_lt h2
      omega
theorem yE_c {op ar op' ar' : Nat → Int} : ∀ {f b e k : Nat} {x : yD}, (∀ j, b ≤ j → j < e → op' j = op j ∧ ar' j = ar j) → yE op ar f b e k x → yE op' ar' f b e k x
  | 0, b, e, k, x, hc, h => h.elim
  | f + 1, b, e, k, x, hc, h => by
    rcases h with ⟨h1, h2, h3, h4, h5⟩ | ⟨m, e1, k1, k2, y, z, h1, h2, h3, h4, h5, h6, h7⟩ | ⟨e1, y, h1, h2, h3, h4, h5⟩ | ⟨m, k1, k2, y, z, h1, h2, h3, h4, h5, h6, h7⟩ | ⟨m, k1, k2, y, z, h1, h2, h3, h4, h5, h6, h7⟩
    · have c := hc b (by omega) (by omega)
      refine Or.inl ⟨h1, h2, ?_, ?_, ?_⟩
      · rw [c.1]; exact h3
      · rw [c.1]; exact h4
      · rw [c.1, c.2]; exact h5
    · have a1 := yE_lt h2
      have a2 := yE_lt h3
      have c := hc e1 (by omega) (by omega)
      refine Or.inr (Or.inl ⟨m, e1, k1, k2, y, z, h1, yE_c (fun j j1 j2 => hc j (by omega) (by omega)) h2, yE_c (fun j j1 j2 => hc j (by omega) (by omega)) h3, ?_, ?_, h6, ?_⟩)
      · rw [c.1]; exact h4
      · rw [c.1]; exact h5
      · rw [c.1]; exact h7
    · have a1 := yE_lt h2
      have c := hc e1 (by omega) (by omega)
      refine Or.inr (Or.inr (Or.inl ⟨e1, y, h1, yE_c (fun j j1 j2 => hc j (by omega) (by omega)) h2, ?_, h4, h5⟩))
      rw [c.1]; exact h3
    · have a1 := yE_lt h1
      have a2 := yE_lt h4
      have c := hc m (by omega) (by omega)
      refine Or.inr (Or.inr (Or.inr (Or.inl ⟨m, k1, k2, y, z, yE_c (fun j j1 j2 => hc j (by omega) (by omega)) h1, ?_, ?_, yE_c (fun j j1 j2 => hc j (by omega) (by omega)) h4, h5, h6, h7⟩)))
      · rw [c.1]; exact h2
      · rw [c.2]; exact h3
    · have a1 := yE_lt h1
      have a2 := yE_lt h4
      have c := hc m (by omega) (by omega)
      refine Or.inr (Or.inr (Or.inr (Or.inr ⟨m, k1, k2, y, z, yE_c (fun j j1 j2 => hc j (by omega) (by omega)) h1, ?_, ?_, yE_c (fun j j1 j2 => hc j (by omega) (by omega)) h4, h5, h6, h7⟩)))
      · rw [c.1]; exact h2
      · rw [c.2]; exact h3
theorem yE_up {op ar : Nat → Int} : ∀ {f b e k : Nat} {x : yD}, yE op ar f b e k x → yE op ar (f + 1) b e k x
  | 0, b, e, k, x, h => h.elim
  | f + 1, b, e, k, x, h => by
    rcases h with h | ⟨m, e1, k1, k2, y, z, h1, h2, h3, h4, h5, h6, h7⟩ | ⟨e1, y, h1, h2, h3, h4, h5⟩ | ⟨m, k1, k2, y, z, h1, h2, h3, h4, h5, h6, h7⟩ | ⟨m, k1, k2, y, z, h1, h2, h3, h4, h5, h6, h7⟩
    · exact Or.inl h
    · exact Or.inr (Or.inl ⟨m, e1, k1, k2, y, z, h1, yE_up h2, yE_up h3, h4, h5, h6, h7⟩)
    · exact Or.inr (Or.inr (Or.inl ⟨e1, y, h1, yE_up h2, h3, h4, h5⟩))
    · exact Or.inr (Or.inr (Or.inr (Or.inl ⟨m, k1, k2, y, z, yE_up h1, h2, h3, yE_up h4, h5, h6, h7⟩)))
    · exact Or.inr (Or.inr (Or.inr (Or.inr ⟨m, k1, k2, y, z, yE_up h1, h2, h3, yE_up h4, h5, h6, h7⟩)))
theorem yE_ge {op ar : Nat → Int} {f g b e k : Nat} {x : yD} (hg : f ≤ g) (h : yE op ar f b e k x) : yE op ar g b e k x := by
  induction g with
  | zero =>
    have : f = 0 := by omega
    subst this
    exact h
  | succ g ih =>
    by_cases e9 : f = g + 1
    · rw [← e9]; exact h
    · exact yE_up (ih (by omega))
/-- code from b on that is worth x; ahead of b it is as c0's -/
noncomputable def yF (b : Nat) (c0 c : yC) (k : Nat) (x : yD) : Prop := (∀ j, j < b → c.1 j = c0.1 j ∧ c.2.1 j = c0.2.1 j) ∧ ∃ f, yE c.1 c.2.1 f b c.2.2 k x
theorem yF_lt {b k : Nat} {c0 c : yC} {x : yD} (h : yF b c0 c k x) : b < c.2.2 ∧ 1 ≤ k := by
  obtain ⟨_, f, h⟩ := h
  exact yE_lt h
theorem yF_lf {c : yC} {o a : Int} (h1 : 0 ≤ o) (h2 : o ≤ 12) : yF c.2.2 c (yu c.1 c.2.2 o, yu c.2.1 c.2.2 a, c.2.2 + 1) 1 (yd_lf o a) := by
  refine ⟨fun j hj => ⟨yu_ne (by omega), yu_ne (by omega)⟩, 1, Or.inl ⟨rfl, rfl, ?_, ?_, ?_⟩⟩
  · show 0 ≤ yu c.1 c.2.2 o c.2.2
    rw [yu_at]; exact h1
  · show yu c.1 c.2.2 o c.2.2 ≤ 12
    rw [yu_at]; exact h2
  · show yd_lf o a = yd_lf (yu c.1 c.2.2 o c.2.2) (yu c.2.1 c.2.2 a c.2.2)
    rw [yu_at, yu_at]
theorem yF_op {b k1 k2 : Nat} {c0 c1 c2 : yC} {o : Int} {x y : yD} (hx : yF b c0 c1 k1 x) (hy : yF c1.2.2 c1 c2 k2 y) (h1 : 20 ≤ o) (h2 : o ≤ 27) : yF b c0 (yu c2.1 c2.2.2 o, yu c2.2.1 c2.2.2 0, c2.2.2 + 1) (k1 + k2) (yd_op o x y) := by
  have l1 := yF_lt hx
  have l2 := yF_lt hy
  obtain ⟨a1, f1, e1⟩ := hx
  obtain ⟨a2, f2, e2⟩ := hy
  refine ⟨fun j hj => ?_, max f1 f2 + 1, Or.inr (Or.inl ⟨c1.2.2, c2.2.2, k1, k2, x, y, rfl, ?_, ?_, ?_, ?_, rfl, ?_⟩)⟩
  · have g1 := a1 j hj
    have g2 := a2 j (by omega)
    exact ⟨(yu_ne (by omega)).trans (g2.1.trans g1.1), (yu_ne (by omega)).trans (g2.2.trans g1.2)⟩
  · refine yE_c (fun j j1 j2 => ?_) (yE_ge (Nat.le_max_left f1 f2) e1)
    have g2 := a2 j j2
    exact ⟨(yu_ne (by omega)).trans g2.1, (yu_ne (by omega)).trans g2.2⟩
  · exact yE_c (fun j j1 j2 => ⟨yu_ne (by omega), yu_ne (by omega)⟩) (yE_ge (Nat.le_max_right f1 f2) e2)
  · show 20 ≤ yu c2.1 c2.2.2 o c2.2.2
    rw [yu_at]; exact h1
  · show yu c2.1 c2.2.2 o c2.2.2 ≤ 27
    rw [yu_at]; exact h2
  · show yd_op o x y = yd_op (yu c2.1 c2.2.2 o c2.2.2) x y
    rw [yu_at]
theorem yF_nt {b k : Nat} {c0 c : yC} {x : yD} (hx : yF b c0 c k x) (hT : yd_T x) : yF b c0 (yu c.1 c.2.2 28, yu c.2.1 c.2.2 0, c.2.2 + 1) k (yd_nt x) := by
  have l1 := yF_lt hx
  obtain ⟨a1, f1, e1⟩ := hx
  refine ⟨fun j hj => ?_, f1 + 1, Or.inr (Or.inr (Or.inl ⟨c.2.2, x, rfl, ?_, ?_, hT, rfl⟩))⟩
  · have g1 := a1 j hj
    exact ⟨(yu_ne (by omega)).trans g1.1, (yu_ne (by omega)).trans g1.2⟩
  · exact yE_c (fun j j1 j2 => ⟨yu_ne (by omega), yu_ne (by omega)⟩) e1
  · exact yu_at
/-- a mark whose end is told later -/
noncomputable def ym_mk (o : Int) (c : yC) : yC := (yu c.1 c.2.2 o, yu c.2.1 c.2.2 0, c.2.2 + 1)
theorem yF_jn {b k1 k2 : Nat} {c0 c1 c3 : yC} {o : Int} {x y : yD} (hx : yF b c0 c1 k1 x) (hT : yd_T x) (hy : yF (ym_mk o c1).2.2 (ym_mk o c1) c3 k2 y) : (o = 29 → yF b c0 (c3.1, yu c3.2.1 c1.2.2 (c3.2.2 : Int), c3.2.2) (k1 + k2) (yd_ad x y)) ∧ (o = 30 → yF b c0 (c3.1, yu c3.2.1 c1.2.2 (c3.2.2 : Int), c3.2.2) (k1 + k2) (yd_or x y)) := by
  have l1 := yF_lt hx
  have l2 := yF_lt hy
  have l3 : (ym_mk o c1).2.2 = c1.2.2 + 1 := rfl
  obtain ⟨a1, f1, e1⟩ := hx
  obtain ⟨a2, f2, e2⟩ := hy
  have b1 : ∀ j, j < c1.2.2 → c3.1 j = c1.1 j ∧ c3.2.1 j = c1.2.1 j := fun j hj => by
    have g2 := a2 j (by omega)
    exact ⟨g2.1.trans (yu_ne (by omega)), g2.2.trans (yu_ne (by omega))⟩
  have b2 : c3.1 c1.2.2 = o := (a2 c1.2.2 (by omega)).1.trans yu_at
  have d0 : ∀ j, j < b → c3.1 j = c0.1 j ∧ yu c3.2.1 c1.2.2 (c3.2.2 : Int) j = c0.2.1 j := fun j hj => by
    have g1 := a1 j hj
    have g2 := b1 j (by omega)
    exact ⟨g2.1.trans g1.1, (yu_ne (by omega)).trans (g2.2.trans g1.2)⟩
  have d1 : yE c3.1 (yu c3.2.1 c1.2.2 (c3.2.2 : Int)) (max f1 f2) b c1.2.2 k1 x := by
    refine yE_c (fun j j1 j2 => ?_) (yE_ge (Nat.le_max_left f1 f2) e1)
    have g2 := b1 j j2
    exact ⟨g2.1, (yu_ne (by omega)).trans g2.2⟩
  have d2 : yE c3.1 (yu c3.2.1 c1.2.2 (c3.2.2 : Int)) (max f1 f2) (c1.2.2 + 1) c3.2.2 k2 y := by
    refine yE_c (fun j j1 j2 => ⟨rfl, yu_ne (by omega)⟩) (yE_ge (Nat.le_max_right f1 f2) e2)
  constructor
  · intro ho
    exact ⟨d0, max f1 f2 + 1, Or.inr (Or.inr (Or.inr (Or.inl ⟨c1.2.2, k1, k2, x, y, d1, b2.trans ho, yu_at, d2, hT, rfl, rfl⟩)))⟩
  · intro ho
    exact ⟨d0, max f1 f2 + 1, Or.inr (Or.inr (Or.inr (Or.inr ⟨c1.2.2, k1, k2, x, y, d1, b2.trans ho, yu_at, d2, hT, rfl, rfl⟩)))⟩
/-- one of the pile is emitted -/
noncomputable def ym_e1 (o t : Int) (c : yC) : yC := if o = 29 ∨ o = 30 then (c.1, yu c.2.1 t.toNat (c.2.2 : Int), c.2.2) else (yu c.1 c.2.2 o, yu c.2.1 c.2.2 0, c.2.2 + 1)
noncomputable def ym_fl : List (Int × Int) → yC → yC
  | [], c => c
  | (o, t) :: r, c => ym_fl r (ym_e1 o t c)
noncomputable def ym_se (least : Int) : List (Int × Int) → yC → List (Int × Int) × yC
  | [], c => ([], c)
  | (o, t) :: r, c => if least ≤ zbinds o then ym_se least r (ym_e1 o t c) else ((o, t) :: r, c)
noncomputable def ym_tp (least : Int) : List (Int × Int) → Prop
  | [] => True
  | (o, _) :: _ => zbinds o < least
noncomputable def yp (lo : Int) (e : Int × Int) : Prop := lo ≤ zbinds e.1 ∧ 20 ≤ e.1
theorem ym_fl_app : ∀ (p q : List (Int × Int)) (c : yC), ym_fl (p ++ q) c = ym_fl q (ym_fl p c)
  | [], q, c => rfl
  | (o, t) :: r, q, c => ym_fl_app r q (ym_e1 o t c)
theorem ym_se_fl {least : Int} {pile : List (Int × Int)} (hp : ym_tp least pile) : ∀ (pend : List (Int × Int)) (c : yC), (∀ e ∈ pend, yp least e) → ym_se least (pend ++ pile) c = (pile, ym_fl pend c)
  | [], c, _ => by
    cases pile with
    | nil => rfl
    | cons a r =>
      obtain ⟨o, t⟩ := a
      have hp : zbinds o < least := hp
      show (if least ≤ zbinds o then _ else _) = _
      rw [if_neg (by omega)]
      rfl
  | (o, t) :: r, c, h => by
    have h1 : least ≤ zbinds o := (h (o, t) (List.mem_cons_self ..)).1
    show (if least ≤ zbinds o then _ else _) = _
    rw [if_pos h1]
    exact ym_se_fl hp r (ym_e1 o t c) (fun e he => h e (List.mem_cons_of_mem _ he))
noncomputable def ym_in : List (Int × Int) → Int
  | [] => -1
  | (o, _) :: r => if 31 ≤ o then o else ym_in r
noncomputable def ym_cd : List (Int × Int) → Bool
  | [] => false
  | (o, _) :: r => if 20 ≤ o ∧ o ≤ 24 then ym_cd r else decide (25 ≤ o ∧ o ≤ 27)
theorem zbinds_le (o : Int) : 0 ≤ zbinds o ∧ zbinds o ≤ 6 := by
  unfold zbinds
  repeat' split
  all_goals omega
theorem ym_in_app {pile : List (Int × Int)} : ∀ pend : List (Int × Int), (∀ e ∈ pend, yp 1 e) → ym_in (pend ++ pile) = ym_in pile
  | [], _ => rfl
  | (o, t) :: r, h => by
    have h1 : 1 ≤ zbinds o := (h (o, t) (List.mem_cons_self ..)).1
    have h2 : ¬ 31 ≤ o := fun h9 => by
      unfold zbinds at h1
      rw [if_pos h9] at h1
      omega
    show (if 31 ≤ o then o else _) = _
    rw [if_neg h2]
    exact ym_in_app r (fun e he => h e (List.mem_cons_of_mem _ he))
theorem yp_5 {o t : Int} (h : yp 5 (o, t)) : 20 ≤ o ∧ o ≤ 24 := by
  obtain ⟨h1, h2⟩ := h
  have h1 : 5 ≤ zbinds o := h1
  have h2 : 20 ≤ o := h2
  refine ⟨h2, ?_⟩
  unfold zbinds at h1
  revert h1
  repeat' split
  all_goals omega
theorem yp_lo {a b : Int} {e : Int × Int} (h : yp a e) (hb : b ≤ a) : yp b e := ⟨by have := h.1; omega, h.2⟩
theorem yp_7 {pend : List (Int × Int)} (h : ∀ e ∈ pend, yp 7 e) : pend = [] := by
  cases pend with
  | nil => rfl
  | cons a r =>
    have h1 := (h a (List.mem_cons_self ..)).1
    have h2 := zbinds_le a.1
    exfalso
    omega
theorem ym_tp_lo {a b : Int} {pile : List (Int × Int)} (h : ym_tp a pile) (hb : a ≤ b) : ym_tp b pile := by
  cases pile with
  | nil => trivial
  | cons x r =>
    obtain ⟨o, t⟩ := x
    have h : zbinds o < a := h
    show zbinds o < b
    omega
theorem ym_cd_app {pile : List (Int × Int)} : ∀ pend : List (Int × Int), (∀ e ∈ pend, yp 5 e) → ym_cd (pend ++ pile) = ym_cd pile
  | [], _ => rfl
  | (o, t) :: r, h => by
    have h1 := yp_5 (h (o, t) (List.mem_cons_self ..))
    show (if 20 ≤ o ∧ o ≤ 24 then _ else _) = _
    rw [if_pos h1]
    exact ym_cd_app r (fun e he => h e (List.mem_cons_of_mem _ he))
theorem ym_cd_tp {pile : List (Int × Int)} (h : ym_tp 4 pile) : ym_cd pile = false := by
  cases pile with
  | nil => rfl
  | cons x r =>
    obtain ⟨o, t⟩ := x
    have h : zbinds o < 4 := h
    have h2 : 28 ≤ o := by
      unfold zbinds at h
      revert h
      repeat' split
      all_goals omega
    show (if 20 ≤ o ∧ o ≤ 24 then _ else _) = _
    rw [if_neg (by omega)]
    exact decide_eq_false (by omega)
/-- where it stands: whose turn, the token, leaves, brackets, pile, code -/
abbrev yS : Type := Nat × Nat × Nat × Nat × List (Int × Int) × yC
section YM
variable (so : Nat → Nat) (wo : Nat → Int) (nx : Nat → Nat) (lf : Nat → Nat ⊕ (Nat × Int × Int))
noncomputable def ym_jo (p : Nat) : Int := if ¬ yr_ad so wo p = -1 then yr_ad so wo p else yr_mu so wo p
noncomputable def ym_rp (p n od : Nat) (pile : List (Int × Int)) (c : yC) : Nat ⊕ yS :=
  if yr_s so wo 91 p = true then (if 8 ≤ od then Sum.inl p else Sum.inr (1, nx p, n, od + 1, (32, 0) :: pile, c))
  else if 50 ≤ n then Sum.inl p else match lf p with
    | Sum.inl q => Sum.inl q
    | Sum.inr (p1, o, a) => Sum.inr (3, p1, n + 1, od, pile, (yu c.1 c.2.2 o, yu c.2.1 c.2.2 a, c.2.2 + 1))
noncomputable def ym_rl (p n od : Nat) (pile : List (Int × Int)) (c : yC) : Nat ⊕ yS :=
  if yr_w so wo 14836 p = true then Sum.inr (0, nx p, n, od, (28, 0) :: pile, c)
  else if yr_s so wo 40 p = true then (if 8 ≤ od then Sum.inl p else Sum.inr (0, nx p, n, od + 1, (31, 0) :: pile, c))
  else ym_rp so wo nx lf p n od pile c
noncomputable def ym_bs (test : Bool) (p n od : Nat) (pile : List (Int × Int)) (c : yC) : Nat ⊕ yS :=
  if ¬ ym_jo so wo p = -1 then Sum.inr (1, nx p, n, od, (ym_jo so wo p, 0) :: (ym_se (zbinds (ym_jo so wo p)) pile c).1, (ym_se (zbinds (ym_jo so wo p)) pile c).2)
  else if ym_in pile = 32 then (if yr_s so wo 93 p = true then Sum.inr (3, nx p, n, od - 1, (ym_se 5 pile c).1.tail, (ym_se 5 pile c).2) else Sum.inl p)
  else if ym_in pile = -1 ∧ test = false then Sum.inr (4, p, n, od, pile, c)
  else if ym_cd pile = true then Sum.inr (2, p, n, od, pile, c)
  else if yr_cm so wo p = -1 then Sum.inl p
  else Sum.inr (1, nx p, n, od, (yr_cm so wo p, 0) :: (ym_se 5 pile c).1, (ym_se 5 pile c).2)
noncomputable def ym_bt (p n od : Nat) (pile : List (Int × Int)) (c : yC) : Nat ⊕ yS :=
  if yr_w so wo 1476 p = true then Sum.inr (0, nx p, n, od, (29, ((ym_se 2 pile c).2.2.2 : Int)) :: (ym_se 2 pile c).1, ym_mk 29 (ym_se 2 pile c).2)
  else if yr_w so wo 498 p = true then Sum.inr (0, nx p, n, od, (30, ((ym_se 1 pile c).2.2.2 : Int)) :: (ym_se 1 pile c).1, ym_mk 30 (ym_se 1 pile c).2)
  else if ym_in pile = -1 then Sum.inr (4, p, n, od, pile, c)
  else if yr_s so wo 41 p = true then Sum.inr (2, nx p, n, od - 1, (ym_se 1 pile c).1.tail, (ym_se 1 pile c).2) else Sum.inl p
noncomputable def ym_step (test : Bool) (S : yS) : Nat ⊕ yS :=
  if S.1 = 0 then ym_rl so wo nx lf S.2.1 S.2.2.1 S.2.2.2.1 S.2.2.2.2.1 S.2.2.2.2.2
  else if S.1 = 1 then ym_rp so wo nx lf S.2.1 S.2.2.1 S.2.2.2.1 S.2.2.2.2.1 S.2.2.2.2.2
  else if S.1 = 3 then ym_bs so wo nx test S.2.1 S.2.2.1 S.2.2.2.1 S.2.2.2.2.1 S.2.2.2.2.2
  else ym_bt so wo nx S.2.1 S.2.2.1 S.2.2.2.1 S.2.2.2.2.1 S.2.2.2.2.2
noncomputable def ym_go (r : Nat ⊕ yS) (g : yS → Option (Nat ⊕ yS)) : Option (Nat ⊕ yS) := match r with
  | Sum.inl q => some (Sum.inl q)
  | Sum.inr S => g S
noncomputable def ym_run (test : Bool) : Nat → yS → Option (Nat ⊕ yS)
  | 0, _ => none
  | g + 1, S => if S.1 = 4 then some (Sum.inr S) else ym_go (ym_step so wo nx lf test S) (ym_run test g)
/-- it comes there, by one step at least; or by none -/
noncomputable def ym_to (test : Bool) (S : yS) (r : Nat ⊕ yS) : Prop := ∃ k, ∀ g, ym_run so wo nx lf test (k + 1 + g) S = ym_go r (ym_run so wo nx lf test g)
noncomputable def ym_st (test : Bool) (S : yS) (r : Nat ⊕ yS) : Prop := ∃ k, ∀ g, ym_run so wo nx lf test (k + g) S = ym_go r (ym_run so wo nx lf test g)
end YM
section YN
variable {so : Nat → Nat} {wo : Nat → Int} {nx : Nat → Nat} {lf : Nat → Nat ⊕ (Nat × Int × Int)} {test : Bool}
theorem ym_one {S : yS} {r : Nat ⊕ yS} (h4 : S.1 ≠ 4) (h : ym_step so wo nx lf test S = r) : ym_to so wo nx lf test S r := by
  refine ⟨0, fun g => ?_⟩
  rw [show 0 + 1 + g = g + 1 by omega]
  show (if S.1 = 4 then _ else _) = _
  rw [if_neg h4, h]
theorem ym_cat {S S' : yS} {r : Nat ⊕ yS} (h1 : ym_to so wo nx lf test S (Sum.inr S')) (h2 : ym_st so wo nx lf test S' r) : ym_to so wo nx lf test S r := by
  obtain ⟨k1, h1⟩ := h1
  obtain ⟨k2, h2⟩ := h2
  refine ⟨k1 + k2, fun g => ?_⟩
  rw [show k1 + k2 + 1 + g = k1 + 1 + (k2 + g) by omega, h1]
  exact h2 g
theorem ym_ts {S : yS} {r : Nat ⊕ yS} (h : ym_to so wo nx lf test S r) : ym_st so wo nx lf test S r := by
  obtain ⟨k, h⟩ := h
  exact ⟨k + 1, h⟩
theorem ym_rfl {S : yS} : ym_st so wo nx lf test S (Sum.inr S) := ⟨0, fun g => by rw [Nat.zero_add]; rfl⟩
theorem ym_same {S S' : yS} {r : Nat ⊕ yS} (h4 : S.1 ≠ 4) (h4' : S'.1 ≠ 4) (h : ym_step so wo nx lf test S' = ym_step so wo nx lf test S) (h1 : ym_to so wo nx lf test S r) : ym_to so wo nx lf test S' r := by
  obtain ⟨k, h1⟩ := h1
  refine ⟨k, fun g => ?_⟩
  rw [← h1 g, show k + 1 + g = (k + g) + 1 by omega]
  show (if S'.1 = 4 then _ else ym_go (ym_step so wo nx lf test S') _) = (if S.1 = 4 then _ else ym_go (ym_step so wo nx lf test S) _)
  rw [if_neg h4, if_neg h4', h]
theorem ym_run_up : ∀ (g : Nat) (S : yS) (r : Nat ⊕ yS), ym_run so wo nx lf test g S = some r → ym_run so wo nx lf test (g + 1) S = some r
  | 0, S, r, h => by cases h
  | g + 1, S, r, h => by
    have h : (if S.1 = 4 then some (Sum.inr S) else ym_go (ym_step so wo nx lf test S) (ym_run so wo nx lf test g)) = some r := h
    show (if S.1 = 4 then some (Sum.inr S) else ym_go (ym_step so wo nx lf test S) (ym_run so wo nx lf test (g + 1))) = some r
    by_cases h4 : S.1 = 4
    · rw [if_pos h4] at h ⊢
      exact h
    · rw [if_neg h4] at h ⊢
      cases hs : ym_step so wo nx lf test S with
      | inl q => rw [hs] at h; exact h
      | inr S' => rw [hs] at h; exact ym_run_up g S' r h
theorem ym_run_ge {g g' : Nat} {S : yS} {r : Nat ⊕ yS} (hg : g ≤ g') (h : ym_run so wo nx lf test g S = some r) : ym_run so wo nx lf test g' S = some r := by
  induction g' with
  | zero =>
    have : g = 0 := by omega
    subst this
    exact h
  | succ g' ih =>
    by_cases e9 : g = g' + 1
    · rw [← e9]; exact h
    · exact ym_run_up _ _ _ (ih (by omega))
theorem ym_run_det {g g' : Nat} {S : yS} {r r' : Nat ⊕ yS} (h : ym_run so wo nx lf test g S = some r) (h' : ym_run so wo nx lf test g' S = some r') : r = r' :=
  Option.some.inj ((ym_run_ge (Nat.le_max_left g g') h).symm.trans (ym_run_ge (Nat.le_max_right g g') h'))
/-- what comes of a reading -/
noncomputable def yA (so : Nat → Nat) (wo : Nat → Int) (nx : Nat → Nat) (lf : Nat → Nat ⊕ (Nat × Int × Int)) (test : Bool) (S : yS) (t : Nat) (lo : Int) (d n0 b : Nat) (pile : List (Int × Int)) (c0 : yC) (s : yR) : Prop :=
  (∀ q, s = Sum.inl q → ym_to so wo nx lf test S (Sum.inl q)) ∧ ∀ p1 n1 y, s = Sum.inr (p1, n1, y) → ∃ (pend : List (Int × Int)) (c : yC) (k : Nat), ym_to so wo nx lf test S (Sum.inr (t, p1, n1, d, pend ++ pile, c)) ∧ (∀ e ∈ pend, yp lo e) ∧ n1 = n0 + k ∧ yF b c0 (ym_fl pend c) k y
noncomputable def yL (so : Nat → Nat) (wo : Nat → Int) (nx : Nat → Nat) (lf : Nat → Nat ⊕ (Nat × Int × Int)) (test : Bool) (S : yS) (t : Nat) (lo : Int) (d n0 b : Nat) (pile : List (Int × Int)) (c0 : yC) (s : yR) : Prop :=
  (∀ q, s = Sum.inl q → ym_st so wo nx lf test S (Sum.inl q)) ∧ ∀ p1 n1 y, s = Sum.inr (p1, n1, y) → ∃ (pend : List (Int × Int)) (c : yC) (k : Nat), ym_st so wo nx lf test S (Sum.inr (t, p1, n1, d, pend ++ pile, c)) ∧ (∀ e ∈ pend, yp lo e) ∧ n1 = n0 + k ∧ yF b c0 (ym_fl pend c) k y
theorem yA_L {S S' : yS} {t : Nat} {lo : Int} {d n0 b : Nat} {pile : List (Int × Int)} {c0 : yC} {s : yR} (h : ym_to so wo nx lf test S (Sum.inr S')) (h2 : yL so wo nx lf test S' t lo d n0 b pile c0 s) : yA so wo nx lf test S t lo d n0 b pile c0 s := by
  refine ⟨fun q hq => ym_cat h (h2.1 q hq), fun p1 n1 y hy => ?_⟩
  obtain ⟨pend, c, k, g1, g2⟩ := h2.2 p1 n1 y hy
  exact ⟨pend, c, k, ym_cat h g1, g2⟩
theorem yL_A {S : yS} {t : Nat} {lo : Int} {d n0 b : Nat} {pile : List (Int × Int)} {c0 : yC} {s : yR} (h : yA so wo nx lf test S t lo d n0 b pile c0 s) : yL so wo nx lf test S t lo d n0 b pile c0 s := by
  refine ⟨fun q hq => ym_ts (h.1 q hq), fun p1 n1 y hy => ?_⟩
  obtain ⟨pend, c, k, g1, g2⟩ := h.2 p1 n1 y hy
  exact ⟨pend, c, k, ym_ts g1, g2⟩
theorem yA_inl {S : yS} {t : Nat} {lo : Int} {d n0 b : Nat} {pile : List (Int × Int)} {c0 : yC} {q : Nat} (h : ym_to so wo nx lf test S (Sum.inl q)) : yA so wo nx lf test S t lo d n0 b pile c0 (Sum.inl q) := ⟨fun q' e => by rw [← Sum.inl.inj e]; exact h, fun p1 n1 y e => by cases e⟩
theorem yA_inr {S : yS} {t : Nat} {lo : Int} {d n0 b : Nat} {pile : List (Int × Int)} {c0 : yC} {p1 n1 : Nat} {y : yD} (pend : List (Int × Int)) (c : yC) (k : Nat) (h : ym_to so wo nx lf test S (Sum.inr (t, p1, n1, d, pend ++ pile, c))) (h1 : ∀ e ∈ pend, yp lo e) (h2 : n1 = n0 + k) (h3 : yF b c0 (ym_fl pend c) k y) : yA so wo nx lf test S t lo d n0 b pile c0 (Sum.inr (p1, n1, y)) := ⟨fun q' e => (by cases e), fun p1' n1' y' e => by
  obtain ⟨rfl, e2⟩ := Prod.mk.inj (Sum.inr.inj e)
  obtain ⟨rfl, rfl⟩ := Prod.mk.inj e2
  exact ⟨pend, c, k, h, h1, h2, h3⟩⟩
theorem yL_inr {S : yS} {t : Nat} {lo : Int} {d n0 b : Nat} {pile : List (Int × Int)} {c0 : yC} {p1 n1 : Nat} {y : yD} (pend : List (Int × Int)) (c : yC) (k : Nat) (h : ym_st so wo nx lf test S (Sum.inr (t, p1, n1, d, pend ++ pile, c))) (h1 : ∀ e ∈ pend, yp lo e) (h2 : n1 = n0 + k) (h3 : yF b c0 (ym_fl pend c) k y) : yL so wo nx lf test S t lo d n0 b pile c0 (Sum.inr (p1, n1, y)) := ⟨fun q' e => (by cases e), fun p1' n1' y' e => by
  obtain ⟨rfl, e2⟩ := Prod.mk.inj (Sum.inr.inj e)
  obtain ⟨rfl, rfl⟩ := Prod.mk.inj e2
  exact ⟨pend, c, k, h, h1, h2, h3⟩⟩
theorem yr_ad_mu {p : Nat} (h : ¬ yr_mu so wo p = -1) : yr_ad so wo p = -1 ∧ 22 ≤ yr_mu so wo p ∧ yr_mu so wo p ≤ 24 := by
  have e : wo p = 42 ∨ wo p = 47 ∨ wo p = 37 := by
    unfold yr_mu yr_s at h
    by_cases h1 : wo p = 42
    · exact Or.inl h1
    · by_cases h2 : wo p = 47
      · exact Or.inr (Or.inl h2)
      · by_cases h3 : wo p = 37
        · exact Or.inr (Or.inr h3)
        · exfalso
          apply h
          simp [h1, h2, h3]
  refine ⟨?_, ?_⟩
  · unfold yr_ad yr_s
    rcases e with e | e | e <;> simp [e]
  · revert h
    unfold yr_mu
    repeat' split
    all_goals omega
theorem yr_ad_r {p : Nat} (h : ¬ yr_ad so wo p = -1) : 20 ≤ yr_ad so wo p ∧ yr_ad so wo p ≤ 21 := by
  revert h
  unfold yr_ad
  repeat' split
  all_goals omega
theorem yr_cm_r {p : Nat} (h : ¬ yr_cm so wo p = -1) : 25 ≤ yr_cm so wo p ∧ yr_cm so wo p ≤ 27 := by
  revert h
  unfold yr_cm
  repeat' split
  all_goals omega
theorem zb_mu {o : Int} (h : 22 ≤ o ∧ o ≤ 24) : zbinds o = 6 := by
  unfold zbinds
  rw [if_neg (by omega), if_neg (by omega), if_neg (by omega), if_neg (by omega), if_neg (by omega), if_pos (by omega)]
theorem zb_ad {o : Int} (h : 20 ≤ o ∧ o ≤ 21) : zbinds o = 5 := by
  unfold zbinds
  rw [if_neg (by omega), if_neg (by omega), if_neg (by omega), if_neg (by omega), if_neg (by omega), if_neg (by omega)]
theorem zb_cm {o : Int} (h : 25 ≤ o ∧ o ≤ 27) : zbinds o = 4 := by
  unfold zbinds
  rw [if_neg (by omega), if_neg (by omega), if_neg (by omega), if_neg (by omega), if_pos (by omega)]
theorem ym_jo_mu {p : Nat} (h : ¬ yr_mu so wo p = -1) : ym_jo so wo p = yr_mu so wo p := by
  unfold ym_jo
  rw [if_neg (by rw [(yr_ad_mu h).1]; exact fun z => z rfl)]
theorem ym_jo_ad {p : Nat} (h : ¬ yr_ad so wo p = -1) : ym_jo so wo p = yr_ad so wo p := by
  unfold ym_jo
  rw [if_pos h]
theorem ym_jo_no {p : Nat} (h1 : yr_mu so wo p = -1) (h2 : yr_ad so wo p = -1) : ym_jo so wo p = -1 := by
  unfold ym_jo
  rw [if_neg (fun z => z h2)]
  exact h1
theorem ym_e1_op {o t : Int} {c : yC} (h : o < 29) : ym_e1 o t c = (yu c.1 c.2.2 o, yu c.2.1 c.2.2 0, c.2.2 + 1) := if_neg (by omega)
/-- where a reading ends, none of these goes on -/
theorem yr_end : ∀ (f k d n p : Nat) (x : yD) (p1 n1 : Nat) (y : yD), yr so wo nx lf f k d n p x = some (Sum.inr (p1, n1, y)) → ((k = 1 ∨ k = 2) → yr_mu so wo p1 = -1) ∧ (k = 3 → yr_mu so wo p1 = -1 ∧ yr_ad so wo p1 = -1) ∧ (k = 4 → yr_mu so wo p = -1 → yr_mu so wo p1 = -1 ∧ yr_ad so wo p1 = -1) ∧ ((k = 6 ∨ k = 7) → ¬ yr_w so wo 1476 p1 = true) ∧ (k = 8 → ¬ yr_w so wo 1476 p1 = true ∧ ¬ yr_w so wo 498 p1 = true) ∧ (k = 9 → ¬ yr_w so wo 1476 p = true → ¬ yr_w so wo 1476 p1 = true ∧ ¬ yr_w so wo 498 p1 = true)
  | 0, k, d, n, p, x, p1, n1, y, h => by cases h
  | f + 1, k, d, n, p, x, p1, n1, y, h => by
    have ih := yr_end f
    have inj : ∀ {a b : Nat} {z : yD}, (some (Sum.inr (a, b, z)) : Option yR) = some (Sum.inr (p1, n1, y)) → a = p1 := fun e => (Prod.mk.inj (Sum.inr.inj (Option.some.inj e))).1
    refine ⟨?_, ?_, ?_, ?_, ?_, ?_⟩
    · rintro (e | e)
      · subst e
        rw [yr_1] at h
        rcases yb_some h with ⟨q, _, e2⟩ | ⟨p2, n2, x2, _, e2⟩
        · cases e2
        · exact (ih _ _ _ _ _ _ _ _ e2).1 (Or.inr rfl)
      · subst e
        rw [yr_2] at h
        split at h
        · rename_i hm
          rw [← inj h]
          exact hm
        · rcases yb_some h with ⟨q, _, e2⟩ | ⟨p2, n2, x2, _, e2⟩
          · cases e2
          · exact (ih _ _ _ _ _ _ _ _ e2).1 (Or.inr rfl)
    · intro e
      subst e
      rw [yr_3] at h
      rcases yb_some h with ⟨q, _, e2⟩ | ⟨p2, n2, x2, e1, e2⟩
      · cases e2
      · exact (ih _ _ _ _ _ _ _ _ e2).2.2.1 rfl ((ih _ _ _ _ _ _ _ _ e1).1 (Or.inl rfl))
    · intro e hmu
      subst e
      rw [yr_4] at h
      split at h
      · rename_i hm
        rw [← inj h]
        exact ⟨hmu, hm⟩
      · rcases yb_some h with ⟨q, _, e2⟩ | ⟨p2, n2, x2, e1, e2⟩
        · cases e2
        · exact (ih _ _ _ _ _ _ _ _ e2).2.2.1 rfl ((ih _ _ _ _ _ _ _ _ e1).1 (Or.inl rfl))
    · rintro (e | e)
      · subst e
        rw [yr_6] at h
        rcases yb_some h with ⟨q, _, e2⟩ | ⟨p2, n2, x2, _, e2⟩
        · cases e2
        · exact (ih _ _ _ _ _ _ _ _ e2).2.2.2.1 (Or.inr rfl)
      · subst e
        rw [yr_7] at h
        split at h
        · rcases yb_some h with ⟨q, _, e2⟩ | ⟨p2, n2, x2, _, e2⟩
          · cases e2
          · exact (ih _ _ _ _ _ _ _ _ e2).2.2.2.1 (Or.inr rfl)
        · rename_i hm
          rw [← inj h]
          exact hm
    · intro e
      subst e
      rw [yr_8] at h
      rcases yb_some h with ⟨q, _, e2⟩ | ⟨p2, n2, x2, e1, e2⟩
      · cases e2
      · exact (ih _ _ _ _ _ _ _ _ e2).2.2.2.2.2 rfl ((ih _ _ _ _ _ _ _ _ e1).2.2.2.1 (Or.inl rfl))
    · intro e hno
      subst e
      rw [yr_9] at h
      split at h
      · rcases yb_some h with ⟨q, _, e2⟩ | ⟨p2, n2, x2, e1, e2⟩
        · cases e2
        · exact (ih _ _ _ _ _ _ _ _ e2).2.2.2.2.2 rfl ((ih _ _ _ _ _ _ _ _ e1).2.2.2.1 (Or.inl rfl))
      · rename_i hm
        rw [← inj h]
        exact ⟨hno, hm⟩
/-- a test's worth -/
theorem yr_T : ∀ (f k d n p : Nat) (x : yD) (p1 n1 : Nat) (y : yD), yr so wo nx lf f k d n p x = some (Sum.inr (p1, n1, y)) → ((k = 5 ∨ k = 6 ∨ k = 8) → yd_T y) ∧ ((k = 7 ∨ k = 9) → yd_T x → yd_T y)
  | 0, k, d, n, p, x, p1, n1, y, h => by cases h
  | f + 1, k, d, n, p, x, p1, n1, y, h => by
    have ih := yr_T f
    have inj : ∀ {a b : Nat} {z : yD}, (some (Sum.inr (a, b, z)) : Option yR) = some (Sum.inr (p1, n1, y)) → z = y := fun e => (Prod.mk.inj (Prod.mk.inj (Sum.inr.inj (Option.some.inj e))).2).2
    refine ⟨?_, ?_⟩
    · rintro (e | e | e)
      · subst e
        rw [yr_5] at h
        split at h
        · rcases yb_some h with ⟨q, _, e2⟩ | ⟨p2, n2, x2, e1, e2⟩
          · cases e2
          · rw [← inj e2]
            exact yd_T_nt ((ih _ _ _ _ _ _ _ _ e1).1 (Or.inl rfl))
        · split at h
          · split at h
            · cases h
            · rcases yb_some h with ⟨q, _, e2⟩ | ⟨p2, n2, x2, e1, e2⟩
              · cases e2
              · split at e2
                · rw [← inj e2]
                  exact (ih _ _ _ _ _ _ _ _ e1).1 (Or.inr (Or.inr rfl))
                · cases e2
          · rcases yb_some h with ⟨q, _, e2⟩ | ⟨p2, n2, x2, e1, e2⟩
            · cases e2
            · split at e2
              · cases e2
              · rename_i hc
                rcases yb_some e2 with ⟨q, _, e4⟩ | ⟨p3, n3, x3, e3, e4⟩
                · cases e4
                · rw [← inj e4]
                  exact yd_T_op (yr_cm_r hc).1 _ _
      · subst e
        rw [yr_6] at h
        rcases yb_some h with ⟨q, _, e2⟩ | ⟨p2, n2, x2, e1, e2⟩
        · cases e2
        · exact (ih _ _ _ _ _ _ _ _ e2).2 (Or.inl rfl) ((ih _ _ _ _ _ _ _ _ e1).1 (Or.inl rfl))
      · subst e
        rw [yr_8] at h
        rcases yb_some h with ⟨q, _, e2⟩ | ⟨p2, n2, x2, e1, e2⟩
        · cases e2
        · exact (ih _ _ _ _ _ _ _ _ e2).2 (Or.inr rfl) ((ih _ _ _ _ _ _ _ _ e1).1 (Or.inr (Or.inl rfl)))
    · rintro (e | e) hx
      · subst e
        rw [yr_7] at h
        split at h
        · rcases yb_some h with ⟨q, _, e2⟩ | ⟨p2, n2, x2, e1, e2⟩
          · cases e2
          · exact (ih _ _ _ _ _ _ _ _ e2).2 (Or.inl rfl) (yd_T_ad ((ih _ _ _ _ _ _ _ _ e1).1 (Or.inl rfl)))
        · rw [← inj h]
          exact hx
      · subst e
        rw [yr_9] at h
        split at h
        · rcases yb_some h with ⟨q, _, e2⟩ | ⟨p2, n2, x2, e1, e2⟩
          · cases e2
          · exact (ih _ _ _ _ _ _ _ _ e2).2 (Or.inr rfl) (yd_T_or ((ih _ _ _ _ _ _ _ _ e1).1 (Or.inr (Or.inl rfl))))
        · rw [← inj h]
          exact hx
end YN
