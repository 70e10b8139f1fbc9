/-! part a3: what a text says (pure): values, and the way of reading -/
/-- what a sum or a test is worth: by what its words are -/
abbrev yD : Type := (Int → Int → Int) → Option Int
noncomputable def yd_v (o a b : Int) : Int := if o = 20 then a + b else if o = 21 then a - b else if o = 22 then a * b else if o = 23 then Int.tdiv a b else if o = 24 then Int.tmod a b else if o = 25 then (if a < b then 1 else 0) else if o = 26 then (if b < a then 1 else 0) else (if a = b then 1 else 0)
noncomputable def yd_bn (o a b : Int) : Option Int := if (o = 23 ∨ o = 24) ∧ b = 0 then none else if -1000000000 ≤ yd_v o a b ∧ yd_v o a b ≤ 1000000000 then some (yd_v o a b) else none
noncomputable def yd_lf (o a : Int) : yD := fun en => some (en o a)
noncomputable def yd_op (o : Int) (x y : yD) : yD := fun en => (x en).bind (fun a => (y en).bind (fun b => yd_bn o a b))
noncomputable def yd_nt (x : yD) : yD := fun en => (x en).bind (fun v => some (1 - v))
noncomputable def yd_ad (x y : yD) : yD := fun en => (x en).bind (fun v => if v = 0 then some 0 else y en)
noncomputable def yd_or (x y : yD) : yD := fun en => (x en).bind (fun v => if v = 1 then some 1 else y en)
/-- a test's worth is 0 or 1 -/
noncomputable def yd_T (x : yD) : Prop := ∀ en v, x en = some v → v = 0 ∨ v = 1
theorem yd_nn (x : yD) : yd_nt (yd_nt x) = x := by
  funext en
  unfold yd_nt
  cases x en with
  | none => rfl
  | some v =>
    show some (1 - (1 - v)) = some v
    congr 1
    omega
theorem yd_T_op {o : Int} (h1 : 25 ≤ o) (x y : yD) : yd_T (yd_op o x y) := by
  intro en v hv
  unfold yd_op at hv
  cases hx : x en with
  | none => rw [hx] at hv; cases hv
  | some a =>
    rw [hx] at hv
    cases hy : y en with
    | none => rw [hy] at hv; cases hv
    | some b =>
      rw [hy] at hv
      have hv : yd_bn o a b = some v := hv
      unfold yd_bn at hv
      rw [if_neg (fun h => by rcases h.1 with h | h <;> omega)] at hv
      have e : yd_v o a b = 0 ∨ yd_v o a b = 1 := by
        unfold yd_v
        rw [if_neg (by omega), if_neg (by omega), if_neg (by omega), if_neg (by omega), if_neg (by omega)]
        repeat' split
        all_goals first | exact Or.inl rfl | exact Or.inr rfl
      split at hv
      · have := Option.some.inj hv
        rcases e with e | e
        · exact Or.inl (by omega)
        · exact Or.inr (by omega)
      · cases hv
theorem yd_T_nt {x : yD} (h : yd_T x) : yd_T (yd_nt x) := by
  intro en v hv
  unfold yd_nt at hv
  cases hx : x en with
  | none => rw [hx] at hv; cases hv
  | some a =>
    rw [hx] at hv
    have hv : some (1 - a) = some v := hv
    have := Option.some.inj hv
    rcases h en a hx with e | e
    · exact Or.inr (by omega)
    · exact Or.inl (by omega)
theorem yd_T_ad {x y : yD} (h : yd_T y) : yd_T (yd_ad x y) := by
  intro en v hv
  unfold yd_ad at hv
  cases hx : x en with
  | none => rw [hx] at hv; cases hv
  | some a =>
    rw [hx] at hv
    have hv : (if a = 0 then some 0 else y en) = some v := hv
    split at hv
    · have := Option.some.inj hv
      exact Or.inl (by omega)
    · exact h en v hv
theorem yd_T_or {x y : yD} (h : yd_T y) : yd_T (yd_or x y) := by
  intro en v hv
  unfold yd_or at hv
  cases hx : x en with
  | none => rw [hx] at hv; cases hv
  | some a =>
    rw [hx] at hv
    have hv : (if a = 1 then some 1 else y en) = some v := hv
    split at hv
    · have := Option.some.inj hv
      exact Or.inr (by omega)
    · exact h en v hv
/-- signs, words at a token; what joins -/
noncomputable def yr_s (so : Nat → Nat) (wo : Nat → Int) (c : Int) (p : Nat) : Bool := decide (so p = 3) && decide (wo p = c)
noncomputable def yr_w (so : Nat → Nat) (wo : Nat → Int) (c : Int) (p : Nat) : Bool := decide (so p = 1) && decide (wo p = c)
noncomputable def yr_mu (so : Nat → Nat) (wo : Nat → Int) (p : Nat) : Int := if yr_s so wo 42 p = true then 22 else if yr_s so wo 47 p = true then 23 else if yr_s so wo 37 p = true then 24 else -1
noncomputable def yr_ad (so : Nat → Nat) (wo : Nat → Int) (p : Nat) : Int := if yr_s so wo 43 p = true then 20 else if yr_s so wo 45 p = true then 21 else -1
noncomputable def yr_cm (so : Nat → Nat) (wo : Nat → Int) (p : Nat) : Int := if yr_s so wo 60 p = true then 25 else if yr_s so wo 62 p = true then 26 else if yr_s so wo 61 p = true then 27 else -1
/-- a fault's token; or the next token, how many leaves, what it is worth -/
abbrev yR : Type := Nat ⊕ (Nat × Nat × yD)
noncomputable def yb (r : Option yR) (g : Nat → Nat → yD → Option yR) : Option yR := match r with
  | none => none
  | some (Sum.inl q) => some (Sum.inl q)
  | some (Sum.inr (p, n, x)) => g p n x
theorem yb_some {r : Option yR} {g : Nat → Nat → yD → Option yR} {s : yR} (h : yb r g = some s) : (∃ q, r = some (Sum.inl q) ∧ s = Sum.inl q) ∨ ∃ p n x, r = some (Sum.inr (p, n, x)) ∧ g p n x = some s := by
  cases r with
  | none => cases h
  | some r =>
    cases r with
    | inl q => exact Or.inl ⟨q, rfl, (Option.some.inj h).symm⟩
    | inr t => exact Or.inr ⟨t.1, t.2.1, t.2.2, rfl, h⟩
/-- the way of reading: 0 a part, 1 a term, 2 on with a term, 3 a sum, 4 on, 5 plain, 6 both, 7 on, 8 a test, 9 on -/
noncomputable def yr (so : Nat → Nat) (wo : Nat → Int) (nx : Nat → Nat) (lf : Nat → Nat ⊕ (Nat × Int × Int)) : Nat → Nat → Nat → Nat → Nat → yD → Option yR
  | 0, _, _, _, _, _ => none
  | f + 1, k, d, n, p, x =>
    if k = 0 then
      (if yr_s so wo 91 p = true then (if 8 ≤ d then some (Sum.inl p) else yb (yr so wo nx lf f 3 (d + 1) n (nx p) x) (fun p1 n1 y => if yr_s so wo 93 p1 = true then some (Sum.inr (nx p1, n1, y)) else some (Sum.inl p1)))
      else if 50 ≤ n then some (Sum.inl p) else match lf p with
        | Sum.inl q => some (Sum.inl q)
        | Sum.inr (p1, o, a) => some (Sum.inr (p1, n + 1, yd_lf o a)))
    else if k = 1 then yb (yr so wo nx lf f 0 d n p x) (fun p1 n1 y => yr so wo nx lf f 2 d n1 p1 y)
    else if k = 2 then
      (if yr_mu so wo p = -1 then some (Sum.inr (p, n, x)) else yb (yr so wo nx lf f 0 d n (nx p) x) (fun p1 n1 y => yr so wo nx lf f 2 d n1 p1 (yd_op (yr_mu so wo p) x y)))
    else if k = 3 then yb (yr so wo nx lf f 1 d n p x) (fun p1 n1 y => yr so wo nx lf f 4 d n1 p1 y)
    else if k = 4 then
      (if yr_ad so wo p = -1 then some (Sum.inr (p, n, x)) else yb (yr so wo nx lf f 1 d n (nx p) x) (fun p1 n1 y => yr so wo nx lf f 4 d n1 p1 (yd_op (yr_ad so wo p) x y)))
    else if k = 5 then
      (if yr_w so wo 14836 p = true then yb (yr so wo nx lf f 5 d n (nx p) x) (fun p1 n1 y => some (Sum.inr (p1, n1, yd_nt y)))
      else if yr_s so wo 40 p = true then (if 8 ≤ d then some (Sum.inl p) else yb (yr so wo nx lf f 8 (d + 1) n (nx p) x) (fun p1 n1 y => if yr_s so wo 41 p1 = true then some (Sum.inr (nx p1, n1, y)) else some (Sum.inl p1)))
      else yb (yr so wo nx lf f 3 d n p x) (fun p1 n1 y => if yr_cm so wo p1 = -1 then some (Sum.inl p1) else yb (yr so wo nx lf f 3 d n1 (nx p1) x) (fun p2 n2 t => some (Sum.inr (p2, n2, yd_op (yr_cm so wo p1) y t)))))
    else if k = 6 then yb (yr so wo nx lf f 5 d n p x) (fun p1 n1 y => yr so wo nx lf f 7 d n1 p1 y)
    else if k = 7 then
      (if yr_w so wo 1476 p = true then yb (yr so wo nx lf f 5 d n (nx p) x) (fun p1 n1 y => yr so wo nx lf f 7 d n1 p1 (yd_ad x y)) else some (Sum.inr (p, n, x)))
    else if k = 8 then yb (yr so wo nx lf f 6 d n p x) (fun p1 n1 y => yr so wo nx lf f 9 d n1 p1 y)
    else
      (if yr_w so wo 498 p = true then yb (yr so wo nx lf f 6 d n (nx p) x) (fun p1 n1 y => yr so wo nx lf f 9 d n1 p1 (yd_or x y)) else some (Sum.inr (p, n, x)))
section YR
variable {so : Nat → Nat} {wo : Nat → Int} {nx : Nat → Nat} {lf : Nat → Nat ⊕ (Nat × Int × Int)}
theorem yr_0 {f d n p : Nat} {x : yD} : yr so wo nx lf (f + 1) 0 d n p x = (if yr_s so wo 91 p = true then (if 8 ≤ d then some (Sum.inl p) else yb (yr so wo nx lf f 3 (d + 1) n (nx p) x) (fun p1 n1 y => if yr_s so wo 93 p1 = true then some (Sum.inr (nx p1, n1, y)) else some (Sum.inl p1)))
      else if 50 ≤ n then some (Sum.inl p) else match lf p with
        | Sum.inl q => some (Sum.inl q)
        | Sum.inr (p1, o, a) => some (Sum.inr (p1, n + 1, yd_lf o a))) := rfl
theorem yr_1 {f d n p : Nat} {x : yD} : yr so wo nx lf (f + 1) 1 d n p x = yb (yr so wo nx lf f 0 d n p x) (fun p1 n1 y => yr so wo nx lf f 2 d n1 p1 y) := rfl
theorem yr_2 {f d n p : Nat} {x : yD} : yr so wo nx lf (f + 1) 2 d n p x = (if yr_mu so wo p = -1 then some (Sum.inr (p, n, x)) else yb (yr so wo nx lf f 0 d n (nx p) x) (fun p1 n1 y => yr so wo nx lf f 2 d n1 p1 (yd_op (yr_mu so wo p) x y))) := rfl
theorem yr_3 {f d n p : Nat} {x : yD} : yr so wo nx lf (f + 1) 3 d n p x = yb (yr so wo nx lf f 1 d n p x) (fun p1 n1 y => yr so wo nx lf f 4 d n1 p1 y) := rfl
theorem yr_4 {f d n p : Nat} {x : yD} : yr so wo nx lf (f + 1) 4 d n p x = (if yr_ad so wo p = -1 then some (Sum.inr (p, n, x)) else yb (yr so wo nx lf f 1 d n (nx p) x) (fun p1 n1 y => yr so wo nx lf f 4 d n1 p1 (yd_op (yr_ad so wo p) x y))) := rfl
theorem yr_5 {f d n p : Nat} {x : yD} : yr so wo nx lf (f + 1) 5 d n p x = (if yr_w so wo 14836 p = true then yb (yr so wo nx lf f 5 d n (nx p) x) (fun p1 n1 y => some (Sum.inr (p1, n1, yd_nt y)))
      else if yr_s so wo 40 p = true then (if 8 ≤ d then some (Sum.inl p) else yb (yr so wo nx lf f 8 (d + 1) n (nx p) x) (fun p1 n1 y => if yr_s so wo 41 p1 = true then some (Sum.inr (nx p1, n1, y)) else some (Sum.inl p1)))
      else yb (yr so wo nx lf f 3 d n p x) (fun p1 n1 y => if yr_cm so wo p1 = -1 then some (Sum.inl p1) else yb (yr so wo nx lf f 3 d n1 (nx p1) x) (fun p2 n2 t => some (Sum.inr (p2, n2, yd_op (yr_cm so wo p1) y t))))) := rfl
theorem yr_6 {f d n p : Nat} {x : yD} : yr so wo nx lf (f + 1) 6 d n p x = yb (yr so wo nx lf f 5 d n p x) (fun p1 n1 y => yr so wo nx lf f 7 d n1 p1 y) := rfl
theorem yr_7 {f d n p : Nat} {x : yD} : yr so wo nx lf (f + 1) 7 d n p x = (if yr_w so wo 1476 p = true then yb (yr so wo nx lf f 5 d n (nx p) x) (fun p1 n1 y => yr so wo nx lf f 7 d n1 p1 (yd_ad x y)) else some (Sum.inr (p, n, x))) := rfl
theorem yr_8 {f d n p : Nat} {x : yD} : yr so wo nx lf (f + 1) 8 d n p x = yb (yr so wo nx lf f 6 d n p x) (fun p1 n1 y => yr so wo nx lf f 9 d n1 p1 y) := rfl
theorem yr_9 {f d n p : Nat} {x : yD} : yr so wo nx lf (f + 1) 9 d n p x = (if yr_w so wo 498 p = true then yb (yr so wo nx lf f 6 d n (nx p) x) (fun p1 n1 y => yr so wo nx lf f 9 d n1 p1 (yd_or x y)) else some (Sum.inr (p, n, x))) := rfl
theorem yb_up {r r' : Option yR} {g g' : Nat → Nat → yD → Option yR} (h1 : ∀ s, r = some s → r' = some s) (h2 : ∀ p n x s, g p n x = some s → g' p n x = some s) {s : yR} (h : yb r g = some s) : yb r' g' = some s := by
  rcases yb_some h with ⟨q, e1, e2⟩ | ⟨p, n, x, e1, e2⟩
  · rw [h1 _ e1, e2]
    rfl
  · rw [h1 _ e1]
    exact h2 p n x s e2
theorem yi_up {c : Prop} [Decidable c] {a a' b b' : Option yR} (h1 : ∀ s, a = some s → a' = some s) (h2 : ∀ s, b = some s → b' = some s) {s : yR} (h : (if c then a else b) = some s) : (if c then a' else b') = some s := by
  by_cases hc : c
  · rw [if_pos hc] at h ⊢
    exact h1 s h
  · rw [if_neg hc] at h ⊢
    exact h2 s h
/-- more room to read changes nothing -/
theorem yr_up : ∀ (f k d n p : Nat) (x : yD) (s : yR), yr so wo nx lf f k d n p x = some s → yr so wo nx lf (f + 1) k d n p x = some s
  | 0, k, d, n, p, x, s, h => by cases h
  | f + 1, k, d, n, p, x, s, h => by
    have ih := yr_up f
    have hk : k = 0 ∨ k = 1 ∨ k = 2 ∨ k = 3 ∨ k = 4 ∨ k = 5 ∨ k = 6 ∨ k = 7 ∨ k = 8 ∨ 9 ≤ k := by omega
    rcases hk with e | e | e | e | e | e | e | e | e | e
    · subst e
      rw [yr_0] at h ⊢
      exact yi_up (fun s h => yi_up (fun s h => h) (fun s h => yb_up (fun s h => ih _ _ _ _ _ s h) (fun p n x s h => h) h) h) (fun s h => h) h
    · subst e
      rw [yr_1] at h ⊢
      exact yb_up (fun s h => ih _ _ _ _ _ s h) (fun p n x s h => ih _ _ _ _ _ s h) h
    · subst e
      rw [yr_2] at h ⊢
      exact yi_up (fun s h => h) (fun s h => yb_up (fun s h => ih _ _ _ _ _ s h) (fun p n x s h => ih _ _ _ _ _ s h) h) h
    · subst e
      rw [yr_3] at h ⊢
      exact yb_up (fun s h => ih _ _ _ _ _ s h) (fun p n x s h => ih _ _ _ _ _ s h) h
    · subst e
      rw [yr_4] at h ⊢
      exact yi_up (fun s h => h) (fun s h => yb_up (fun s h => ih _ _ _ _ _ s h) (fun p n x s h => ih _ _ _ _ _ s h) h) h
    · subst e
      rw [yr_5] at h ⊢
      exact yi_up (fun s h => yb_up (fun s h => ih _ _ _ _ _ s h) (fun p n x s h => h) h) (fun s h => yi_up (fun s h => yi_up (fun s h => h) (fun s h => yb_up (fun s h => ih _ _ _ _ _ s h) (fun p n x s h => h) h) h) (fun s h => yb_up (fun s h => ih _ _ _ _ _ s h) (fun p n x s h => yi_up (fun s h => h) (fun s h => yb_up (fun s h => ih _ _ _ _ _ s h) (fun p n x s h => h) h) h) h) h) h
    · subst e
      rw [yr_6] at h ⊢
      exact yb_up (fun s h => ih _ _ _ _ _ s h) (fun p n x s h => ih _ _ _ _ _ s h) h
    · subst e
      rw [yr_7] at h ⊢
      exact yi_up (fun s h => yb_up (fun s h => ih _ _ _ _ _ s h) (fun p n x s h => ih _ _ _ _ _ s h) h) (fun s h => h) h
    · subst e
      rw [yr_8] at h ⊢
      exact yb_up (fun s h => ih _ _ _ _ _ s h) (fun p n x s h => ih _ _ _ _ _ s h) h
    · have e9 : ∀ g, yr so wo nx lf (g + 1) k d n p x = yr so wo nx lf (g + 1) 9 d n p x := fun g => by
        show (if k = 0 then _ else _) = _
        rw [if_neg (by omega), if_neg (by omega), if_neg (by omega), if_neg (by omega), if_neg (by omega), if_neg (by omega), if_neg (by omega), if_neg (by omega), if_neg (by omega)]
        rfl
      rw [e9] at h ⊢
      rw [yr_9] at h ⊢
      exact yi_up (fun s h => yb_up (fun s h => ih _ _ _ _ _ s h) (fun p n x s h => ih _ _ _ _ _ s h) h) (fun s h => h) h
theorem yr_ge {f g k d n p : Nat} {x : yD} {s : yR} (hg : f ≤ g) (h : yr so wo nx lf f k d n p x = some s) : yr so wo nx lf g k d n p x = some s := by
  induction g with
  | zero =>
    have : f = 0 := by omega
    subst this
    exact h
  | succ g ih =>
    by_cases e : f = g + 1
    · rw [← e]; exact h
    · exact yr_up _ _ _ _ _ _ _ (ih (by omega))
end YR
/-- it reads so -/
noncomputable def yZ (so : Nat → Nat) (wo : Nat → Int) (nx : Nat → Nat) (lf : Nat → Nat ⊕ (Nat × Int × Int)) (k d n p : Nat) (x : yD) (s : yR) : Prop := ∃ f, yr so wo nx lf f k d n p x = some s
section YZ
variable {so : Nat → Nat} {wo : Nat → Int} {nx : Nat → Nat} {lf : Nat → Nat ⊕ (Nat × Int × Int)}
theorem yZ_det {k d n p : Nat} {x : yD} {s s' : yR} (h : yZ so wo nx lf k d n p x s) (h' : yZ so wo nx lf k d n p x s') : s = s' := by
  obtain ⟨f, h⟩ := h
  obtain ⟨f', h'⟩ := h'
  have h1 := yr_ge (Nat.le_max_left f f') h
  have h2 := yr_ge (Nat.le_max_right f f') h'
  exact Option.some.inj (h1.symm.trans h2)
/-- two readings in a row: kinds 1, 3, 6, 8 -/
theorem yZ_row {k k1 k2 d n p : Nat} {x : yD} (hk : ∀ f, yr so wo nx lf (f + 1) k d n p x = yb (yr so wo nx lf f k1 d n p x) (fun p1 n1 y => yr so wo nx lf f k2 d n1 p1 y)) {s : yR} : ((∃ q, s = Sum.inl q ∧ yZ so wo nx lf k1 d n p x (Sum.inl q)) ∨ ∃ p1 n1 y, yZ so wo nx lf k1 d n p x (Sum.inr (p1, n1, y)) ∧ yZ so wo nx lf k2 d n1 p1 y s) → yZ so wo nx lf k d n p x s := by
  rintro (⟨q, e, f, h⟩ | ⟨p1, n1, y, ⟨f1, h1⟩, f2, h2⟩)
  · refine ⟨f + 1, ?_⟩
    rw [hk, h, e]
    rfl
  · refine ⟨max f1 f2 + 1, ?_⟩
    rw [hk, yr_ge (Nat.le_max_left f1 f2) h1]
    exact yr_ge (Nat.le_max_right f1 f2) h2
/-- on with a row: kinds 2, 4 -/
theorem yZ_mu {d n p : Nat} {x : yD} (hm : ¬ yr_mu so wo p = -1) {s : yR} : ((∃ q, s = Sum.inl q ∧ yZ so wo nx lf 0 d n (nx p) x (Sum.inl q)) ∨ ∃ p1 n1 y, yZ so wo nx lf 0 d n (nx p) x (Sum.inr (p1, n1, y)) ∧ yZ so wo nx lf 2 d n1 p1 (yd_op (yr_mu so wo p) x y) s) → yZ so wo nx lf 2 d n p x s := by
  rintro (⟨q, e, f, h⟩ | ⟨p1, n1, y, ⟨f1, h1⟩, f2, h2⟩)
  · refine ⟨f + 1, ?_⟩
    rw [yr_2, if_neg hm, h, e]
    rfl
  · refine ⟨max f1 f2 + 1, ?_⟩
    rw [yr_2, if_neg hm, yr_ge (Nat.le_max_left f1 f2) h1]
    exact yr_ge (Nat.le_max_right f1 f2) h2
theorem yZ_mu0 {d n p : Nat} {x : yD} (hm : yr_mu so wo p = -1) : yZ so wo nx lf 2 d n p x (Sum.inr (p, n, x)) := ⟨1, by rw [yr_2, if_pos hm]⟩
theorem yZ_ad {d n p : Nat} {x : yD} (hm : ¬ yr_ad so wo p = -1) {s : yR} : ((∃ q, s = Sum.inl q ∧ yZ so wo nx lf 1 d n (nx p) x (Sum.inl q)) ∨ ∃ p1 n1 y, yZ so wo nx lf 1 d n (nx p) x (Sum.inr (p1, n1, y)) ∧ yZ so wo nx lf 4 d n1 p1 (yd_op (yr_ad so wo p) x y) s) → yZ so wo nx lf 4 d n p x s := by
  rintro (⟨q, e, f, h⟩ | ⟨p1, n1, y, ⟨f1, h1⟩, f2, h2⟩)
  · refine ⟨f + 1, ?_⟩
    rw [yr_4, if_neg hm, h, e]
    rfl
  · refine ⟨max f1 f2 + 1, ?_⟩
    rw [yr_4, if_neg hm, yr_ge (Nat.le_max_left f1 f2) h1]
    exact yr_ge (Nat.le_max_right f1 f2) h2
theorem yZ_ad0 {d n p : Nat} {x : yD} (hm : yr_ad so wo p = -1) : yZ so wo nx lf 4 d n p x (Sum.inr (p, n, x)) := ⟨1, by rw [yr_4, if_pos hm]⟩
theorem yZ_an {d n p : Nat} {x : yD} (hm : yr_w so wo 1476 p = true) {s : yR} : ((∃ q, s = Sum.inl q ∧ yZ so wo nx lf 5 d n (nx p) x (Sum.inl q)) ∨ ∃ p1 n1 y, yZ so wo nx lf 5 d n (nx p) x (Sum.inr (p1, n1, y)) ∧ yZ so wo nx lf 7 d n1 p1 (yd_ad x y) s) → yZ so wo nx lf 7 d n p x s := by
  rintro (⟨q, e, f, h⟩ | ⟨p1, n1, y, ⟨f1, h1⟩, f2, h2⟩)
  · refine ⟨f + 1, ?_⟩
    rw [yr_7, if_pos hm, h, e]
    rfl
  · refine ⟨max f1 f2 + 1, ?_⟩
    rw [yr_7, if_pos hm, yr_ge (Nat.le_max_left f1 f2) h1]
    exact yr_ge (Nat.le_max_right f1 f2) h2
theorem yZ_an0 {d n p : Nat} {x : yD} (hm : ¬ yr_w so wo 1476 p = true) : yZ so wo nx lf 7 d n p x (Sum.inr (p, n, x)) := ⟨1, by rw [yr_7, if_neg hm]⟩
theorem yZ_or {d n p : Nat} {x : yD} (hm : yr_w so wo 498 p = true) {s : yR} : ((∃ q, s = Sum.inl q ∧ yZ so wo nx lf 6 d n (nx p) x (Sum.inl q)) ∨ ∃ p1 n1 y, yZ so wo nx lf 6 d n (nx p) x (Sum.inr (p1, n1, y)) ∧ yZ so wo nx lf 9 d n1 p1 (yd_or x y) s) → yZ so wo nx lf 9 d n p x s := by
  rintro (⟨q, e, f, h⟩ | ⟨p1, n1, y, ⟨f1, h1⟩, f2, h2⟩)
  · refine ⟨f + 1, ?_⟩
    rw [yr_9, if_pos hm, h, e]
    rfl
  · refine ⟨max f1 f2 + 1, ?_⟩
    rw [yr_9, if_pos hm, yr_ge (Nat.le_max_left f1 f2) h1]
    exact yr_ge (Nat.le_max_right f1 f2) h2
theorem yZ_or0 {d n p : Nat} {x : yD} (hm : ¬ yr_w so wo 498 p = true) : yZ so wo nx lf 9 d n p x (Sum.inr (p, n, x)) := ⟨1, by rw [yr_9, if_neg hm]⟩
/-- a part -/
theorem yZ_deep {d n p : Nat} {x : yD} (h : yr_s so wo 91 p = true) (hd : 8 ≤ d) : yZ so wo nx lf 0 d n p x (Sum.inl p) := ⟨1, by rw [yr_0, if_pos h, if_pos hd]⟩
theorem yZ_sq {d n p : Nat} {x : yD} (h : yr_s so wo 91 p = true) (hd : ¬ 8 ≤ d) {s : yR} : ((∃ q, s = Sum.inl q ∧ yZ so wo nx lf 3 (d + 1) n (nx p) x (Sum.inl q)) ∨ ∃ p1 n1 y, yZ so wo nx lf 3 (d + 1) n (nx p) x (Sum.inr (p1, n1, y)) ∧ s = if yr_s so wo 93 p1 = true then Sum.inr (nx p1, n1, y) else Sum.inl p1) → yZ so wo nx lf 0 d n p x s := by
  rintro (⟨q, e, f, h1⟩ | ⟨p1, n1, y, ⟨f, h1⟩, e⟩)
  · refine ⟨f + 1, ?_⟩
    rw [yr_0, if_pos h, if_neg hd, h1, e]
    rfl
  · refine ⟨f + 1, ?_⟩
    rw [yr_0, if_pos h, if_neg hd, h1, e]
    show (if yr_s so wo 93 p1 = true then some (Sum.inr (nx p1, n1, y)) else some (Sum.inl p1)) = _
    split
    · rfl
    · rfl
theorem yZ_full {d n p : Nat} {x : yD} (h : ¬ yr_s so wo 91 p = true) (hn : 50 ≤ n) : yZ so wo nx lf 0 d n p x (Sum.inl p) := ⟨1, by rw [yr_0, if_neg h, if_pos hn]⟩
theorem yZ_lf0 {d n p q : Nat} {x : yD} (h : ¬ yr_s so wo 91 p = true) (hn : ¬ 50 ≤ n) (hl : lf p = Sum.inl q) : yZ so wo nx lf 0 d n p x (Sum.inl q) := ⟨1, by rw [yr_0, if_neg h, if_neg hn, hl]⟩
theorem yZ_lf {d n p p1 : Nat} {o a : Int} {x : yD} (h : ¬ yr_s so wo 91 p = true) (hn : ¬ 50 ≤ n) (hl : lf p = Sum.inr (p1, o, a)) : yZ so wo nx lf 0 d n p x (Sum.inr (p1, n + 1, yd_lf o a)) := ⟨1, by rw [yr_0, if_neg h, if_neg hn, hl]⟩
/-- plain -/
theorem yZ_nt {d n p : Nat} {x : yD} (h : yr_w so wo 14836 p = true) {s : yR} : ((∃ q, s = Sum.inl q ∧ yZ so wo nx lf 5 d n (nx p) x (Sum.inl q)) ∨ ∃ p1 n1 y, yZ so wo nx lf 5 d n (nx p) x (Sum.inr (p1, n1, y)) ∧ s = Sum.inr (p1, n1, yd_nt y)) → yZ so wo nx lf 5 d n p x s := by
  rintro (⟨q, e, f, h1⟩ | ⟨p1, n1, y, ⟨f, h1⟩, e⟩)
  · refine ⟨f + 1, ?_⟩
    rw [yr_5, if_pos h, h1, e]
    rfl
  · refine ⟨f + 1, ?_⟩
    rw [yr_5, if_pos h, h1, e]
    rfl
theorem yZ_dp {d n p : Nat} {x : yD} (h0 : ¬ yr_w so wo 14836 p = true) (h : yr_s so wo 40 p = true) (hd : 8 ≤ d) : yZ so wo nx lf 5 d n p x (Sum.inl p) := ⟨1, by rw [yr_5, if_neg h0, if_pos h, if_pos hd]⟩
theorem yZ_ro {d n p : Nat} {x : yD} (h0 : ¬ yr_w so wo 14836 p = true) (h : yr_s so wo 40 p = true) (hd : ¬ 8 ≤ d) {s : yR} : ((∃ q, s = Sum.inl q ∧ yZ so wo nx lf 8 (d + 1) n (nx p) x (Sum.inl q)) ∨ ∃ p1 n1 y, yZ so wo nx lf 8 (d + 1) n (nx p) x (Sum.inr (p1, n1, y)) ∧ s = if yr_s so wo 41 p1 = true then Sum.inr (nx p1, n1, y) else Sum.inl p1) → yZ so wo nx lf 5 d n p x s := by
  rintro (⟨q, e, f, h1⟩ | ⟨p1, n1, y, ⟨f, h1⟩, e⟩)
  · refine ⟨f + 1, ?_⟩
    rw [yr_5, if_neg h0, if_pos h, if_neg hd, h1, e]
    rfl
  · refine ⟨f + 1, ?_⟩
    rw [yr_5, if_neg h0, if_pos h, if_neg hd, h1, e]
    show (if yr_s so wo 41 p1 = true then some (Sum.inr (nx p1, n1, y)) else some (Sum.inl p1)) = _
    split
    · rfl
    · rfl
theorem yZ_cm {d n p : Nat} {x : yD} (h0 : ¬ yr_w so wo 14836 p = true) (h : ¬ yr_s so wo 40 p = true) {s : yR} : ((∃ q, s = Sum.inl q ∧ yZ so wo nx lf 3 d n p x (Sum.inl q)) ∨ ∃ p1 n1 y, yZ so wo nx lf 3 d n p x (Sum.inr (p1, n1, y)) ∧ ((yr_cm so wo p1 = -1 ∧ s = Sum.inl p1) ∨ (¬ yr_cm so wo p1 = -1 ∧ ((∃ q, s = Sum.inl q ∧ yZ so wo nx lf 3 d n1 (nx p1) x (Sum.inl q)) ∨ ∃ p2 n2 t, yZ so wo nx lf 3 d n1 (nx p1) x (Sum.inr (p2, n2, t)) ∧ s = Sum.inr (p2, n2, yd_op (yr_cm so wo p1) y t))))) → yZ so wo nx lf 5 d n p x s := by
  rintro (⟨q, e, f, h1⟩ | ⟨p1, n1, y, ⟨f, h1⟩, ⟨hc, e⟩ | ⟨hc, ⟨q, e, f2, h2⟩ | ⟨p2, n2, t, ⟨f2, h2⟩, e⟩⟩⟩)
  · refine ⟨f + 1, ?_⟩
    rw [yr_5, if_neg h0, if_neg h, h1, e]
    rfl
  · refine ⟨f + 1, ?_⟩
    rw [yr_5, if_neg h0, if_neg h, h1, e]
    show (if yr_cm so wo p1 = -1 then some (Sum.inl p1) else _) = _
    rw [if_pos hc]
  · refine ⟨max f f2 + 1, ?_⟩
    rw [yr_5, if_neg h0, if_neg h, yr_ge (Nat.le_max_left f f2) h1, e]
    show (if yr_cm so wo p1 = -1 then some (Sum.inl p1) else _) = _
    rw [if_neg hc, yr_ge (Nat.le_max_right f f2) h2]
    rfl
  · refine ⟨max f f2 + 1, ?_⟩
    rw [yr_5, if_neg h0, if_neg h, yr_ge (Nat.le_max_left f f2) h1, e]
    show (if yr_cm so wo p1 = -1 then some (Sum.inl p1) else _) = _
    rw [if_neg hc, yr_ge (Nat.le_max_right f f2) h2]
    rfl
end YZ
