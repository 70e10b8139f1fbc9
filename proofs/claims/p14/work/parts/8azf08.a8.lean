/-! part a8: clauses, texts (pure) -/
/-- a clause: its kind, its sums, how often, its test -/
abbrev yK : Type := Int × Option yD × Option yD × Int × Option yD
noncomputable def yx0 : yD := yd_lf 0 0
section YT
variable (so : Nat → Nat) (wo : Nat → Int) (nx : Nat → Nat) (lf : Nat → Nat ⊕ (Nat × Int × Int))
/-- if: a test or none -/
noncomputable def yt_if (p n : Nat) (s : Nat ⊕ (Nat × Nat × Option yD)) : Prop :=
  if yr_w so wo 294 p = true then ∃ t, yZ so wo nx lf 8 0 n (nx p) yx0 t ∧ ((∃ q, t = Sum.inl q ∧ s = Sum.inl q) ∨ ∃ p1 n1 y, t = Sum.inr (p1, n1, y) ∧ s = Sum.inr (p1, n1, some y))
  else s = Sum.inr (p, n, none)
/-- a sum -/
noncomputable def yt_su (p n : Nat) (s : Nat ⊕ (Nat × Nat × Option yD)) : Prop := ∃ t, yZ so wo nx lf 3 0 n p yx0 t ∧ ((∃ q, t = Sum.inl q ∧ s = Sum.inl q) ∨ ∃ p1 n1 y, t = Sum.inr (p1, n1, y) ∧ s = Sum.inr (p1, n1, some y))
/-- a law's head; an order's -/
noncomputable def yt_hl (p : Nat) : Int := if yr_w so wo 611795 p = true then 0 else if yr_w so wo 654480531 p = true then 1 else if yr_w so wo 24282707 p = true then 2 else if yr_w so wo 20383251 p = true then 3 else if yr_w so wo 67155 p = true then 4 else -1
noncomputable def yt_ho (p : Nat) : Int := if yr_w so wo 763332 p = true then 0 else if yr_w so wo 11449 p = true then 1 else if yr_w so wo 19118 p = true then 2 else if yr_w so wo 431556 p = true then 3 else -1
/-- a number within -/
noncomputable def yt_nu (lo hi : Int) (p : Nat) : Bool := decide (so p = 2) && (decide (lo ≤ wo p) && decide (wo p ≤ hi))
/-- times -/
noncomputable def yt_ti (p : Nat) (s : Nat ⊕ (Nat × Int)) : Prop :=
  if yr_w so wo 21279923 p = true then (if yt_nu so wo 1 20 (nx p) = true then s = Sum.inr (nx (nx p), wo (nx p)) else s = Sum.inl (nx p))
  else s = Sum.inr (p, 1)
/-- a clause of a law -/
noncomputable def yt_cl (p n : Nat) (s : Nat ⊕ (Nat × Nat × yK)) : Prop :=
  if yt_hl so wo p = -1 then s = Sum.inl p
  else ∃ u, (if yt_hl so wo p = 4 then u = Sum.inr (nx p, n, none) else yt_su so wo nx lf (nx p) n u) ∧
    ((∃ q, u = Sum.inl q ∧ s = Sum.inl q) ∨ ∃ p1 n1 x, u = Sum.inr (p1, n1, x) ∧ ∃ v, yt_if so wo nx lf p1 n1 v ∧
      ((∃ q, v = Sum.inl q ∧ s = Sum.inl q) ∨ ∃ p2 n2 y, v = Sum.inr (p2, n2, y) ∧ s = Sum.inr (p2, n2, (yt_hl so wo p, x, none, 1, y))))
/-- a clause of orders -/
noncomputable def yt_co (p n : Nat) (s : Nat ⊕ (Nat × Nat × yK)) : Prop :=
  if yt_ho so wo p = -1 then s = Sum.inl p
  else ∃ u, (if yt_ho so wo p = 2 then u = Sum.inr (nx p, n, none) else yt_su so wo nx lf (nx p) n u) ∧
    ((∃ q, u = Sum.inl q ∧ s = Sum.inl q) ∨ ∃ p1 n1 x, u = Sum.inr (p1, n1, x) ∧ ∃ v, (if yt_ho so wo p = 1 then (if yr_w so wo 89 p1 = true then yt_su so wo nx lf (nx p1) n1 v else v = Sum.inl p1) else v = Sum.inr (p1, n1, none)) ∧
      ((∃ q, v = Sum.inl q ∧ s = Sum.inl q) ∨ ∃ p2 n2 y, v = Sum.inr (p2, n2, y) ∧ ∃ t, yt_ti so wo nx p2 t ∧
        ((∃ q, t = Sum.inl q ∧ s = Sum.inl q) ∨ ∃ p3 m, t = Sum.inr (p3, m) ∧ ∃ z, yt_if so wo nx lf p3 n2 z ∧
          ((∃ q, z = Sum.inl q ∧ s = Sum.inl q) ∨ ∃ p4 n4 e, z = Sum.inr (p4, n4, e) ∧ s = Sum.inr (p4, n4, (yt_ho so wo p, x, y, m, e))))))
/-- a text: r clauses may come -/
noncomputable def yT (cl : Nat → Nat → Nat ⊕ (Nat × Nat × yK) → Prop) : Nat → Nat → Nat → Nat ⊕ List yK → Prop
  | 0, p, _, s => s = Sum.inl p
  | r + 1, p, n, s => ∃ t, cl p n t ∧ ((∃ q, t = Sum.inl q ∧ s = Sum.inl q) ∨ ∃ p1 n1 c, t = Sum.inr (p1, n1, c) ∧
      (if so p1 = 0 then s = Sum.inr [c] else if yr_s so wo 59 p1 = true then ∃ u, yT cl r (nx p1) n1 u ∧ ((∃ q, u = Sum.inl q ∧ s = Sum.inl q) ∨ ∃ L, u = Sum.inr L ∧ s = Sum.inr (c :: L)) else s = Sum.inl p1))
end YT
section YU
variable {so : Nat → Nat} {wo : Nat → Int} {nx : Nat → Nat} {lf : Nat → Nat ⊕ (Nat × Int × Int)}
theorem yt_if_det {p n : Nat} {s s' : Nat ⊕ (Nat × Nat × Option yD)} (h : yt_if so wo nx lf p n s) (h' : yt_if so wo nx lf p n s') : s = s' := by
  unfold yt_if at h h'
  split at h
  · rename_i hw
    rw [if_pos hw] at h'
    obtain ⟨t, h1, h2⟩ := h
    obtain ⟨t', h1', h2'⟩ := h'
    have e := yZ_det h1 h1'
    subst e
    rcases h2 with ⟨q, e1, e2⟩ | ⟨p1, n1, y, e1, e2⟩ <;> rcases h2' with ⟨q', e1', e2'⟩ | ⟨p1', n1', y', e1', e2'⟩ <;> rw [e2, e2'] <;> rw [e1] at e1' <;> cases e1' <;> rfl
  · rename_i hw
    rw [if_neg hw] at h'
    rw [h, h']
theorem yt_su_det {p n : Nat} {s s' : Nat ⊕ (Nat × Nat × Option yD)} (h : yt_su so wo nx lf p n s) (h' : yt_su so wo nx lf p n s') : s = s' := by
  obtain ⟨t, h1, h2⟩ := h
  obtain ⟨t', h1', h2'⟩ := h'
  have e := yZ_det h1 h1'
  subst e
  rcases h2 with ⟨q, e1, e2⟩ | ⟨p1, n1, y, e1, e2⟩ <;> rcases h2' with ⟨q', e1', e2'⟩ | ⟨p1', n1', y', e1', e2'⟩ <;> rw [e2, e2'] <;> rw [e1] at e1' <;> cases e1' <;> rfl
end YU
