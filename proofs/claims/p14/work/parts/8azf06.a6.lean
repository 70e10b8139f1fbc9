/-! part a6: the class's code (pure) -/
noncomputable def yl_o (w : Bool) (s v : Int) : Int := if s = 1 then 0 else if w = true ∧ 11 ≤ v then 7 else if w = true ∧ 5 ≤ v then 6 else v + 1
noncomputable def yl_a (w : Bool) (s v : Int) : Int := if s = 1 then v else if w = true ∧ 11 ≤ v then v - 11 else if w = true ∧ 5 ≤ v then v - 5 else 0
/-- a leaf that can be -/
noncomputable def yl_ok (w : Bool) (s v : Int) : Prop := (s = 1 ∧ 0 ≤ v ∧ v ≤ 1000) ∨ (s = 2 ∧ 0 ≤ v ∧ v < (if w = true then 21 else 9))
/-- code of pairs that is worth x, with k leaves -/
noncomputable def yG (w : Bool) (C : Nat → Int) : Nat → Nat → Nat → Nat → yD → Prop
  | 0, _, _, _, _ => False
  | f + 1, b, e, k, x =>
    (e = b + 2 ∧ k = 1 ∧ yl_ok w (C b) (C (b + 1)) ∧ x = yd_lf (yl_o w (C b) (C (b + 1))) (yl_a w (C b) (C (b + 1)))) ∨
    (∃ (m e1 k1 k2 : Nat) (y z : yD), e = e1 + 2 ∧ yG w C f b m k1 y ∧ yG w C f m e1 k2 z ∧ 6 ≤ C e1 ∧ C e1 ≤ 13 ∧ k = k1 + k2 ∧ x = yd_op (C e1 + 14) y z) ∨
    (∃ (e1 : Nat) (y : yD), e = e1 + 2 ∧ yG w C f b e1 k y ∧ C e1 = 3 ∧ yd_T y ∧ x = yd_nt y) ∨
    (∃ (m k1 k2 : Nat) (y z : yD), yG w C f b m k1 y ∧ C m = 4 ∧ C (m + 1) = (e : Int) ∧ yG w C f (m + 2) e k2 z ∧ yd_T y ∧ k = k1 + k2 ∧ x = yd_ad y z) ∨
    (∃ (m k1 k2 : Nat) (y z : yD), yG w C f b m k1 y ∧ C m = 5 ∧ C (m + 1) = (e : Int) ∧ yG w C f (m + 2) e k2 z ∧ yd_T y ∧ k = k1 + k2 ∧ x = yd_or y z)
theorem yG_lt {w : Bool} {C : Nat → Int} : ∀ {f b e k : Nat} {x : yD}, yG w C f b e k x → b + 1 < e ∧ 1 ≤ k
  | 0, b, e, k, x, h => h.elim
  | f + 1, b, e, k, x, h => by
    rcases h with ⟨h1, h2, _⟩ | ⟨m, e1, k1, k2, y, z, h1, h2, h3, _, _, h4, _⟩ | ⟨e1, y, h1, h2, _⟩ | ⟨m, k1, k2, y, z, h1, _, _, h2, _, h4, _⟩ | ⟨m, k1, k2, y, z, h1, _, _, h2, _, h4, _⟩
    · omega
    · have a1 := yG_lt h2
      have a2 := yG_lt h3
      omega
    · have a1 := yG_lt h2
      omega
    · have a1 := yG_lt h1
      have a2 := yG_lt h2
      omega
    · have a1 := yG_lt h1
      have a2 := yG_lt h2
      omega
theorem yG_c {w : Bool} {C C' : Nat → Int} : ∀ {f b e k : Nat} {x : yD}, (∀ j, b ≤ j → j < e → C' j = C j) → yG w C f b e k x → yG w C' f b e k x
  | 0, b, e, k, x, hc, h => h.elim
  | f + 1, b, e, k, x, hc, h => by
    rcases h with ⟨h1, h2, h3, h4⟩ | ⟨m, e1, k1, k2, y, z, h1, h2, h3, h4, h5, h6, h7⟩ | ⟨e1, y, h1, h2, h3, h4, h5⟩ | ⟨m, k1, k2, y, z, h1, h2, h3, h4, h5, h6, h7⟩ | ⟨m, k1, k2, y, z, h1, h2, h3, h4, h5, h6, h7⟩
    · have c := hc b (by omega) (by omega)
      have d := hc (b + 1) (by omega) (by omega)
      refine Or.inl ⟨h1, h2, ?_, ?_⟩
      · rw [c, d]; exact h3
      · rw [c, d]; exact h4
    · have a1 := yG_lt h2
      have a2 := yG_lt h3
      have c := hc e1 (by omega) (by omega)
      refine Or.inr (Or.inl ⟨m, e1, k1, k2, y, z, h1, yG_c (fun j j1 j2 => hc j (by omega) (by omega)) h2, yG_c (fun j j1 j2 => hc j (by omega) (by omega)) h3, ?_, ?_, h6, ?_⟩)
      · rw [c]; exact h4
      · rw [c]; exact h5
      · rw [c]; exact h7
    · have a1 := yG_lt h2
      have c := hc e1 (by omega) (by omega)
      refine Or.inr (Or.inr (Or.inl ⟨e1, y, h1, yG_c (fun j j1 j2 => hc j (by omega) (by omega)) h2, ?_, h4, h5⟩))
      rw [c]; exact h3
    · have a1 := yG_lt h1
      have a2 := yG_lt h4
      have c := hc m (by omega) (by omega)
      have d := hc (m + 1) (by omega) (by omega)
      refine Or.inr (Or.inr (Or.inr (Or.inl ⟨m, k1, k2, y, z, yG_c (fun j j1 j2 => hc j (by omega) (by omega)) h1, ?_, ?_, yG_c (fun j j1 j2 => hc j (by omega) (by omega)) h4, h5, h6, h7⟩)))
      · rw [c]; exact h2
      · rw [d]; exact h3
    · have a1 := yG_lt h1
      have a2 := yG_lt h4
      have c := hc m (by omega) (by omega)
      have d := hc (m + 1) (by omega) (by omega)
      refine Or.inr (Or.inr (Or.inr (Or.inr ⟨m, k1, k2, y, z, yG_c (fun j j1 j2 => hc j (by omega) (by omega)) h1, ?_, ?_, yG_c (fun j j1 j2 => hc j (by omega) (by omega)) h4, h5, h6, h7⟩)))
      · rw [c]; exact h2
      · rw [d]; exact h3
theorem yG_up {w : Bool} {C : Nat → Int} : ∀ {f b e k : Nat} {x : yD}, yG w C f b e k x → yG w C (f + 1) b e k x
  | 0, b, e, k, x, h => h.elim
  | f + 1, b, e, k, x, h => by
    rcases h with h | ⟨m, e1, k1, k2, y, z, h1, h2, h3, h4, h5, h6, h7⟩ | ⟨e1, y, h1, h2, h3, h4, h5⟩ | ⟨m, k1, k2, y, z, h1, h2, h3, h4, h5, h6, h7⟩ | ⟨m, k1, k2, y, z, h1, h2, h3, h4, h5, h6, h7⟩
    · exact Or.inl h
    · exact Or.inr (Or.inl ⟨m, e1, k1, k2, y, z, h1, yG_up h2, yG_up h3, h4, h5, h6, h7⟩)
    · exact Or.inr (Or.inr (Or.inl ⟨e1, y, h1, yG_up h2, h3, h4, h5⟩))
    · exact Or.inr (Or.inr (Or.inr (Or.inl ⟨m, k1, k2, y, z, yG_up h1, h2, h3, yG_up h4, h5, h6, h7⟩)))
    · exact Or.inr (Or.inr (Or.inr (Or.inr ⟨m, k1, k2, y, z, yG_up h1, h2, h3, yG_up h4, h5, h6, h7⟩)))
theorem yG_ge {w : Bool} {C : Nat → Int} {f g b e k : Nat} {x : yD} (hg : f ≤ g) (h : yG w C f b e k x) : yG w C g b e k x := by
  induction g with
  | zero =>
    have : f = 0 := by omega
    subst this
    exact h
  | succ g ih =>
    by_cases e9 : f = g + 1
    · rw [← e9]; exact h
    · exact yG_up (ih (by omega))
/-- code from b to e that is worth x; ahead of b it is as C0 -/
noncomputable def yH (w : Bool) (b : Nat) (C0 C : Nat → Int) (e k : Nat) (x : yD) : Prop := (∀ j, j < b → C j = C0 j) ∧ ∃ f, yG w C f b e k x
theorem yH_lt {w : Bool} {b e k : Nat} {C0 C : Nat → Int} {x : yD} (h : yH w b C0 C e k x) : b + 1 < e ∧ 1 ≤ k := by
  obtain ⟨_, f, h⟩ := h
  exact yG_lt h
/-- one more pair -/
noncomputable def yh (C : Nat → Int) (e : Nat) (s v : Int) : Nat → Int := yu (yu C e s) (e + 1) v
theorem yh_0 {C : Nat → Int} {e : Nat} {s v : Int} : yh C e s v e = s := (yu_ne (by omega)).trans yu_at
theorem yh_1 {C : Nat → Int} {e : Nat} {s v : Int} : yh C e s v (e + 1) = v := yu_at
theorem yh_ne {C : Nat → Int} {e j : Nat} {s v : Int} (h : j < e) : yh C e s v j = C j := (yu_ne (by omega)).trans (yu_ne (by omega))
theorem yH_lf {w : Bool} {C : Nat → Int} {e : Nat} {s v : Int} (h : yl_ok w s v) : yH w e C (yh C e s v) (e + 2) 1 (yd_lf (yl_o w s v) (yl_a w s v)) := by
  refine ⟨fun j hj => yh_ne hj, 1, Or.inl ⟨rfl, rfl, ?_, ?_⟩⟩
  · rw [yh_0, yh_1]; exact h
  · rw [yh_0, yh_1]
theorem yH_op {w : Bool} {b m e k1 k2 : Nat} {C0 C1 C2 : Nat → Int} {s v : Int} {x y : yD} (hx : yH w b C0 C1 m k1 x) (hy : yH w m C1 C2 e k2 y) (h1 : 6 ≤ s) (h2 : s ≤ 13) : yH w b C0 (yh C2 e s v) (e + 2) (k1 + k2) (yd_op (s + 14) x y) := by
  have l1 := yH_lt hx
  have l2 := yH_lt hy
  obtain ⟨a1, f1, e1⟩ := hx
  obtain ⟨a2, f2, e2⟩ := hy
  refine ⟨fun j hj => ?_, max f1 f2 + 1, Or.inr (Or.inl ⟨m, e, k1, k2, x, y, rfl, ?_, ?_, ?_, ?_, rfl, ?_⟩)⟩
  · exact (yh_ne (by omega)).trans ((a2 j (by omega)).trans (a1 j hj))
  · exact yG_c (fun j j1 j2 => (yh_ne (by omega)).trans (a2 j j2)) (yG_ge (Nat.le_max_left f1 f2) e1)
  · exact yG_c (fun j j1 j2 => yh_ne (by omega)) (yG_ge (Nat.le_max_right f1 f2) e2)
  · rw [yh_0]; exact h1
  · rw [yh_0]; exact h2
  · rw [yh_0]
theorem yH_nt {w : Bool} {b e k : Nat} {C0 C : Nat → Int} {v : Int} {x : yD} (hx : yH w b C0 C e k x) (hT : yd_T x) : yH w b C0 (yh C e 3 v) (e + 2) k (yd_nt x) := by
  have l1 := yH_lt hx
  obtain ⟨a1, f1, e1⟩ := hx
  refine ⟨fun j hj => ?_, f1 + 1, Or.inr (Or.inr (Or.inl ⟨e, x, rfl, ?_, yh_0, hT, rfl⟩))⟩
  · exact (yh_ne (by omega)).trans (a1 j hj)
  · exact yG_c (fun j j1 j2 => yh_ne (by omega)) e1
theorem yH_jn {w : Bool} {b m e k1 k2 : Nat} {C0 C1 C3 : Nat → Int} {o v : Int} {x y : yD} (hx : yH w b C0 C1 m k1 x) (hT : yd_T x) (hy : yH w (m + 2) (yh C1 m o v) C3 e k2 y) : (o = 4 → yH w b C0 (yu C3 (m + 1) (e : Int)) e (k1 + k2) (yd_ad x y)) ∧ (o = 5 → yH w b C0 (yu C3 (m + 1) (e : Int)) e (k1 + k2) (yd_or x y)) := by
  have l1 := yH_lt hx
  have l2 := yH_lt hy
  obtain ⟨a1, f1, e1⟩ := hx
  obtain ⟨a2, f2, e2⟩ := hy
  have b1 : ∀ j, j < m → yu C3 (m + 1) (e : Int) j = C1 j := fun j hj => (yu_ne (by omega)).trans ((a2 j (by omega)).trans (yh_ne hj))
  have b2 : yu C3 (m + 1) (e : Int) m = o := (yu_ne (by omega)).trans ((a2 m (by omega)).trans yh_0)
  have d0 : ∀ j, j < b → yu C3 (m + 1) (e : Int) j = C0 j := fun j hj => (b1 j (by omega)).trans (a1 j hj)
  have d1 : yG w (yu C3 (m + 1) (e : Int)) (max f1 f2) b m k1 x := yG_c (fun j j1 j2 => b1 j j2) (yG_ge (Nat.le_max_left f1 f2) e1)
  have d2 : yG w (yu C3 (m + 1) (e : Int)) (max f1 f2) (m + 2) e k2 y := yG_c (fun j j1 j2 => yu_ne (by omega)) (yG_ge (Nat.le_max_right f1 f2) e2)
  constructor
  · intro ho
    exact ⟨d0, max f1 f2 + 1, Or.inr (Or.inr (Or.inr (Or.inl ⟨m, k1, k2, x, y, d1, b2.trans ho, yu_at, d2, hT, rfl, rfl⟩)))⟩
  · intro ho
    exact ⟨d0, max f1 f2 + 1, Or.inr (Or.inr (Or.inr (Or.inr ⟨m, k1, k2, x, y, d1, b2.trans ho, yu_at, d2, hT, rfl, rfl⟩)))⟩
