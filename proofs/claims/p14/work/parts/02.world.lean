/-! part 2: a heap of typed cells -/
/-- the world's constants: the heap types; the classes; where their slots lie; the first address that may be written; what a type without a row says of an address; what holds of the state besides (text constants, links of nest mates) -/
abbrev zk_W : Type := List zk_T × List vw_C × va_G × Nat × (Nat → Nat → Prop) × (State → Prop)
noncomputable def zk_aty (k : Nat) : FieldType := match k with
  | 1 => .int
  | 4 => .boolean
  | 5 => .byte
  | 6 => .char
  | _ => .short
noncomputable def zk_fv (P : Nat → Option Nat) (f : zk_F) (v : Value) : Prop := ∃ n, zk_ok P f n ∧ v = zk_mk f.1 n
theorem zk_fv.ext {P P' : Nat → Option Nat} {f : zk_F} {v : Value} (hP : ∀ a t, P a = some t → P' a = some t) (h : zk_fv P f v) : zk_fv P' f v := by
  obtain ⟨n, h1, h2⟩ := h
  exact ⟨n, h1.ext hP, h2⟩
noncomputable def zk_f0 (T : zk_T) : zk_F := T.2.2.2.headD (0, 0, 0, 0)
/-- an array's parts: each kind's number t is where its part ends; the first is no part, if its kind is 9: its t is the length after which the parts begin anew -/
noncomputable def zk_rgn : List zk_F → Nat → zk_F
  | [], _ => (0, 0, 0, 0)
  | f :: r, j => if j < f.2.1 then f else zk_rgn r j
noncomputable def zk_fj (T : zk_T) (j : Nat) : zk_F := if (zk_f0 T).1 = 9 then zk_rgn T.2.2.2.tail (j % (zk_f0 T).2.1) else zk_f0 T
/-- the name of the class whose objects the array of references holds -/
noncomputable def zk_rn (w : zk_W) (T : zk_T) : String := match w.1[(zk_f0 T).2.1]? with
  | some t => (w.2.1.getD t.2.1 ("", fun _ => ("", "", "", false), 0)).1
  | none => ""
/-- what stands in a cell of the type: 0 an object of class p; 1, 4 .. 7 an array of ints, booleans, bytes, chars, shorts; 2 of longs; 3 of references; its length from p to q -/
noncomputable def zk_el (w : zk_W) (U : State) (P : Nat → Option Nat) (T : zk_T) (e : va_E) : Prop := match T.1 with
  | 0 => ∃ fs, e = .inr (T.2.1, fs) ∧ zk_all2 (zk_fv P) T.2.2.2 fs
  | 2 => ∃ cA n f, e = .inl (cA, n, .inr (.inl f)) ∧ T.2.1 ≤ n ∧ n ≤ T.2.2.1 ∧ ArrOfT U cA .long ∧ ∀ j, j < n → zk_fv P (zk_fj T j) (.long (f j))
  | 3 => ∃ cA n f, e = .inl (cA, n, .inr (.inr (.inr (.inr f)))) ∧ T.2.1 ≤ n ∧ n ≤ T.2.2.1 ∧ ArrOfT U cA (.object (zk_rn w T)) ∧ va_RA U cA (.object (zk_rn w T)) ∧ ∀ j, j < n → zk_fv P (zk_fj T j) (va_rf (f j))
  | k => ∃ cA n f, e = .inl (cA, n, .inl f) ∧ T.2.1 ≤ n ∧ n ≤ T.2.2.1 ∧ ArrOfT U cA (zk_aty k) ∧ ∀ j, j < n → zk_fv P (zk_fj T j) (.int (f j))
theorem zk_el.ext {w : zk_W} {U : State} {P P' : Nat → Option Nat} {T : zk_T} {e : va_E} (hP : ∀ a t, P a = some t → P' a = some t) (h : zk_el w U P T e) : zk_el w U P' T e := by
  unfold zk_el at h ⊢
  split at h
  · obtain ⟨fs, h1, h2⟩ := h
    exact ⟨fs, h1, zk_all2_imp (fun _ _ q => q.ext hP) h2⟩
  · obtain ⟨cA, n, f, h1, h2, h3, h4, h5⟩ := h
    exact ⟨cA, n, f, h1, h2, h3, h4, fun j hj => (h5 j hj).ext hP⟩
  · obtain ⟨cA, n, f, h1, h2, h3, h4, h5, h6⟩ := h
    exact ⟨cA, n, f, h1, h2, h3, h4, h5, fun j hj => (h6 j hj).ext hP⟩
  · obtain ⟨cA, n, f, h1, h2, h3, h4, h5⟩ := h
    exact ⟨cA, n, f, h1, h2, h3, h4, fun j hj => (h5 j hj).ext hP⟩
theorem zk_el.moved {w : zk_W} {u U : State} {P : Nat → Option Nat} {T : zk_T} {e : va_E} (hvm : u.vm.Alike U.vm) (h : zk_el w u P T e) : zk_el w U P T e := by
  unfold zk_el at h ⊢
  split at h
  · exact h
  · obtain ⟨cA, n, f, h1, h2, h3, h4, h5⟩ := h
    exact ⟨cA, n, f, h1, h2, h3, arrOfT_moved hvm h4, h5⟩
  · obtain ⟨cA, n, f, h1, h2, h3, h4, h5, h6⟩ := h
    exact ⟨cA, n, f, h1, h2, h3, arrOfT_moved hvm h4, h5.moved hvm, h6⟩
  · obtain ⟨cA, n, f, h1, h2, h3, h4, h5⟩ := h
    exact ⟨cA, n, f, h1, h2, h3, arrOfT_moved hvm h4, h5⟩
noncomputable def zk_up {α : Type} (f : Nat → α) (a : Nat) (x : α) : Nat → α := fun q => if q = a then x else f q
theorem zk_up_self {α : Type} {f : Nat → α} {a : Nat} {x : α} : zk_up f a x a = x := by simp [zk_up]
theorem zk_up_ne {α : Type} {f : Nat → α} {a q : Nat} {x : α} (h : q ≠ a) : zk_up f a x q = f q := by simp [zk_up, h]
theorem zk_up_ext {P : Nat → Option Nat} {a t : Nat} (hp : P a = none) : ∀ q s, P q = some s → zk_up P a (some t) q = some s := by
  intro q s hq
  rw [zk_up_ne]
  · exact hq
  · intro e1
    subst e1
    rw [hp] at hq
    cases hq
/-- inequalities within objects: (type, field, array field): the field's number, or its array's length, is at most the other array's length -/
noncomputable def zk_rel : List (Nat × Nat × Nat) := [(9, 6, 0), (9, 6, 1), (9, 6, 4), (9, 0, 1), (9, 0, 2), (9, 0, 3), (9, 0, 4)]
noncomputable def zk_sz (P : Nat → Option Nat) (F : Nat → va_E) (v : Value) (n : Int) : Prop := match v with
  | .int c => c.toInt = n
  | .ref b => (∃ t, P b = some t) ∧ ∃ (cA : ClassId) (x : vp_A), F b = .inl (cA, x) ∧ (x.1 : Int) = n ∧ x.1 ≤ 2147483647
  | _ => False
/-- one step of a text's code, by the depth of the stack ahead of it -/
noncomputable def zk_ops (d : Nat → Nat) (last q : Nat) (op arg : Int) : Prop := 0 ≤ op ∧
  ((op < 20 ∧ op ≤ 12 ∧ d (q + 1) = d q + 1) ∨ (20 ≤ op ∧ op < 28 ∧ 2 ≤ d q ∧ d (q + 1) + 1 = d q) ∨ (op = 28 ∧ 1 ≤ d q ∧ d (q + 1) = d q) ∨
   (28 < op ∧ 1 ≤ d q ∧ d (q + 1) + 1 = d q ∧ (q : Int) < arg ∧ arg ≤ (last : Int) ∧ d arg.toNat = d q))
/-- the code from first to last can be gone through with a stack that never lacks -/
noncomputable def zk_cr (co ca : Nat → Int) (first last : Nat) : Prop := ∃ d : Nat → Nat, d first = 0 ∧ ∀ q, first ≤ q → q < last → zk_ops d last q (co q) (ca q)
/-- a law's text at a place of the row -/
noncomputable def zk_law (f : Nat → Int) (b : Nat) : Prop := ∀ c : Nat, c < 12 → (c : Int) < f (b + 1) →
  (f (b + 2 + 8 * c + 5) < f (b + 2 + 8 * c + 6) → zk_cr (fun k => f (b + 98 + 2 * k)) (fun k => f (b + 98 + 2 * k + 1)) (f (b + 2 + 8 * c + 5)).toNat (f (b + 2 + 8 * c + 6)).toNat) ∧
  (f (b + 2 + 8 * c) ≠ 4 → zk_cr (fun k => f (b + 98 + 2 * k)) (fun k => f (b + 98 + 2 * k + 1)) (f (b + 2 + 8 * c + 3)).toNat (f (b + 2 + 8 * c + 4)).toNat)
noncomputable def zk_laws (f : Nat → Int) (b : Nat) : Prop := ∀ k, k < 6 → zk_law f (b + 180 + 900 * k)
theorem zk_cr.congr {co ca co' ca' : Nat → Int} {first last : Nat} (h1 : ∀ k, co k = co' k) (h2 : ∀ k, ca k = ca' k) (h : zk_cr co ca first last) : zk_cr co' ca' first last := by
  obtain ⟨d, e1, e2⟩ := h
  refine ⟨d, e1, fun q g1 g2 => ?_⟩
  have := e2 q g1 g2
  rw [h1, h2] at this
  exact this
theorem zk_law.congr {f g : Nat → Int} {b b' : Nat} (h : ∀ j, f (b + j) = g (b' + j)) (hl : zk_law f b) : zk_law g b' := by
  intro c hc hn
  have e : ∀ j, g (b' + j) = f (b + j) := fun j => (h j).symm
  have e1 : g (b' + 1) = f (b + 1) := e 1
  have e2 : ∀ i, g (b' + 2 + 8 * c + i) = f (b + 2 + 8 * c + i) := fun i => by
    have := e (2 + 8 * c + i)
    rw [show b' + (2 + 8 * c + i) = b' + 2 + 8 * c + i by omega, show b + (2 + 8 * c + i) = b + 2 + 8 * c + i by omega] at this
    exact this
  have e3 : ∀ k, f (b + 98 + 2 * k) = g (b' + 98 + 2 * k) := fun k => by
    have := h (98 + 2 * k)
    rw [show b' + (98 + 2 * k) = b' + 98 + 2 * k by omega, show b + (98 + 2 * k) = b + 98 + 2 * k by omega] at this
    exact this
  have e4 : ∀ k, f (b + 98 + 2 * k + 1) = g (b' + 98 + 2 * k + 1) := fun k => by
    have := h (98 + 2 * k + 1)
    rw [show b' + (98 + 2 * k + 1) = b' + 98 + 2 * k + 1 by omega, show b + (98 + 2 * k + 1) = b + 98 + 2 * k + 1 by omega] at this
    exact this
  rw [e1] at hn
  obtain ⟨h1, h2⟩ := hl c hc hn
  have e20 : g (b' + 2 + 8 * c) = f (b + 2 + 8 * c) := e2 0
  refine ⟨fun g1 => ?_, fun g1 => ?_⟩
  · rw [e2 5, e2 6] at g1 ⊢
    exact (h1 g1).congr e3 e4
  · rw [e20] at g1
    rw [e2 3, e2 4]
    exact (h2 g1).congr e3 e4
theorem zk_laws.congr {f g : Nat → Int} {b b' : Nat} (h : ∀ j, 180 ≤ j → f (b + j) = g (b' + j)) (hl : zk_laws f b) : zk_laws g b' := fun k hk => (hl k hk).congr (fun j => by
  have := h (180 + 900 * k + j) (by omega)
  rw [show b + (180 + 900 * k + j) = b + 180 + 900 * k + j by omega, show b' + (180 + 900 * k + j) = b' + 180 + 900 * k + j by omega] at this
  exact this)
/-- types of arrays of which more is known: 59 the reference's row, 60 its images -/
noncomputable def zk_xi (t : Nat) (f : Nat → Int) : Prop := (t = 59 → zk_laws f 0) ∧ (t = 60 → zk_laws f 0 ∧ zk_laws f 5580)
noncomputable def zk_xa (t : Nat) (x : vp_A) : Prop := match x.2 with
  | .inl f => zk_xi t (fun j => (f j).toInt)
  | _ => True
noncomputable def zk_spb (t : Nat) (hi : Int) : Bool := (t != 59 && t != 60) || (t == 59 && decide (hi < 180))
theorem zk_xi.zero (t : Nat) : zk_xi t (fun _ => 0) :=
  ⟨fun _ k _ c _ h => absurd h (by show ¬ ((c : Int) < 0); omega), fun _ => ⟨fun k _ c _ h => absurd h (by show ¬ ((c : Int) < 0); omega), fun k _ c _ h => absurd h (by show ¬ ((c : Int) < 0); omega)⟩⟩
theorem zk_xi.put {t : Nat} {f g : Nat → Int} {hi : Int} (h : zk_xi t f) (hs : zk_spb t hi = true) (he : ∀ j : Nat, hi < (j : Int) → f j = g j) : zk_xi t g := by
  unfold zk_spb at hs
  simp only [Bool.or_eq_true, Bool.and_eq_true, bne_iff_ne, beq_iff_eq, decide_eq_true_eq] at hs
  rcases hs with hs | hs
  · exact ⟨fun e => absurd e hs.1, fun e => absurd e hs.2⟩
  · refine ⟨fun e => (h.1 e).congr (fun j hj => ?_), fun e => absurd (hs.1.symm.trans e) (by decide)⟩
    rw [Nat.zero_add]
    exact he j (by omega)
noncomputable def zk_rl (P : Nat → Option Nat) (F : Nat → va_E) (t : Nat) (e : va_E) : Prop := match e with
  | .inl a => zk_xa t a.2
  | .inr o => ∀ r ∈ zk_rel, r.1 = t → ∃ v1 v2 n1 n2, o.2[r.2.1]? = some v1 ∧ o.2[r.2.2]? = some v2 ∧ zk_sz P F v1 n1 ∧ zk_sz P F v2 n2 ∧ n1 ≤ n2
theorem zk_sz.step {P P' : Nat → Option Nat} {F F' : Nat → va_E} (hP : ∀ b t, P b = some t → ∃ t', P' b = some t') (hF : ∀ b t (cA : ClassId) (x : vp_A), P b = some t → F b = .inl (cA, x) → ∃ (cA' : ClassId) (x' : vp_A), F' b = .inl (cA', x') ∧ x'.1 = x.1) {v : Value} {n : Int} (h : zk_sz P F v n) : zk_sz P' F' v n := by
  unfold zk_sz at h ⊢
  split at h
  · exact h
  · obtain ⟨⟨t, h1⟩, cA, x, h2, h3⟩ := h
    obtain ⟨cA', x', h4, h5⟩ := hF _ t cA x h1 h2
    exact ⟨hP _ t h1, cA', x', h4, by rw [h5]; exact h3⟩
  · exact h.elim
theorem zk_sz.uniq {P : Nat → Option Nat} {F : Nat → va_E} {v : Value} {n m : Int} (h : zk_sz P F v n) (h' : zk_sz P F v m) : n = m := by
  unfold zk_sz at h h'
  split at h
  · exact h.symm.trans h'
  · obtain ⟨-, cA, x, h2, h3, -⟩ := h
    obtain ⟨-, cA', x', h4, h5, -⟩ := h'
    rw [h2] at h4
    cases h4
    exact h3.symm.trans h5
  · exact h.elim
theorem zk_rl.step {P P' : Nat → Option Nat} {F F' : Nat → va_E} (hP : ∀ b t, P b = some t → ∃ t', P' b = some t') (hF : ∀ b t (cA : ClassId) (x : vp_A), P b = some t → F b = .inl (cA, x) → ∃ (cA' : ClassId) (x' : vp_A), F' b = .inl (cA', x') ∧ x'.1 = x.1) {t : Nat} {e : va_E} (h : zk_rl P F t e) : zk_rl P' F' t e := by
  cases e with
  | inl a => exact h
  | inr o =>
    intro r hr ht
    obtain ⟨v1, v2, n1, n2, h1, h2, h3, h4, h5⟩ := h r hr ht
    exact ⟨v1, v2, n1, n2, h1, h2, h3.step hP hF, h4.step hP hF, h5⟩
/-- every typed cell is as its type says; a type without a row (a text constant's) is the business of w's last part, below the base -/
noncomputable def zk_wt1 (w : zk_W) (U : State) (P : Nat → Option Nat) (F : Nat → va_E) (H : Heap) (a t : Nat) : Prop := match w.1[t]? with
  | some T => zk_el w U P T (F a) ∧ va_at w.2.2.1 w.2.1 (a, F a) H ∧ w.2.2.2.1 ≤ a ∧ zk_rl P F t (F a)
  | none => a < w.2.2.2.1 ∧ w.2.2.2.2.1 t a ∧ zk_rel.all (fun r => r.1 != t) = true
noncomputable def zk_wt (w : zk_W) (U : State) (P : Nat → Option Nat) (F : Nat → va_E) (H : Heap) : Prop := ∀ a t, P a = some t → zk_wt1 w U P F H a t
theorem zk_wt1.some {w : zk_W} {U : State} {P : Nat → Option Nat} {F : Nat → va_E} {H : Heap} {a t : Nat} {T : zk_T} (hT : w.1[t]? = some T) : zk_wt1 w U P F H a t ↔ (zk_el w U P T (F a) ∧ va_at w.2.2.1 w.2.1 (a, F a) H ∧ w.2.2.2.1 ≤ a ∧ zk_rl P F t (F a)) := by
  unfold zk_wt1
  rw [hT]
theorem zk_wt1.none {w : zk_W} {U : State} {P : Nat → Option Nat} {F : Nat → va_E} {H : Heap} {a t : Nat} (hT : w.1[t]? = none) : zk_wt1 w U P F H a t ↔ (a < w.2.2.2.1 ∧ w.2.2.2.2.1 t a ∧ zk_rel.all (fun r => r.1 != t) = true) := by
  unfold zk_wt1
  rw [hT]
theorem zk_wt1.step {w : zk_W} {U U' : State} {P P' : Nat → Option Nat} {F F' : Nat → va_E} {H H' : Heap} {a t : Nat} (h : zk_wt1 w U P F H a t) (hel : ∀ T, zk_el w U P T (F a) → zk_el w U' P' T (F' a)) (hat : w.2.2.2.1 ≤ a → va_at w.2.2.1 w.2.1 (a, F a) H → va_at w.2.2.1 w.2.1 (a, F' a) H') (hrl : zk_rl P F t (F a) → zk_rl P' F' t (F' a)) : zk_wt1 w U' P' F' H' a t := by
  cases hT : w.1[t]? with
  | some T =>
    obtain ⟨h1, h2, h3, h4⟩ := (zk_wt1.some hT).mp h
    exact (zk_wt1.some hT).mpr ⟨hel T h1, hat h3 h2, h3, hrl h4⟩
  | none => exact (zk_wt1.none hT).mpr ((zk_wt1.none hT).mp h)
theorem zk_wt.moved {w : zk_W} {u U : State} {P : Nat → Option Nat} {F : Nat → va_E} {H : Heap} (hvm : u.vm.Alike U.vm) (h : zk_wt w u P F H) : zk_wt w U P F H :=
  fun a t hp => (h a t hp).step (fun _ q => q.moved hvm) (fun _ q => q) (fun q => q)
theorem zk_wt.lt {w : zk_W} {U : State} {P : Nat → Option Nat} {F : Nat → va_E} {H : Heap} (h : zk_wt w U P F H) (hb : w.2.2.2.1 ≤ H.size) {a t : Nat} (hp : P a = some t) : a < H.size := by
  have h1 := h a t hp
  cases hT : w.1[t]? with
  | some T => exact va_at.lt ((zk_wt1.some hT).mp h1).2.1
  | none => exact Nat.lt_of_lt_of_le ((zk_wt1.none hT).mp h1).1 hb
/-- one cell written anew, of the same type -/
theorem zk_wt.put {w : zk_W} {U : State} {P : Nat → Option Nat} {F : Nat → va_E} {H H1 : Heap} (h : zk_wt w U P F H) {a t : Nat} {T : zk_T} {e : va_E} (hp : P a = some t) (hT : w.1[t]? = some T) (he : zk_el w U P T e) (hat : va_at w.2.2.1 w.2.1 (a, e) H1) (hk : ∀ q, q ≠ a → H1[q]? = H[q]?) (hsm : ∀ (cA : ClassId) (x : vp_A), F a = .inl (cA, x) → ∃ (cA' : ClassId) (x' : vp_A), e = .inl (cA', x') ∧ x'.1 = x.1) (hrl : zk_rl P (zk_up F a e) t e) : zk_wt w U P (zk_up F a e) H1 := by
  intro q s hq
  by_cases e1 : q = a
  · subst e1
    cases hp.symm.trans hq
    refine (zk_wt1.some hT).mpr ?_
    rw [zk_up_self]
    exact ⟨he, hat, ((zk_wt1.some hT).mp (h q t hq)).2.2.1, hrl⟩
  · refine (h q s hq).step (fun T z => ?_) (fun _ z => ?_) (fun z => ?_)
    · rw [zk_up_ne e1]; exact z
    · rw [zk_up_ne e1]; exact va_at.kept z (hk q e1)
    · rw [zk_up_ne e1]
      refine z.step (fun b t hb => ⟨t, hb⟩) (fun b t cA x hb hF => ?_)
      by_cases e2 : b = a
      · subst e2
        obtain ⟨cA', x', y1, y2⟩ := hsm cA x hF
        exact ⟨cA', x', by rw [zk_up_self]; exact y1, y2⟩
      · exact ⟨cA, x, by rw [zk_up_ne e2]; exact hF, rfl⟩
/-- cells beside the typed ones change -/
theorem zk_wt.kept {w : zk_W} {U : State} {P : Nat → Option Nat} {F : Nat → va_E} {H H1 : Heap} (h : zk_wt w U P F H) (hk : ∀ q t, P q = some t → w.2.2.2.1 ≤ q → H1[q]? = H[q]?) : zk_wt w U P F H1 :=
  fun q s hq => (h q s hq).step (fun _ z => z) (fun hb z => va_at.kept z (hk q s hq hb)) (fun z => z)
/-- a cell comes under the types -/
theorem zk_wt.add {w : zk_W} {U : State} {P : Nat → Option Nat} {F : Nat → va_E} {H : Heap} (h : zk_wt w U P F H) {a t : Nat} {T : zk_T} {e : va_E} (hp : P a = none) (hT : w.1[t]? = some T) (he : zk_el w U (zk_up P a (some t)) T e) (hat : va_at w.2.2.1 w.2.1 (a, e) H) (hb : w.2.2.2.1 ≤ a) (hrl : zk_rl (zk_up P a (some t)) (zk_up F a e) t e) : zk_wt w U (zk_up P a (some t)) (zk_up F a e) H := by
  intro q s hq
  by_cases e1 : q = a
  · subst e1
    rw [zk_up_self] at hq
    cases hq
    refine (zk_wt1.some hT).mpr ?_
    rw [zk_up_self]
    exact ⟨he, hat, hb, hrl⟩
  · rw [zk_up_ne e1] at hq
    refine (h q s hq).step (fun T z => ?_) (fun _ z => ?_) (fun z => ?_)
    · rw [zk_up_ne e1]; exact z.ext (zk_up_ext hp)
    · rw [zk_up_ne e1]; exact z
    · rw [zk_up_ne e1]
      refine z.step (fun b t hb => ⟨t, zk_up_ext hp _ _ hb⟩) (fun b t cA x hb2 hF => ⟨cA, x, ?_, rfl⟩)
      rw [zk_up_ne]
      · exact hF
      · intro e2
        subst e2
        rw [hp] at hb2
        cases hb2
/-- what an array holds at a place -/
noncomputable def zk_av (x : vp_A) (j : Nat) : Option Value := match x.2 with
  | .inl f => some (.int (f j))
  | .inr (.inl f) => some (.long (f j))
  | .inr (.inr (.inr (.inr f))) => some (va_rf (f j))
  | _ => none
/-- what a field, an array's length (place 1000), or an array at j (place 2000 + j) holds -/
noncomputable def zk_rd (e : va_E) (k : Nat) : Option Value := match e with
  | .inr o => o.2[k]?
  | .inl a => if k = 1000 then some (.int (Int32.ofNat a.2.1)) else if 2000 ≤ k ∧ k - 2000 < a.2.1 then zk_av a.2 (k - 2000) else none
/-- the same cell but for the places that P names -/
noncomputable def zk_same (P : Nat → Prop) (e e' : va_E) : Prop := match e, e' with
  | .inr o, .inr o' => o.1 = o'.1 ∧ o.2.length = o'.2.length ∧ ∀ k, ¬ P k → o.2[k]? = o'.2[k]?
  | .inl a, .inl a' => a.1 = a'.1 ∧ a.2.1 = a'.2.1 ∧ ∀ j, j < a.2.1 → ¬ P (2000 + j) → zk_av a.2 j = zk_av a'.2 j
  | _, _ => False
theorem zk_same.rf {P : Nat → Prop} {e : va_E} : zk_same P e e := by
  cases e with
  | inl a => exact ⟨rfl, rfl, fun _ _ _ => rfl⟩
  | inr o => exact ⟨rfl, rfl, fun _ _ => rfl⟩
theorem zk_same.trans {P : Nat → Prop} {e e' e'' : va_E} (h : zk_same P e e') (h' : zk_same P e' e'') : zk_same P e e'' := by
  cases e with
  | inl a => cases e' with
    | inl a' => cases e'' with
      | inl a'' => exact ⟨h.1.trans h'.1, h.2.1.trans h'.2.1, fun j hj q => (h.2.2 j hj q).trans (h'.2.2 j (by rw [← h.2.1]; exact hj) q)⟩
      | inr o => exact h'.elim
    | inr o => exact h.elim
  | inr o => cases e' with
    | inl a' => exact h.elim
    | inr o' => cases e'' with
      | inl a'' => exact h'.elim
      | inr o'' => exact ⟨h.1.trans h'.1, h.2.1.trans h'.2.1, fun k q => (h.2.2 k q).trans (h'.2.2 k q)⟩
theorem zk_same.mono {P P' : Nat → Prop} {e e' : va_E} (hP : ∀ k, P k → P' k) (h : zk_same P e e') : zk_same P' e e' := by
  cases e with
  | inl a => cases e' with
    | inl a' => exact ⟨h.1, h.2.1, fun j hj q => h.2.2 j hj (fun z => q (hP _ z))⟩
    | inr o => exact h.elim
  | inr o => cases e' with
    | inl a' => exact h.elim
    | inr o' => exact ⟨h.1, h.2.1, fun k q => h.2.2 k (fun z => q (hP k z))⟩
theorem zk_same.rd {P : Nat → Prop} {e e' : va_E} (h : zk_same P e e') {k : Nat} (hk : ¬ P k) : zk_rd e' k = zk_rd e k := by
  cases e with
  | inl a => cases e' with
    | inl a' =>
      simp only [zk_rd]
      rw [← h.2.1]
      by_cases c1 : k = 1000
      · rw [if_pos c1, if_pos c1]
      · rw [if_neg c1, if_neg c1]
        by_cases c2 : 2000 ≤ k ∧ k - 2000 < a.2.1
        · rw [if_pos c2, if_pos c2]
          refine (h.2.2 _ c2.2 (fun z => hk ?_)).symm
          rw [show 2000 + (k - 2000) = k by omega] at z
          exact z
        · rw [if_neg c2, if_neg c2]
    | inr o => exact h.elim
  | inr o => cases e' with
    | inl a' => exact h.elim
    | inr o' => exact (h.2.2 k hk).symm
/-- the places that a code of what is written stands for: a field; 1001 all of an array; 1002 what lies ahead of 180; 1003 what lies from 180 on; 3000 + 256 lo + hi: from lo to hi -/
noncomputable def zk_er (e : Nat) : Nat × Nat := if e = 1001 then (2000, 1000000000000) else if e = 1002 then (2000, 2179) else if e = 1003 then (2180, 1000000000000) else if 3000 ≤ e ∧ e < 68536 then (2000 + (e - 3000) / 256, 2000 + (e - 3000) % 256) else (e, e)
noncomputable def zk_pm (e k : Nat) : Prop := (zk_er e).1 ≤ k ∧ k ≤ (zk_er e).2
noncomputable def zk_cov (e e' : Nat) : Bool := e == e' || (decide (1000 < e) && (decide ((zk_er e).1 ≤ (zk_er e').1) && decide ((zk_er e').2 ≤ (zk_er e).2)))
theorem zk_cov_ok {e e' k : Nat} (h : zk_cov e e' = true) (hk : zk_pm e' k) : zk_pm e k := by
  unfold zk_cov at h
  simp only [Bool.or_eq_true, Bool.and_eq_true, beq_iff_eq, decide_eq_true_eq] at h
  rcases h with h | ⟨-, h1, h2⟩
  · rw [h]; exact hk
  · exact ⟨Nat.le_trans h1 hk.1, Nat.le_trans hk.2 h2⟩
/-- which places of a cell of type t at a may be written: eff's (type, code, 0: any cell of the type; j + 1: the one that parameter j is) -/
noncomputable def zk_may (eff : List (Nat × Nat × Nat)) (ps : List Int) (a t k : Nat) : Prop := ∃ q ∈ eff, q.1 = t ∧ zk_pm q.2.1 k ∧ (q.2.2 = 0 ∨ ps[q.2.2 - 1]? = some (a : Int))
noncomputable def zk_ef (eff : List (Nat × Nat × Nat)) (ps : List Int) (P0 : Nat → Option Nat) (F0 F : Nat → va_E) : Prop := ∀ a t, P0 a = some t → zk_same (zk_may eff ps a t) (F0 a) (F a)
