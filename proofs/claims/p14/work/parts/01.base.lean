/-! a checker of methods over a heap of typed cells; part 1: lists side by side, numbers, kinds -/
abbrev zk_F : Type := Nat × Nat × Int × Int
abbrev zk_S : Type := Nat × Int
abbrev zk_T : Type := Nat × Nat × Nat × List zk_F
noncomputable def zk_all2 {α β : Type} (R : α → β → Prop) : List α → List β → Prop
  | [], [] => True
  | a :: as, b :: bs => R a b ∧ zk_all2 R as bs
  | [], _ :: _ => False
  | _ :: _, [] => False
theorem zk_all2_get {α β : Type} {R : α → β → Prop} : ∀ {as : List α} {bs : List β}, zk_all2 R as bs → ∀ {i : Nat} {a : α}, as[i]? = some a → ∃ b, bs[i]? = some b ∧ R a b
  | [], [], _, i, a, h => by simp at h
  | x :: xs, y :: ys, h, 0, a, e => by
    simp at e
    subst e
    exact ⟨y, by simp, h.1⟩
  | x :: xs, y :: ys, h, i + 1, a, e => by
    simp at e
    obtain ⟨b, h1, h2⟩ := zk_all2_get h.2 e
    exact ⟨b, by simpa using h1, h2⟩
  | [], _ :: _, h, _, _, _ => h.elim
  | _ :: _, [], h, _, _, _ => h.elim
theorem zk_all2_getR {α β : Type} {R : α → β → Prop} : ∀ {as : List α} {bs : List β}, zk_all2 R as bs → ∀ {i : Nat} {b : β}, bs[i]? = some b → ∃ a, as[i]? = some a ∧ R a b
  | [], [], _, i, a, h => by simp at h
  | x :: xs, y :: ys, h, 0, a, e => by
    simp at e
    subst e
    exact ⟨x, by simp, h.1⟩
  | x :: xs, y :: ys, h, i + 1, a, e => by
    simp at e
    obtain ⟨b, h1, h2⟩ := zk_all2_getR h.2 e
    exact ⟨b, by simpa using h1, h2⟩
  | [], _ :: _, h, _, _, _ => h.elim
  | _ :: _, [], h, _, _, _ => h.elim
theorem zk_all2_len {α β : Type} {R : α → β → Prop} : ∀ {as : List α} {bs : List β}, zk_all2 R as bs → as.length = bs.length
  | [], [], _ => rfl
  | _ :: xs, _ :: ys, h => by simp [zk_all2_len h.2]
  | [], _ :: _, h => h.elim
  | _ :: _, [], h => h.elim
theorem zk_all2_imp {α β : Type} {R R' : α → β → Prop} (hR : ∀ a b, R a b → R' a b) : ∀ {as : List α} {bs : List β}, zk_all2 R as bs → zk_all2 R' as bs
  | [], [], _ => trivial
  | _ :: _, _ :: _, h => ⟨hR _ _ h.1, zk_all2_imp hR h.2⟩
  | [], _ :: _, h => h.elim
  | _ :: _, [], h => h.elim
theorem zk_all2_snoc {α β : Type} {R : α → β → Prop} {a : α} {b : β} (hab : R a b) : ∀ {as : List α} {bs : List β}, zk_all2 R as bs → zk_all2 R (as ++ [a]) (bs ++ [b])
  | [], [], _ => ⟨hab, trivial⟩
  | _ :: _, _ :: _, h => ⟨h.1, zk_all2_snoc hab h.2⟩
  | [], _ :: _, h => h.elim
  | _ :: _, [], h => h.elim
theorem zk_all2_setL {α β : Type} {R : α → β → Prop} {a' : α} : ∀ {as : List α} {bs : List β} {i : Nat}, zk_all2 R as bs → (∀ b, bs[i]? = some b → R a' b) → zk_all2 R (as.set i a') bs
  | [], [], _, _, _ => trivial
  | _ :: _, y :: _, 0, h, hb => ⟨hb y (by simp), h.2⟩
  | _ :: _, _ :: _, i + 1, h, hb => ⟨h.1, zk_all2_setL h.2 (fun b e => hb b (by simpa using e))⟩
  | [], _ :: _, _, h, _ => h.elim
  | _ :: _, [], _, h, _ => h.elim
theorem zk_all2_setR {α β : Type} {R : α → β → Prop} {b' : β} : ∀ {as : List α} {bs : List β} {i : Nat}, zk_all2 R as bs → (∀ a, as[i]? = some a → R a b') → zk_all2 R as (bs.set i b')
  | [], [], _, _, _ => trivial
  | x :: _, _ :: _, 0, h, hb => ⟨hb x (by simp), h.2⟩
  | _ :: _, _ :: _, i + 1, h, hb => ⟨h.1, zk_all2_setR h.2 (fun b e => hb b (by simpa using e))⟩
  | [], _ :: _, _, h, _ => h.elim
  | _ :: _, [], _, h, _ => h.elim
theorem zk_all2_set2 {α β : Type} {R : α → β → Prop} {a' : α} {b' : β} (hab : R a' b') : ∀ {as : List α} {bs : List β} {i : Nat}, zk_all2 R as bs → zk_all2 R (as.set i a') (bs.set i b')
  | [], [], _, _ => trivial
  | _ :: _, _ :: _, 0, h => ⟨hab, h.2⟩
  | _ :: _, _ :: _, i + 1, h => ⟨h.1, zk_all2_set2 hab h.2⟩
  | [], _ :: _, _, h => h.elim
  | _ :: _, [], _, h => h.elim
theorem zk_all2_filter {α β : Type} {R : α → β → Prop} {p : α → Bool} {p' : β → Bool} (hp : ∀ a b, R a b → p a = p' b) : ∀ {as : List α} {bs : List β}, zk_all2 R as bs → zk_all2 R (as.filter p) (bs.filter p')
  | [], [], _ => trivial
  | x :: xs, y :: ys, h => by
    have e := hp x y h.1
    have ih := zk_all2_filter hp h.2
    simp only [List.filter_cons]
    rw [← e]
    cases p x
    · simpa using ih
    · exact ⟨h.1, ih⟩
  | [], _ :: _, h => h.elim
  | _ :: _, [], h => h.elim
theorem zk_all2_rev {α β : Type} {R : α → β → Prop} : ∀ {as : List α} {bs : List β}, zk_all2 R as bs → zk_all2 R as.reverse bs.reverse
  | [], [], _ => trivial
  | _ :: _, _ :: _, h => by
    simp only [List.reverse_cons]
    exact zk_all2_snoc h.1 (zk_all2_rev h.2)
  | [], _ :: _, h => h.elim
  | _ :: _, [], h => h.elim
theorem zk_all2_app {α β : Type} {R : α → β → Prop} : ∀ {as as' : List α} {bs bs' : List β}, zk_all2 R as bs → zk_all2 R as' bs' → zk_all2 R (as ++ as') (bs ++ bs')
  | [], _, [], _, _, h' => h'
  | _ :: _, _, _ :: _, _, h, h' => ⟨h.1, zk_all2_app h.2 h'⟩
  | [], _, _ :: _, _, h, _ => h.elim
  | _ :: _, _, [], _, h, _ => h.elim
/-- a stack that begins with a list of given length: what stands behind -/
theorem zk_all2_split {α β : Type} {R : α → β → Prop} : ∀ {as as' : List α} {bs : List β}, zk_all2 R (as ++ as') bs → ∃ b1 b2, bs = b1 ++ b2 ∧ zk_all2 R as b1 ∧ zk_all2 R as' b2
  | [], _, bs, h => ⟨[], bs, rfl, trivial, h⟩
  | _ :: xs, _, y :: ys, h => by
    obtain ⟨b1, b2, e, h1, h2⟩ := zk_all2_split (as := xs) h.2
    exact ⟨y :: b1, b2, by rw [e]; rfl, ⟨h.1, h1⟩, h2⟩
  | _ :: _, _, [], h => h.elim

noncomputable def zk_mk (k : Nat) (n : Int) : Value := match k with
  | 0 => .int (Int32.ofInt n)
  | 1 => .long (Int64.ofInt n)
  | _ => if n < 0 then .null else .ref n.toNat
noncomputable def zk_rg (k : Nat) (n : Int) : Prop := match k with
  | 0 => -2147483648 ≤ n ∧ n ≤ 2147483647
  | 1 => -9223372036854775808 ≤ n ∧ n ≤ 9223372036854775807
  | _ => True
/-- what a number of a kind may be: least and most; a reference (-1: null) to a cell of the type; a new object -/
noncomputable def zk_ok (P : Nat → Option Nat) (f : zk_F) (n : Int) : Prop := match f.1 with
  | 0 => f.2.2.1 ≤ n ∧ n ≤ f.2.2.2 ∧ zk_rg 0 n
  | 1 => f.2.2.1 ≤ n ∧ n ≤ f.2.2.2 ∧ zk_rg 1 n
  | 2 => f.2.2.1 ≤ n ∧ -1 ≤ n ∧ (f.2.2.2 < 0 → n < 0) ∧ (0 ≤ n → P n.toNat = some f.2.1)
  | _ => 0 ≤ n
theorem zk_ok.rg {P : Nat → Option Nat} {f : zk_F} {n : Int} (h : zk_ok P f n) : zk_rg f.1 n := by
  obtain ⟨k, t, lo, hi⟩ := f
  match k, h with
  | 0, h => exact h.2.2
  | 1, h => exact h.2.2
  | 2, _ => trivial
  | k + 3, _ => trivial
theorem zk_ok.ext {P P' : Nat → Option Nat} {f : zk_F} {n : Int} (hP : ∀ a t, P a = some t → P' a = some t) (h : zk_ok P f n) : zk_ok P' f n := by
  obtain ⟨k, t, lo, hi⟩ := f
  match k, h with
  | 0, h => exact h
  | 1, h => exact h
  | 2, h => exact ⟨h.1, h.2.1, h.2.2.1, fun q => hP _ _ (h.2.2.2 q)⟩
  | k + 3, h => exact h
theorem zk_ok.iv {P : Nat → Option Nat} {f : zk_F} {n : Int} (h : zk_ok P f n) (hk : f.1 < 2) : f.2.2.1 ≤ n ∧ n ≤ f.2.2.2 := by
  obtain ⟨k, t, lo, hi⟩ := f
  match k, h with
  | 0, h => exact ⟨h.1, h.2.1⟩
  | 1, h => exact ⟨h.1, h.2.1⟩
  | k + 2, _ => exact absurd hk (by show ¬ k + 2 < 2; omega)
noncomputable def zk_sv (V : List zk_F) (N : List Int) (q : zk_S) (v : Value) : Prop :=
  ∃ f n, V[q.1]? = some f ∧ N[q.1]? = some n ∧ zk_rg f.1 (n + q.2) ∧ v = zk_mk f.1 (n + q.2)
theorem zk_get_snoc {α : Type} {l : List α} {i : Nat} {a x : α} (h : l[i]? = some a) : (l ++ [x])[i]? = some a := by
  rw [List.getElem?_append_left (List.getElem?_eq_some_iff.mp h).1]
  exact h
theorem zk_get_last {α : Type} {l : List α} {x : α} : (l ++ [x])[l.length]? = some x := by simp
/-- more variables, narrower ones -/
noncomputable def zk_le (V : List zk_F) (N : List Int) (V' : List zk_F) (N' : List Int) : Prop :=
  (∀ (i : Nat) (n : Int), N[i]? = some n → N'[i]? = some n) ∧ ∀ (q : zk_S) (v : Value), zk_sv V N q v → zk_sv V' N' q v
theorem zk_le.rf {V : List zk_F} {N : List Int} : zk_le V N V N := ⟨fun _ _ h => h, fun _ _ h => h⟩
theorem zk_le.trans {V V' V'' : List zk_F} {N N' N'' : List Int} (h : zk_le V N V' N') (h' : zk_le V' N' V'' N'') : zk_le V N V'' N'' :=
  ⟨fun i n q => h'.1 i n (h.1 i n q), fun q v z => h'.2 q v (h.2 q v z)⟩
theorem zk_le.snoc {V : List zk_F} {N : List Int} (f : zk_F) (n : Int) : zk_le V N (V ++ [f]) (N ++ [n]) :=
  ⟨fun _ _ h => zk_get_snoc h, fun _ _ ⟨g, k, h1, h2, h3⟩ => ⟨g, k, zk_get_snoc h1, zk_get_snoc h2, h3⟩⟩
theorem zk_le.set {V : List zk_F} {N : List Int} {x : Nat} {f f' : zk_F} (hf : V[x]? = some f) (hk : f'.1 = f.1 ∨ (2 ≤ f'.1 ∧ 2 ≤ f.1)) : zk_le V N (V.set x f') N := by
  refine ⟨fun _ _ h => h, fun q v ⟨g, k, h1, h2, h3, h4⟩ => ?_⟩
  by_cases hq : q.1 = x
  · subst hq
    cases hf.symm.trans h1
    have hl : q.1 < V.length := (List.getElem?_eq_some_iff.mp h1).1
    refine ⟨f', k, by simp [hl], h2, ?_⟩
    rcases hk with e | ⟨e1, e2⟩
    · rw [e]; exact ⟨h3, h4⟩
    · obtain ⟨k1, r1⟩ := f'
      obtain ⟨k2, r2⟩ := f
      match k1, k2, e1, e2, h3, h4 with
      | i + 2, j + 2, _, _, h3, h4 => exact ⟨trivial, h4⟩
  · exact ⟨g, k, by rw [List.getElem?_set_ne (Ne.symm hq)]; exact h1, h2, h3, h4⟩
theorem zk_i32 {n : Int} (h : zk_rg 0 n) : (Int32.ofInt n).toInt = n := Int32.toInt_ofInt_of_le (by have := h.1; omega) (by have := h.2; omega)
theorem zk_i64 {n : Int} (h : zk_rg 1 n) : (Int64.ofInt n).toInt = n := Int64.toInt_ofInt_of_le (by have := h.1; omega) (by have := h.2; omega)
theorem zk_to32 (v : Int32) : zk_rg 0 v.toInt ∧ v = Int32.ofInt v.toInt :=
  ⟨⟨by have := Int32.le_toInt v; omega, by have := Int32.toInt_lt v; omega⟩, (Int32.ofInt_toInt v).symm⟩
theorem zk_to64 (v : Int64) : zk_rg 1 v.toInt ∧ v = Int64.ofInt v.toInt :=
  ⟨⟨by have := Int64.le_toInt v; omega, by have := Int64.toInt_lt v; omega⟩, (Int64.ofInt_toInt v).symm⟩
theorem zk_lt32 {a b : Int} (ha : zk_rg 0 a) (hb : zk_rg 0 b) : Int32.ofInt a < Int32.ofInt b ↔ a < b := by rw [Int32.lt_iff_toInt_lt, zk_i32 ha, zk_i32 hb]
theorem zk_le32 {a b : Int} (ha : zk_rg 0 a) (hb : zk_rg 0 b) : Int32.ofInt a ≤ Int32.ofInt b ↔ a ≤ b := by rw [Int32.le_iff_toInt_le, zk_i32 ha, zk_i32 hb]
theorem zk_eq32 {a b : Int} (ha : zk_rg 0 a) (hb : zk_rg 0 b) : Int32.ofInt a = Int32.ofInt b ↔ a = b := by rw [← Int32.toInt_inj, zk_i32 ha, zk_i32 hb]
theorem zk_lt64 {a b : Int} (ha : zk_rg 1 a) (hb : zk_rg 1 b) : Int64.ofInt a < Int64.ofInt b ↔ a < b := by rw [Int64.lt_iff_toInt_lt, zk_i64 ha, zk_i64 hb]
theorem zk_eq64 {a b : Int} (ha : zk_rg 1 a) (hb : zk_rg 1 b) : Int64.ofInt a = Int64.ofInt b ↔ a = b := by rw [← Int64.toInt_inj, zk_i64 ha, zk_i64 hb]
