/-! part 12: steps on cells -/
noncomputable def zk_typ (ty : List zk_T) (κ : zk_C) (q : zk_S) : Option (Nat × zk_T) := match κ.1[q.1]? with
  | some f => if f.1 = 2 ∧ 0 ≤ f.2.2.1 ∧ q.2 = 0 then (ty[f.2.1]?).map (fun T => (f.2.1, T)) else none
  | none => none
noncomputable def zk_fnd (κ : zk_C) (x k : Nat) : Option zk_S := (κ.2.2.1.find? (fun z => z.1 == x && z.2.1 == k)).map (fun z => z.2.2)
noncomputable def zk_ltb (κ : zk_C) (q r : zk_S) : Bool := decide (zk_hg κ.1 q < zk_lw κ.1 r) || (q.1 == r.1 && decide (q.2 < r.2)) || κ.2.1.any (fun d => d.1 == q.1 && d.2.1 == r.1 && decide (d.2.2 + q.2 < r.2))
/-- an array is a field of an object whose own inequality bounds the index -/
noncomputable def zk_ixr (κ : zk_C) (qi qa : zk_S) : Bool := zk_kd κ.1 qa == 2 && κ.2.2.1.any (fun z => z.2.2.1 == qa.1 && z.2.2.2 == 0 && (match κ.1[z.1]? with
  | some f => f.1 == 2 && zk_rel.any (fun r => r.1 == f.2.1 && r.2.2 == z.2.1 && decide (r.2.1 < 1000) && (match zk_fnd κ z.1 r.2.1 with
    | some c => zk_kd κ.1 c == 0 && zk_ltb κ qi c
    | none => false))
  | none => false))
/-- .. or the number of what is copied -/
noncomputable def zk_cinl (κ : zk_C) (c : zk_S) : Option zk_S := if zk_kd κ.1 c = 0 then some c else if zk_kd κ.1 c = 2 ∧ c.2 = 0 then zk_fnd κ c.1 1000 else none
noncomputable def zk_cinr (κ : zk_C) (n x : zk_S) : Bool := zk_kd κ.1 x == 2 && κ.2.2.1.any (fun z => z.2.2.1 == x.1 && z.2.2.2 == 0 && (match κ.1[z.1]? with
  | some f => f.1 == 2 && zk_rel.any (fun r => r.1 == f.2.1 && r.2.2 == z.2.1 && decide (r.2.1 < 1000) && (match zk_fnd κ z.1 r.2.1 with
    | some c => (match zk_cinl κ c with
      | some L => zk_kd κ.1 L == 0 && L.1 == n.1 && decide (n.2 ≤ L.2)
      | none => false)
    | none => false))
  | none => false))
/-- a number that a field bound by an inequality may be set to -/
noncomputable def zk_relq (κ : zk_C) (t x : Nat) (qv : zk_S) (j : Nat) : Bool := κ.2.2.1.any (fun z => z.1 == x && z.2.1 != 1000 && (z.2.1 == j || zk_rel.contains (t, z.2.1, j)) && zk_kd κ.1 z.2.2 == 2 && (match zk_fnd κ z.2.2.1 1000 with
  | some L => z.2.2.2 == 0 && zk_kd κ.1 L == 0 && zk_ltb κ qv (L.1, L.2 + 1)
  | none => false))
noncomputable def zk_relp (κ : zk_C) (t k x : Nat) (qv : zk_S) : Bool := zk_rel.all (fun r => r.1 != t || (r.2.2 != k && (r.2.1 != k || (zk_kd κ.1 qv == 0 && zk_relq κ t x qv r.2.2))))
noncomputable def zk_ix (κ : zk_C) (qi qa : zk_S) (T : zk_T) : Bool := zk_kd κ.1 qi == 0 && decide (0 ≤ zk_lw κ.1 qi) && decide (T.2.2.1 ≤ 2147483647) && (decide (zk_hg κ.1 qi < (T.2.1 : Int)) || ((match zk_fnd κ qa.1 1000 with
  | some r => zk_kd κ.1 r == 0 && zk_ltb κ qi r
  | none => false) || zk_ixr κ qi qa))
noncomputable def zk_fits (V : List zk_F) (q : zk_S) (f : zk_F) : Bool := match V[q.1]? with
  | some g => if f.1 < 2 then g.1 == f.1 && decide (f.2.2.1 ≤ g.2.2.1 + q.2) && decide (g.2.2.2 + q.2 ≤ f.2.2.2)
    else f.1 == 2 && g.1 == 2 && q.2 == 0 && (if g.2.2.2 < 0 then decide (f.2.2.1 ≤ -1) else g.2.1 == f.2.1 && decide (f.2.2.1 ≤ g.2.2.1) && decide (0 ≤ f.2.2.2))
  | none => false
noncomputable def zk_tyb (c : Int) (V : List zk_F) (q : zk_S) : Bool :=
  if c = 1 then zk_kd V q == 1 else if c = 2 then decide (2 ≤ zk_kd V q) && decide (zk_kd V q < 99) else zk_kd V q == 0 && (if c = 0 then true else if c = 3 then decide (0 ≤ zk_lw V q) && decide (zk_hg V q ≤ 1) else if c = 4 then decide (-128 ≤ zk_lw V q) && decide (zk_hg V q ≤ 127) else false)
noncomputable def zk_rwset : List (Nat × Nat × List zk_S) → Nat → Nat → zk_S → List (Nat × Nat × List zk_S)
  | [], _, _, _ => []
  | q :: r, x, k, z => if q.1 = x then (q.1, q.2.1, q.2.2.set k z) :: r else q :: zk_rwset r x k z
noncomputable def zk_getR (ty : List zk_T) (lk : List zk_L) (κ : zk_C) (idx : Nat) (q : zk_S) : Option (zk_C × zk_S) := match zk_lk lk 2 idx, κ.1[q.1]? with
  | some e, some f =>
    if f.1 = 2 then (match zk_typ ty κ q with
      | some (_, T) => if T.1 = 0 ∧ T.2.1 = e.2.2.1 then (match zk_fnd κ q.1 e.2.2.2.1 with
        | some r => some (κ, r)
        | none => match T.2.2.2[e.2.2.2.1]? with
          | some ft => if ft.1 < 3 then some ((κ.1 ++ [ft], κ.2.1, (q.1, e.2.2.2.1, (κ.1.length, 0)) :: κ.2.2.1, κ.2.2.2), (κ.1.length, 0)) else none
          | none => none) else none
      | none => none)
    else if f.1 = 3 ∧ q.2 = 0 then (match κ.2.2.2.1.find? (fun z => z.1 == q.1) with
      | some z => if z.2.1 = e.2.2.1 then (z.2.2[e.2.2.2.1]?).map (fun r => (κ, r)) else none
      | none => none)
    else none
  | _, _ => none
noncomputable def zk_putR (ty : List zk_T) (lk : List zk_L) (eff : List (Nat × Nat × Nat)) (ini : Bool) (κ : zk_C) (idx : Nat) (qv q : zk_S) : Option zk_C := match zk_lk lk 2 idx, κ.1[q.1]? with
  | some e, some f =>
    if zk_tyb (e.2.2.2.2 % 16) κ.1 qv = true then
      if f.1 = 2 then (match zk_typ ty κ q with
        | some (t, T) => match T.2.2.2[e.2.2.2.1]? with
          | some ft => if T.1 = 0 ∧ T.2.1 = e.2.2.1 ∧ zk_fits κ.1 qv ft = true ∧ e.2.2.2.2 < 16 ∧ zk_mayb eff κ t e.2.2.2.1 q.1 = true ∧ zk_relp κ t e.2.2.2.1 q.1 qv = true ∧ e.2.2.2.1 < 1000 then some (κ.1, κ.2.1, (q.1, e.2.2.2.1, qv) :: κ.2.2.1.filter (zk_keep κ.1 t e.2.2.2.1 e.2.2.2.1), κ.2.2.2) else none
          | none => none
        | none => none)
      else if f.1 = 3 ∧ q.2 = 0 then (match κ.2.2.2.1.find? (fun z => z.1 == q.1) with
        | some z => if z.2.1 = e.2.2.1 ∧ e.2.2.2.1 < z.2.2.length ∧ (e.2.2.2.2 < 16 ∨ (ini = true ∧ e.2.2.2.2 < 32)) then some (κ.1, κ.2.1, κ.2.2.1, zk_rwset κ.2.2.2.1 q.1 e.2.2.2.1 qv, κ.2.2.2.2) else none
        | none => none)
      else none
    else none
  | _, _ => none
section ZK12
variable {p : Program} {l : Launch} {e : Env} {R : Room} {s : State} {m : MethodId} {args : Array Value} {below : List Frame} {meth : Method} {c : Code} {Q : State → Prop}
variable {cc : ByteArray} {w : zk_W} {u : zk_M} {Ts : List Jvm.Cond} {own : String}
theorem zk_typ_ok {ty : List zk_T} (hw : w.1 = ty) {κ : zk_C} {N : List Int} {P : Nat → Option Nat} (hV : zk_all2 (zk_ok P) κ.1 N) {q : zk_S} {t : Nat} {T : zk_T} (h : zk_typ ty κ q = some (t, T)) {v : Value} (hv : zk_sv κ.1 N q v) : ∃ a : Nat, v = .ref a ∧ N[q.1]? = some (a : Int) ∧ P a = some t ∧ w.1[t]? = some T := by
  unfold zk_typ at h
  split at h
  · rename_i f hf
    split at h
    · rename_i hc
      obtain ⟨h1, h2, h3⟩ := hc
      obtain ⟨T', e1, e2⟩ := Option.map_eq_some_iff.mp h
      cases e2
      obtain ⟨n, e3, e4⟩ := zk_all2_get hV hf
      obtain ⟨g, n', g1, g2, g3, g4⟩ := hv
      cases hf.symm.trans g1
      cases e3.symm.trans g2
      obtain ⟨fk, ft, fl, fh⟩ := f
      dsimp only at h1 h2 e1 g4
      subst h1
      have e4 : fl ≤ n ∧ -1 ≤ n ∧ (fh < 0 → n < 0) ∧ (0 ≤ n → P n.toNat = some ft) := e4
      rw [h3, Int.add_zero] at g4
      refine ⟨n.toNat, ?_, ?_, e4.2.2.2 (by omega), by rw [hw]; exact e1⟩
      · rw [g4]
        show (if n < 0 then Value.null else Value.ref n.toNat) = _
        rw [if_neg (by omega)]
      · rw [e3]
        congr 1
        omega
    · cases h
  · cases h
theorem zk_fnd_ok {κ : zk_C} {N : List Int} {P : Nat → Option Nat} {F : Nat → va_E} (hF : zk_fa κ.1 N P F κ.2.2.1) {x k : Nat} {r : zk_S} (h : zk_fnd κ x k = some r) {a : Nat} (ha : N[x]? = some (a : Int)) : ∃ v, zk_rd (F a) k = some v ∧ zk_sv κ.1 N r v := by
  unfold zk_fnd at h
  obtain ⟨z, h1, h2⟩ := Option.map_eq_some_iff.mp h
  have h3 := List.find?_some h1
  simp only [Bool.and_eq_true, beq_iff_eq] at h3
  obtain ⟨n, t, v, g1, g2, g3, g4, g5⟩ := hF z (List.mem_of_find?_eq_some h1)
  rw [h3.1, ha] at g1
  cases g1
  rw [h3.2, Int.toNat_natCast] at g4
  exact ⟨v, g4, h2 ▸ g5⟩
theorem zk_ltb_ok {κ : zk_C} {N : List Int} (hD : zk_df N κ.2.1) {q r : zk_S} (h : zk_ltb κ q r = true) {a b : Int} (ha : N[q.1]? = some a) (hb : N[r.1]? = some b) (h1 : a + q.2 ≤ zk_hg κ.1 q) (h2 : zk_lw κ.1 r ≤ b + r.2) : a + q.2 < b + r.2 := by
  unfold zk_ltb at h
  simp only [Bool.or_eq_true, Bool.and_eq_true, beq_iff_eq, decide_eq_true_eq] at h
  rcases h with (h | h) | h
  · omega
  · rw [h.1, hb] at ha
    cases ha
    have := h.2
    omega
  · obtain ⟨d, hd, h3⟩ := List.any_eq_true.mp h
    simp only [Bool.and_eq_true, beq_iff_eq, decide_eq_true_eq] at h3
    obtain ⟨n, k, g1, g2, g3⟩ := hD d hd
    rw [h3.1.1, ha] at g1
    rw [h3.1.2, hb] at g2
    cases g1
    cases g2
    have := h3.2
    omega
theorem zk_n32 {n : Nat} (h : n ≤ 2147483647) : Int32.ofNat n = Int32.ofInt (n : Int) := rfl
theorem zk_ixr_ok {κ : zk_C} {N : List Int} {P : Nat → Option Nat} {F : Nat → va_E} {H : Heap} {locs : List Loc} {ls : Array Slot} (hG : zk_G w s u κ N P F H locs ls) {qi qa : zk_S} (h : zk_ixr κ qi qa = true) {k : Int} (hk : N[qi.1]? = some k) (hh : k + qi.2 ≤ zk_hg κ.1 qi) {a : Nat} (ha : N[qa.1]? = some (a : Int)) {cA : ClassId} {x : vp_A} (hF : F a = .inl (cA, x)) : k + qi.2 < x.1 := by
  unfold zk_ixr at h
  rw [Bool.and_eq_true, beq_iff_eq] at h
  obtain ⟨h0, h⟩ := h
  obtain ⟨z, z1, z2⟩ := List.any_eq_true.mp h
  rw [Bool.and_eq_true, Bool.and_eq_true, beq_iff_eq, beq_iff_eq] at z2
  obtain ⟨⟨z3, z4⟩, z5⟩ := z2
  split at z5
  · rename_i f hf
    rw [Bool.and_eq_true, beq_iff_eq] at z5
    obtain ⟨z6, z7⟩ := z5
    obtain ⟨r, r1, r2⟩ := List.any_eq_true.mp z7
    rw [Bool.and_eq_true, Bool.and_eq_true, Bool.and_eq_true, beq_iff_eq, beq_iff_eq, decide_eq_true_eq] at r2
    obtain ⟨⟨⟨r3, r4⟩, r5⟩, r6⟩ := r2
    split at r6
    · rename_i c hc
      rw [Bool.and_eq_true, beq_iff_eq] at r6
      obtain ⟨r7, r8⟩ := r6
      obtain ⟨n, t, v, g1, g2, g3, g4, g5⟩ := hG.2.2.1 z z1
      obtain ⟨n', y1, y2⟩ := zk_all2_get hG.1 hf
      cases g1.symm.trans y1
      have ht : f.2.1 = t := by
        obtain ⟨fk, fr⟩ := f
        dsimp only at z6
        subst z6
        have := y2.2.2.2 g2
        rw [g3] at this
        cases this
        rfl
      have hn : (n.toNat : Int) = n := Int.toNat_of_nonneg g2
      obtain ⟨v1, c1, c2⟩ := zk_fnd_ok hG.2.2.1 hc (a := n.toNat) (by rw [hn]; exact g1)
      cases hT : w.1[t]? with
      | none =>
        have := List.all_eq_true.mp ((zk_wt1.none hT).mp (hG.2.2.2.2.1 _ _ g3)).2.2 r r1
        rw [bne_iff_ne] at this
        exact absurd (r3.trans ht) this
      | some T =>
        have hrl := ((zk_wt1.some hT).mp (hG.2.2.2.2.1 _ _ g3)).2.2.2
        cases hFn : F n.toNat with
        | inl y =>
          rw [hFn] at c1
          unfold zk_rd at c1
          dsimp only at c1
          rw [if_neg (by omega), if_neg (by omega)] at c1
          cases c1
        | inr o =>
          rw [hFn] at hrl c1 g4
          obtain ⟨w1, w2, n1, n2, d1, d2, d3, d4, d5⟩ := hrl r r1 (r3.trans ht)
          rw [r4] at d2
          have c1 : o.2[r.2.1]? = some v1 := c1
          have g4 : o.2[z.2.1]? = some v := g4
          rw [d1] at c1
          cases c1
          rw [d2] at g4
          cases g4
          obtain ⟨g0, m, y3, y4, y5, y6⟩ := g5
          rw [z4] at y6
          rw [z3] at y3 y4
          rw [ha] at y4
          cases y4
          have hk2 : g0.1 = 2 := by
            unfold zk_kd at h0
            rw [y3] at h0
            exact h0
          rw [hk2, Int.add_zero, zk_mk_ref (Nat.le_refl _), if_neg (by omega), Int.toNat_natCast] at y6
          subst y6
          obtain ⟨-, cA', x', x1, x2, -⟩ := d4
          rw [hF] at x1
          cases x1
          obtain ⟨j, f1, f2, f3, f4, k', f5, f6⟩ := c2.int hG.1 r7
          subst f1
          have d3 : (Int32.ofInt j).toInt = n1 := d3
          rw [zk_i32 f2] at d3
          have := zk_ltb_ok hG.2.1 r8 hk f5 hh (by omega)
          omega
    · cases r6
  · cases z5
theorem zk_cinr_ok {κ : zk_C} {N : List Int} {P : Nat → Option Nat} {F : Nat → va_E} {H : Heap} {locs : List Loc} {ls : Array Slot} (hG : zk_G w s u κ N P F H locs ls) {qi qa : zk_S} (h : zk_cinr κ qi qa = true) {k : Int} (hk : N[qi.1]? = some k) {a : Nat} (ha : N[qa.1]? = some (a : Int)) {cA : ClassId} {x : vp_A} (hF : F a = .inl (cA, x)) : k + qi.2 ≤ x.1 := by
  unfold zk_cinr at h
  rw [Bool.and_eq_true, beq_iff_eq] at h
  obtain ⟨h0, h⟩ := h
  obtain ⟨z, z1, z2⟩ := List.any_eq_true.mp h
  rw [Bool.and_eq_true, Bool.and_eq_true, beq_iff_eq, beq_iff_eq] at z2
  obtain ⟨⟨z3, z4⟩, z5⟩ := z2
  split at z5
  · rename_i f hf
    rw [Bool.and_eq_true, beq_iff_eq] at z5
    obtain ⟨z6, z7⟩ := z5
    obtain ⟨r, r1, r2⟩ := List.any_eq_true.mp z7
    rw [Bool.and_eq_true, Bool.and_eq_true, Bool.and_eq_true, beq_iff_eq, beq_iff_eq, decide_eq_true_eq] at r2
    obtain ⟨⟨⟨r3, r4⟩, r5⟩, r6⟩ := r2
    split at r6
    · rename_i c hc
      split at r6
      rotate_left
      · cases r6
      rename_i L hL
      rw [Bool.and_eq_true, Bool.and_eq_true, beq_iff_eq, beq_iff_eq, decide_eq_true_eq] at r6
      obtain ⟨⟨r7, r8⟩, r9⟩ := r6
      obtain ⟨n, t, v, g1, g2, g3, g4, g5⟩ := hG.2.2.1 z z1
      obtain ⟨n', y1, y2⟩ := zk_all2_get hG.1 hf
      cases g1.symm.trans y1
      have ht : f.2.1 = t := by
        obtain ⟨fk, fr⟩ := f
        dsimp only at z6
        subst z6
        have := y2.2.2.2 g2
        rw [g3] at this
        cases this
        rfl
      have hn : (n.toNat : Int) = n := Int.toNat_of_nonneg g2
      obtain ⟨v1, c1, c2⟩ := zk_fnd_ok hG.2.2.1 hc (a := n.toNat) (by rw [hn]; exact g1)
      cases hT : w.1[t]? with
      | none =>
        have := List.all_eq_true.mp ((zk_wt1.none hT).mp (hG.2.2.2.2.1 _ _ g3)).2.2 r r1
        rw [bne_iff_ne] at this
        exact absurd (r3.trans ht) this
      | some T =>
        have hrl := ((zk_wt1.some hT).mp (hG.2.2.2.2.1 _ _ g3)).2.2.2
        cases hFn : F n.toNat with
        | inl y =>
          rw [hFn] at c1
          unfold zk_rd at c1
          dsimp only at c1
          rw [if_neg (by omega), if_neg (by omega)] at c1
          cases c1
        | inr o =>
          rw [hFn] at hrl c1 g4
          obtain ⟨w1, w2, n1, n2, d1, d2, d3, d4, d5⟩ := hrl r r1 (r3.trans ht)
          rw [r4] at d2
          have c1 : o.2[r.2.1]? = some v1 := c1
          have g4 : o.2[z.2.1]? = some v := g4
          rw [d1] at c1
          cases c1
          rw [d2] at g4
          cases g4
          obtain ⟨g0, m, y3, y4, y5, y6⟩ := g5
          rw [z4] at y6
          rw [z3] at y3 y4
          rw [ha] at y4
          cases y4
          have hk2 : g0.1 = 2 := by
            unfold zk_kd at h0
            rw [y3] at h0
            exact h0
          rw [hk2, Int.add_zero, zk_mk_ref (Nat.le_refl _), if_neg (by omega), Int.toNat_natCast] at y6
          subst y6
          obtain ⟨-, cA', x', x1, x2, -⟩ := d4
          rw [hF] at x1
          cases x1
          unfold zk_cinl at hL
          split at hL
          · cases hL
            obtain ⟨j, f1, f2, f3, f4, k', f5, f6⟩ := c2.int hG.1 r7
            subst f1
            have d3 : (Int32.ofInt j).toInt = n1 := d3
            rw [zk_i32 f2] at d3
            rw [r8, hk] at f5
            cases f5
            omega
          · split at hL
            · rename_i hc2
              obtain ⟨g9, m9, u1, u2, u3, u4⟩ := c2
              have k9 : g9.1 = 2 := by
                have := hc2.1
                unfold zk_kd at this
                rw [u1] at this
                exact this
              rw [k9, hc2.2, Int.add_zero, zk_mk_ref (Nat.le_refl _)] at u4
              split at u4
              · subst u4
                exact d3.elim
              · rename_i hm
                subst u4
                obtain ⟨-, cB, xB, b1, b2, b3⟩ := d3
                obtain ⟨v9, e1, e2⟩ := zk_fnd_ok hG.2.2.1 hL (a := m9.toNat) (by rw [Int.toNat_of_nonneg (by omega)]; exact u2)
                rw [b1] at e1
                have e1 : some (Value.int (Int32.ofNat xB.1)) = some v9 := e1
                cases e1
                obtain ⟨j, q1, q2, q3, q4, k', q5, q6⟩ := e2.int hG.1 r7
                have q1 := Value.int.inj q1
                rw [zk_n32 b3, zk_eq32 (by constructor <;> omega) q2] at q1
                rw [r8, hk] at q5
                cases q5
                omega
            · cases hL
    · cases r6
  · cases z5
theorem zk_relp_ok {κ : zk_C} {N : List Int} {P : Nat → Option Nat} {F : Nat → va_E} {H : Heap} {locs : List Loc} {ls : Array Slot} (hG : zk_G w s u κ N P F H locs ls) {t k x : Nat} {qv : zk_S} (h : zk_relp κ t k x qv = true) {a : Nat} (hna : N[x]? = some (a : Int)) (hp : P a = some t) {ci : Nat} {fs : List Value} (ho : F a = .inr (ci, fs)) (hrl : zk_rl P F t (F a)) {vv : Value} (hv : zk_sv κ.1 N qv vv) (hk : k < fs.length) : zk_rl P (zk_up F a (.inr (ci, fs.set k vv))) t (.inr (ci, fs.set k vv)) := by
  have hst : ∀ v n, zk_sz P F v n → zk_sz P (zk_up F a (.inr (ci, fs.set k vv))) v n := fun v n => zk_sz.step (fun b t hb => ⟨t, hb⟩) (fun b t' cA y hb hF => by
    have hne : b ≠ a := by
      intro e
      subst e
      rw [ho] at hF
      cases hF
    exact ⟨cA, y, by rw [zk_up_ne hne]; exact hF, rfl⟩)
  intro r hr ht
  have hc := List.all_eq_true.mp h r hr
  rw [Bool.or_eq_true, bne_iff_ne, Bool.and_eq_true, bne_iff_ne, Bool.or_eq_true, bne_iff_ne, Bool.and_eq_true, beq_iff_eq] at hc
  rw [ho] at hrl
  obtain ⟨v1, v2, n1, n2, h1, h2, h3, h4, h5⟩ := hrl r hr ht
  rcases hc with hc | ⟨hc2, hc⟩
  · exact absurd ht hc
  have h2' : (fs.set k vv)[r.2.2]? = some v2 := by rw [List.getElem?_set_ne (Ne.symm hc2)]; exact h2
  by_cases hk1 : r.2.1 = k
  · rcases hc with hc | ⟨hc1, hc3⟩
    · exact absurd hk1 hc
    obtain ⟨i, e1, e2, e3, e4, kk, e5, e6⟩ := hv.int hG.1 hc1
    unfold zk_relq at hc3
    obtain ⟨z, z1, z2⟩ := List.any_eq_true.mp hc3
    rw [Bool.and_eq_true, Bool.and_eq_true, Bool.and_eq_true, Bool.and_eq_true, beq_iff_eq, bne_iff_ne, Bool.or_eq_true, beq_iff_eq, beq_iff_eq] at z2
    obtain ⟨⟨⟨⟨z3, z9⟩, z4⟩, z5⟩, z6⟩ := z2
    split at z6
    · rename_i L hL
      rw [Bool.and_eq_true, Bool.and_eq_true, beq_iff_eq, beq_iff_eq] at z6
      obtain ⟨⟨z7, z8⟩, z10⟩ := z6
      obtain ⟨n, t', v', g1, g2, g3, g4, g5⟩ := hG.2.2.1 z z1
      rw [z3, hna] at g1
      cases g1
      rw [Int.toNat_natCast, ho] at g4
      have g4 : fs[z.2.1]? = some v' := g4
      unfold zk_fnd at hL
      obtain ⟨y, yf, rfl⟩ := Option.map_eq_some_iff.mp hL
      have ym := List.mem_of_find?_eq_some yf
      have yp := List.find?_some yf
      rw [Bool.and_eq_true, beq_iff_eq, beq_iff_eq] at yp
      obtain ⟨m, tb, w', f1, f2, f3, f4, f5⟩ := hG.2.2.1 y ym
      rw [yp.1] at f1
      rw [yp.2] at f4
      have hv' : v' = .ref m.toNat := by
        obtain ⟨g0, m', y3, y4, y5, y6⟩ := g5
        rw [f1] at y4
        cases y4
        have hk2 : g0.1 = 2 := by
          unfold zk_kd at z5
          rw [y3] at z5
          exact z5
        rw [y6, hk2, z7, Int.add_zero, zk_mk_ref (Nat.le_refl _), if_neg (by omega)]
      have key : ∃ m2, zk_sz P F v' m2 ∧ m2 ≤ n2 := by
        rcases z4 with z4 | z4
        · rw [z4, h2] at g4
          cases g4
          exact ⟨n2, h4, Int.le_refl _⟩
        · obtain ⟨u1, u2, m1, m2, b1, b2, b3, b4, b5⟩ := hrl _ (List.contains_iff_mem.mp z4) rfl
          dsimp only at b1 b2
          rw [g4] at b1
          cases b1
          rw [h2] at b2
          cases b2
          exact ⟨m1, b3, by rw [h4.uniq b4]; exact b5⟩
      obtain ⟨m2, k1, k2⟩ := key
      rw [hv'] at k1
      obtain ⟨-, cA, xx, x1, x2, x3⟩ := k1
      rw [x1] at f4
      have f4 : some (Value.int (Int32.ofNat xx.1)) = some w' := f4
      cases f4
      obtain ⟨j, q1, q2, q3, q4, k', q5, q6⟩ := f5.int hG.1 z8
      have q1 := Value.int.inj q1
      rw [zk_n32 x3, zk_eq32 (by constructor <;> omega) q2] at q1
      have hlt := zk_ltb_ok hG.2.1 z10 e5 q5 (by omega) (by
        have : zk_lw κ.1 (y.2.2.1, y.2.2.2 + 1) = zk_lw κ.1 y.2.2 + 1 := by
          unfold zk_lw
          obtain ⟨f, hf, -⟩ := zk_all2_getR hG.1 q5
          dsimp only
          rw [hf]
          dsimp only
          omega
        dsimp only
        omega)
      dsimp only at hlt
      refine ⟨vv, v2, i, n2, ?_, h2', ?_, hst _ _ h4, by omega⟩
      · show (fs.set k vv)[r.2.1]? = _
        rw [hk1, List.getElem?_set_self hk]
      · rw [e1]
        exact zk_i32 e2
    · cases z6
  · exact ⟨v1, v2, n1, n2, by show (fs.set k vv)[r.2.1]? = _; rw [List.getElem?_set_ne (Ne.symm hk1)]; exact h1, h2', hst _ _ h3, hst _ _ h4, h5⟩
theorem zk_ix_ok {κ : zk_C} {N : List Int} {P : Nat → Option Nat} {F : Nat → va_E} {H : Heap} {locs : List Loc} {ls : Array Slot} (hG : zk_G w s u κ N P F H locs ls) {qi qa : zk_S} {T : zk_T} (h : zk_ix κ qi qa T = true) {v : Value} (hv : zk_sv κ.1 N qi v) {a : Nat} (ha : N[qa.1]? = some (a : Int)) {cA : ClassId} {x : vp_A} (hF : F a = .inl (cA, x)) (hp : T.2.1 ≤ x.1) (hq : x.1 ≤ T.2.2.1) :
    ∃ i : Int, v = .int (Int32.ofInt i) ∧ zk_rg 0 i ∧ 0 ≤ i ∧ i < x.1 ∧ zk_lw κ.1 qi ≤ i ∧ i ≤ zk_hg κ.1 qi ∧ vp_in (Int32.ofInt i) x.1 ∧ (Int32.ofInt i).toNatClampNeg = i.toNat := by
  unfold zk_ix at h
  simp only [Bool.and_eq_true, Bool.or_eq_true, beq_iff_eq, decide_eq_true_eq] at h
  obtain ⟨⟨⟨h1, h2⟩, h3⟩, h4⟩ := h
  obtain ⟨i, e1, e2, e3, e4, k, e5, e6⟩ := hv.int hG.1 h1
  have hi : i < x.1 := by
    rcases h4 with h4 | h4 | h4
    · omega
    · split at h4
      · rename_i r hr
        simp only [Bool.and_eq_true, beq_iff_eq] at h4
        obtain ⟨v', g1, g2⟩ := zk_fnd_ok hG.2.2.1 hr ha
        obtain ⟨j, f1, f2, f3, f4, k', f5, f6⟩ := g2.int hG.1 h4.1
        rw [hF] at g1
        have g1 : some (Value.int (Int32.ofNat x.1)) = some v' := g1
        cases g1
        have f1 := Value.int.inj f1
        rw [zk_n32 (by omega), zk_eq32 (by constructor <;> omega) f2] at f1
        have := zk_ltb_ok hG.2.1 h4.2 e5 f5 (by omega) (by omega)
        omega
      · cases h4
    · have := zk_ixr_ok hG h4 e5 (by omega) ha hF
      omega
  refine ⟨i, e1, e2, by omega, hi, e3, e4, ?_, ?_⟩
  · rw [vp_in_iff, zk_i32 e2]
    omega
  · show (Int32.ofInt i).toInt.toNat = _
    rw [zk_i32 e2]
theorem zk_fits_ok {V : List zk_F} {N : List Int} {P : Nat → Option Nat} (hV : zk_all2 (zk_ok P) V N) {q : zk_S} {f : zk_F} (h : zk_fits V q f = true) {v : Value} (hv : zk_sv V N q v) : zk_fv P f v := by
  obtain ⟨g, n, h1, h2, h3, h4⟩ := hv
  unfold zk_fits at h
  rw [h1] at h
  obtain ⟨n', e1, e2⟩ := zk_all2_get hV h1
  cases h2.symm.trans e1
  obtain ⟨fk, ft, fl, fh⟩ := f
  obtain ⟨gk, gt, gl, gh⟩ := g
  dsimp only at h
  split at h
  · rename_i hk
    simp only [Bool.and_eq_true, beq_iff_eq, decide_eq_true_eq] at h
    obtain ⟨⟨rfl, h5⟩, h6⟩ := h
    have iv := e2.iv hk
    dsimp only at iv
    refine ⟨n + q.2, ?_, h4⟩
    match gk, hk, h3 with
    | 0, _, h3 => exact ⟨by dsimp only; omega, by dsimp only; omega, h3⟩
    | 1, _, h3 => exact ⟨by dsimp only; omega, by dsimp only; omega, h3⟩
  · simp only [Bool.and_eq_true, beq_iff_eq] at h
    obtain ⟨⟨⟨rfl, rfl⟩, h5⟩, h6⟩ := h
    have e2 : gl ≤ n ∧ -1 ≤ n ∧ (gh < 0 → n < 0) ∧ (0 ≤ n → P n.toNat = some gt) := e2
    rw [h5, Int.add_zero] at h4
    refine ⟨n, ?_, h4⟩
    split at h6
    · rename_i h7
      have h6 := of_decide_eq_true h6
      have := e2.2.2.1 h7
      exact ⟨by dsimp only; omega, e2.2.1, fun _ => this, fun z => absurd z (by omega)⟩
    · simp only [Bool.and_eq_true, beq_iff_eq, decide_eq_true_eq] at h6
      obtain ⟨⟨h8, h9⟩, h10⟩ := h6
      refine ⟨by dsimp only; omega, e2.2.1, fun z => ?_, fun z => ?_⟩
      · dsimp only at z
        omega
      · dsimp only
        rw [← h8]
        exact e2.2.2.2 z
theorem zk_tyb_ok {V : List zk_F} {N : List Int} {P : Nat → Option Nat} (hV : zk_all2 (zk_ok P) V N) {q : zk_S} {ty : FieldType} {c : Int} (hc : zk_tyc ty = c) (h : zk_tyb c V q = true) {v : Value} (hv : zk_sv V N q v) : narrow ty v = v ∧ fits ty v = true := by
  unfold zk_tyb at h
  subst hc
  cases ty
  case int =>
    have h1 : zk_kd V q = 0 := by simpa [zk_tyc] using h
    obtain ⟨n, rfl, -⟩ := hv.int hV h1
    exact ⟨rfl, rfl⟩
  case long =>
    have h1 : zk_kd V q = 1 := by simpa [zk_tyc] using h
    obtain ⟨n, rfl, -⟩ := hv.long hV h1
    exact ⟨rfl, rfl⟩
  case object C =>
    have h1 : 2 ≤ zk_kd V q ∧ zk_kd V q < 99 := by simpa [zk_tyc] using h
    rcases (hv.ref h1.1 h1.2).1 with rfl | ⟨a, rfl⟩ <;> exact ⟨rfl, rfl⟩
  case array C =>
    have h1 : 2 ≤ zk_kd V q ∧ zk_kd V q < 99 := by simpa [zk_tyc] using h
    rcases (hv.ref h1.1 h1.2).1 with rfl | ⟨a, rfl⟩ <;> exact ⟨rfl, rfl⟩
  case boolean =>
    have h1 : zk_kd V q = 0 ∧ 0 ≤ zk_lw V q ∧ zk_hg V q ≤ 1 := by simpa [zk_tyc] using h
    obtain ⟨n, rfl, e2, e3, e4, -⟩ := hv.int hV h1.1
    have : n = 0 ∨ n = 1 := by omega
    rcases this with rfl | rfl <;> exact ⟨by decide, by decide⟩
  case byte =>
    have h1 : zk_kd V q = 0 ∧ -128 ≤ zk_lw V q ∧ zk_hg V q ≤ 127 := by simpa [zk_tyc] using h
    obtain ⟨n, rfl, e2, e3, e4, -⟩ := hv.int hV h1.1
    have e5 : (Int32.ofInt n).toInt8.toInt32 = Int32.ofInt n := by
      rw [← Int32.toInt_inj, Int8.toInt_toInt32]
      have e6 : (Int32.ofInt n).toInt8 = Int8.ofInt n := by
        rw [← Int8.toInt_inj, Int32.toInt_toInt8, zk_i32 e2, Int8.toInt_ofInt]
      rw [e6, zk_i32 e2, Int8.toInt_ofInt_of_le (by omega) (by omega)]
    refine ⟨congrArg Value.int e5, ?_⟩
    show (decide ((-128 : Int32) ≤ Int32.ofInt n) && decide (Int32.ofInt n ≤ 127)) = true
    have e128 : (-128 : Int32) = Int32.ofInt (-128) := by decide
    have e127 : (127 : Int32) = Int32.ofInt 127 := by decide
    rw [Bool.and_eq_true, decide_eq_true_eq, decide_eq_true_eq, e128, e127]
    exact ⟨(zk_le32 (a := -128) (by constructor <;> decide) e2).mpr (by omega), (zk_le32 (b := 127) e2 (by constructor <;> decide)).mpr (by omega)⟩
  case char => simp [zk_tyc] at h
  case short => simp [zk_tyc] at h
  case float => simp [zk_tyc] at h
  case double => simp [zk_tyc] at h
/-- an object not yet made: found, and written -/
theorem zk_rw_find {V : List zk_F} {N : List Int} {P : Nat → Option Nat} {H : Heap} {X : Nat → Prop} {x : Nat} {z : Nat × Nat × List zk_S} : ∀ {r : List (Nat × Nat × List zk_S)} {b : Nat}, zk_rw w X V N P H r b → r.find? (fun z => z.1 == x) = some z → ∃ n : Nat, ∃ fs, N[x]? = some (n : Int) ∧ n < b ∧ (w.2.2.2.1 ≤ n ∧ ¬ X n) ∧ P n = none ∧ va_at w.2.2.1 w.2.1 (n, .inr (z.2.1, fs)) H ∧ zk_all2 (zk_sv V N) z.2.2 fs
  | [], _, _, h => by simp at h
  | q :: r, b, ⟨n, fs, h1, h2, h3, h4, h5, h6, h7⟩, h => by
    rw [List.find?_cons] at h
    split at h
    · rename_i e
      cases h
      have e : z.1 = x := by simpa using e
      exact ⟨n, fs, e ▸ h1, h2, h3, h4, h5, h6⟩
    · obtain ⟨n', fs', g1, g2, g3⟩ := zk_rw_find h7 h
      exact ⟨n', fs', g1, Nat.lt_trans g2 h2, g3⟩
theorem zk_rw_set {V : List zk_F} {N : List Int} {P : Nat → Option Nat} {H H1 : Heap} {X : Nat → Prop} {x k n : Nat} {z : Nat × Nat × List zk_S} {qv : zk_S} {v : Value} {fs0 : List Value} (hx : N[x]? = some (n : Int)) (hv : zk_sv V N qv v) (hat0 : va_at w.2.2.1 w.2.1 (n, .inr (z.2.1, fs0)) H) (hf0 : zk_all2 (zk_sv V N) z.2.2 fs0) (hat : va_at w.2.2.1 w.2.1 (n, .inr (z.2.1, fs0.set k v)) H1) (hk : ∀ q, q ≠ n → H1[q]? = H[q]?) : ∀ {r : List (Nat × Nat × List zk_S)} {b : Nat}, zk_rw w X V N P H r b → r.find? (fun z => z.1 == x) = some z → zk_rw w X V N P H1 (zk_rwset r x k qv) b
  | [], _, _, h => by simp at h
  | q :: r, b, ⟨n', fs, h1, h2, h3, h4, h5, h6, h7⟩, h => by
    rw [List.find?_cons] at h
    split at h
    · rename_i e
      cases h
      have e : z.1 = x := by simpa using e
      unfold zk_rwset
      rw [if_pos e]
      rw [e, hx] at h1
      have e2 : n = n' := by cases h1; omega
      subst e2
      refine ⟨n, fs0.set k v, by rw [e]; exact hx, h2, h3, h4, hat, zk_all2_set2 hv hf0, h7.kept (fun q hq hpn => ⟨hpn, hk q (Nat.ne_of_lt hq)⟩)⟩
    · rename_i e
      have e : ¬ q.1 = x := by simpa using e
      unfold zk_rwset
      rw [if_neg e]
      obtain ⟨n2, fs', g1, g2, g3⟩ := zk_rw_find h7 h
      have e3 : n = n2 := by rw [hx] at g1; cases g1; omega
      refine ⟨n', fs, h1, h2, h3, h4, va_at.kept h5 (hk n' (by omega)), h6, zk_rw_set hx hv hat0 hf0 hat hk h7 h⟩
theorem zk_getR_ok (hx : p.tables.exec = Jvm.exec) (hb : c.code = cc) (hts : ∀ x ∈ Ts, x.before args s = true) (hcl : zk_cls w Ts) (hown : s.vm.findClass own = some m.cls) (hK : va_K w.2.2.1 w.2.1 [] s) {ty : List zk_T} (hw : w.1 = ty) {lk : List zk_L} (hlk : ∀ q ∈ lk, zk_lkok w s args own q) {κ : zk_C} {idx : Nat} {q : zk_S} {r : zk_C × zk_S} (hr : zk_getR ty lk κ idx q = some r) {pc cu su : Nat} (hdg : decode cc pc = .ok (.getfield idx, 3)) {st : List zk_S} (kk : zk_J p l e R s m args below meth c Q w u r.1 (r.2 :: st) cu su (pc + 3)) : zk_J p l e R s m args below meth c Q w u κ (q :: st) cu su pc := by
  intro N P F H locs ls sv hG hS
  have hV := hG.1
  match sv, hS with
  | vq :: sv', hS =>
    unfold zk_getR at hr
    split at hr
    · rename_i e f he hf
      obtain ⟨ek, ei, ci, k, c0⟩ := e
      obtain ⟨e1, e2, e3⟩ := zk_lk_ok hlk he
      dsimp only at e1 e2
      subst e1; subst e2
      obtain ⟨e3, e4⟩ := e3
      dsimp only at e3 e4
      split at hr
      · rename_i hk2
        split at hr
        · rename_i t T hT
          split at hr
          · rename_i hc
            obtain ⟨c1, c2⟩ := hc
            obtain ⟨a, rfl, hna, hp, hwT⟩ := zk_typ_ok hw hV hT hS.1
            obtain ⟨fs, o1, o2, o3, o4⟩ := zk_obj hG.2.2.2.2.1 hp hwT c1
            rw [c2] at o1 o3
            split at hr
            · rename_i r' hr'
              cases hr
              obtain ⟨v, g1, g2⟩ := zk_fnd_ok hG.2.2.1 hr' hna
              rw [o1] at g1
              exact zw_getf hx hb hts hcl hown hK e3 o3 g1 hdg (kk N P F H locs ls _ hG ⟨g2, hS.2⟩)
            · split at hr
              · rename_i ft hft
                split at hr
                · rename_i h3
                  cases hr
                  obtain ⟨v, g1, n, g2, g3⟩ := zk_all2_get o2 hft
                  have hG2 := hG.push g2
                  have hl := zk_le.snoc (V := κ.1) (N := N) ft n
                  have hsv : zk_sv (κ.1 ++ [ft]) (N ++ [n]) (κ.1.length, 0) v := by rw [g3]; exact zk_sv_last hV g2
                  refine zw_getf hx hb hts hcl hown hK e3 o3 g1 hdg (kk (N ++ [n]) P F H locs ls _ ⟨hG2.1, hG2.2.1, fun z hz => ?_, hG2.2.2.2⟩ ⟨hsv, zk_sv_mono hl hS.2⟩)
                  rcases List.mem_cons.mp hz with rfl | hz
                  · exact ⟨(a : Int), t, v, hl.1 _ _ hna, Int.natCast_nonneg _, by rw [Int.toNat_natCast]; exact hp, by rw [Int.toNat_natCast, o1]; exact g1, hsv⟩
                  · exact hG2.2.2.1 z hz
                · cases hr
              · cases hr
          · cases hr
        · cases hr
      · split at hr
        · rename_i hc
          obtain ⟨h3, h0⟩ := hc
          split at hr
          · rename_i z hz
            split at hr
            · rename_i hci
              obtain ⟨r', g1, g2⟩ := Option.map_eq_some_iff.mp hr
              cases g2
              obtain ⟨n, fs, o1, o2, o3, o4, o5, o6⟩ := zk_rw_find hG.2.2.2.1 hz
              obtain ⟨v, g3, g4⟩ := zk_all2_get o6 g1
              have hvq : vq = .ref n := by
                obtain ⟨g, n', y1, y2, y3, y4⟩ := hS.1
                cases hf.symm.trans y1
                rw [o1] at y2
                cases y2
                rw [y4, h3, h0]
                show (if (n : Int) + 0 < 0 then Value.null else Value.ref ((n : Int) + 0).toNat) = _
                rw [if_neg (by omega), Int.add_zero, Int.toNat_natCast]
              subst hvq
              rw [hci] at o5
              exact zw_getf hx hb hts hcl hown hK e3 o5 g3 hdg (kk N P F H locs ls _ hG ⟨g4, hS.2⟩)
            · cases hr
          · cases hr
        · cases hr
    · cases hr
theorem zk_putR_ok (hx : p.tables.exec = Jvm.exec) (hb : c.code = cc) (hts : ∀ x ∈ Ts, x.before args s = true) (hcl : zk_cls w Ts) (hown : s.vm.findClass own = some m.cls) (hK : va_K w.2.2.1 w.2.1 [] s) {ty : List zk_T} (hw : w.1 = ty) {lk : List zk_L} (hlk : ∀ q ∈ lk, zk_lkok w s args own q) {ini : Bool} (hini : ini = true → meth.name = "<init>") {κ κ' : zk_C} {idx : Nat} {qv q : zk_S} (hr : zk_putR ty lk u.2.2.2.1 ini κ idx qv q = some κ') {pc cu su : Nat} (hdg : decode cc pc = .ok (.putfield idx, 3)) {st : List zk_S} (kk : zk_J p l e R s m args below meth c Q w u κ' st cu su (pc + 3)) : zk_J p l e R s m args below meth c Q w u κ (qv :: q :: st) cu su pc := by
  intro N P F H locs ls sv hG hS
  have hV := hG.1
  match sv, hS with
  | vv :: vq :: sv', hS =>
    unfold zk_putR at hr
    split at hr
    · rename_i e f he hf
      obtain ⟨ek, ei, ci, k, c0⟩ := e
      obtain ⟨e1, e2, e3⟩ := zk_lk_ok hlk he
      dsimp only at e1 e2
      subst e1; subst e2
      obtain ⟨e3, C, T0, N0, fty, e4, e5, e6, e7, e8⟩ := e3
      dsimp only at e3 e4 e5 e6 e7 e8
      split at hr
      · rename_i htyb
        have hty : ∀ (C : String) (T : u_T) (N : Nat), w.2.1[ci]? = some (C, T, N) → ∃ ty, parseFieldDescriptor (T k).2.2.1 = some ty ∧ narrow ty vv = vv ∧ fits ty vv = true := by
          intro C' T' N' h
          cases e4.symm.trans h
          exact ⟨fty, e5, zk_tyb_ok hV e6 htyb hS.1⟩
        split at hr
        · rename_i hk2
          split at hr
          · rename_i t T hT
            split at hr
            · rename_i ft hft
              split at hr
              · rename_i hc
                obtain ⟨c1, c2, c3, c4, c5, c6, c7⟩ := hc
                cases hr
                obtain ⟨a, rfl, hna, hp, hwT⟩ := zk_typ_ok hw hV hT hS.2.1
                obtain ⟨fs, o1, o2, o3, o4⟩ := zk_obj hG.2.2.2.2.1 hp hwT c1
                rw [c2] at o1 o3
                have hfv := zk_fits_ok hV c3 hS.1
                have hlen : k < fs.length := by
                  rw [← zk_all2_len o2]
                  exact (List.getElem?_eq_some_iff.mp hft).1
                have hsame : zk_same (fun j => k ≤ j ∧ j ≤ k) (F a) (.inr (ci, fs.set k vv)) := by
                  rw [o1]
                  refine ⟨rfl, by simp, fun j hj => ?_⟩
                  show fs[j]? = (fs.set k vv)[j]?
                  rw [List.getElem?_set_ne (fun h => hj (by omega))]
                refine zw_putf hx hb hts hcl hown hK e3 o3 (fun C' T' N' h => Or.inl ?_) hty hlen hdg (fun H1 j hat hz hk => ?_)
                · cases e4.symm.trans h
                  rw [e7]
                  exact decide_eq_false (by dsimp only at c4; omega)
                · have hmay := zk_mayb_ok c5 hG.2.2.2.2.2.2.2.2.2.1 hG.2.2.2.2.2.2.2.2.2.2.1 hna (Int.natCast_nonneg _)
                  rw [Int.toNat_natCast] at hmay
                  refine kk N P _ H1 _ ls sv' (zk_G.write hG hp hwT ?_ hat hz hk (L := [⟨a, j⟩]) (fun q hq => by rw [List.mem_singleton.mp hq]) hsame (hmay.imp (fun z => z) (fun z j hj => z j (by unfold zk_pm; rw [zk_er_lt (by dsimp only at c7; omega)]; exact hj))) (zk_relp_ok hG c6 hna hp o1 (((zk_wt1.some hwT).mp (hG.2.2.2.2.1 a t hp)).2.2.2) hS.1 hlen) (fun z hz => ?_)) hS.2.2
                  · unfold zk_el
                    rw [c1]
                    refine ⟨fs.set k vv, by rw [c2], zk_all2_setR o2 (fun g hg => ?_)⟩
                    cases hft.symm.trans hg
                    exact hfv
                  · rcases List.mem_cons.mp hz with rfl | hz
                    · refine ⟨(a : Int), t, vv, hna, Int.natCast_nonneg _, by rw [Int.toNat_natCast]; exact hp, ?_, hS.1⟩
                      rw [Int.toNat_natCast, zk_up_self]
                      show (fs.set k vv)[k]? = some vv
                      rw [List.getElem?_set_self hlen]
                    · obtain ⟨z1, z2⟩ := List.mem_filter.mp hz
                      exact zk_fa1_keep hV (hG.2.2.1 z z1) hp hsame z2
              · cases hr
            · cases hr
          · cases hr
        · split at hr
          · rename_i hc
            obtain ⟨h3, h0⟩ := hc
            split at hr
            · rename_i z hz
              split at hr
              · rename_i hc
                obtain ⟨c1, c2, c3⟩ := hc
                cases hr
                obtain ⟨n, fs, o1, o2, o3, o4, o5, o6⟩ := zk_rw_find hG.2.2.2.1 hz
                have hvq : vq = .ref n := by
                  obtain ⟨g, n', y1, y2, y3, y4⟩ := hS.2.1
                  cases hf.symm.trans y1
                  rw [o1] at y2
                  cases y2
                  rw [y4, h3, h0]
                  show (if (n : Int) + 0 < 0 then Value.null else Value.ref ((n : Int) + 0).toNat) = _
                  rw [if_neg (by omega), Int.add_zero, Int.toNat_natCast]
                subst hvq
                rw [c1] at o5
                refine zw_putf hx hb hts hcl hown hK e3 o5 (fun C' T' N' h => ?_) hty (by rw [← zk_all2_len o6]; exact c2) hdg (fun H1 j hat hz1 hk => ?_)
                · cases e4.symm.trans h
                  rw [e7]
                  rcases c3 with c3 | c3
                  · exact Or.inl (decide_eq_false (by dsimp only at c3; omega))
                  · by_cases h16 : 16 ≤ c0
                    · exact Or.inr ⟨decide_eq_true h16, hini c3.1, e8 ⟨h16, c3.2⟩⟩
                    · exact Or.inl (decide_eq_false h16)
                · obtain ⟨g1, g2, g3, g4, g5, g6, g7, g8, g9, g10, g11, g12, g13⟩ := hG
                  refine kk N P F H1 _ ls sv' ⟨g1, g2, g3, ?_, g5.kept (fun q t' hq _ => hk q ?_), g6, g7, g8, ⟨by rw [hz1]; exact g9.1, fun q y1 y2 => ?_, fun q hq => ?_⟩, g10, g11, g12, fun q y1 y2 => ⟨(g13 q y1 y2).1, (hk q (fun e9 => o3.2 (by rw [← e9]; exact ⟨y1, y2⟩))).trans (g13 q y1 y2).2⟩⟩ hS.2.2
                  · rw [hz1]
                    exact zk_rw_set o1 hS.1 (by rw [c1]; exact o5) o6 (by rw [c1]; exact hat) hk g4 hz
                  · intro e9
                    subst e9
                    rw [o4] at hq
                    cases hq
                  · rw [hk q (fun e9 => y2 (by rw [e9]; exact o3.1))]
                    exact g9.2.1 q y1 y2
                  · rcases List.mem_append.mp hq with y | y
                    · exact g9.2.2 q y
                    · rw [List.mem_singleton.mp y]
                      exact o3.1
              · cases hr
            · cases hr
          · cases hr
      · cases hr
    · cases hr
end ZK12
