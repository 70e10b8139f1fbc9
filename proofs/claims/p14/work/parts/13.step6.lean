/-! part 13: steps on arrays; what is made -/
noncomputable def zk_hl : List zk_F → Nat → Nat → Nat → Int × Int
  | [], _, _, _ => (0, 0)
  | f :: r, s, a, b => if a < f.2.1 ∧ s ≤ b then (min f.2.2.1 (zk_hl r f.2.1 a b).1, max f.2.2.2 (zk_hl r f.2.1 a b).2) else zk_hl r f.2.1 a b
theorem zk_hl_ok {a b j : Nat} (h1 : a ≤ j) (h2 : j ≤ b) : ∀ {rs : List zk_F} {s : Nat}, s ≤ j → (zk_hl rs s a b).1 ≤ (zk_rgn rs j).2.2.1 ∧ (zk_rgn rs j).2.2.2 ≤ (zk_hl rs s a b).2
  | [], _, _ => ⟨Int.le_refl _, Int.le_refl _⟩
  | f :: r, s, hs => by
    unfold zk_hl zk_rgn
    by_cases hj : j < f.2.1
    · rw [if_pos hj, if_pos ⟨by omega, by omega⟩]
      dsimp only
      omega
    · rw [if_neg hj]
      have ih := zk_hl_ok h1 h2 (rs := r) (s := f.2.1) (by omega)
      split
      · dsimp only
        omega
      · exact ih
theorem zk_rgn_kd {rs : List zk_F} (h : rs.all (fun f => f.1 == 0) = true) (j : Nat) : (zk_rgn rs j).1 = 0 := by
  induction rs with
  | nil => rfl
  | cons f r ih =>
    simp only [List.all_cons, Bool.and_eq_true, beq_iff_eq] at h
    unfold zk_rgn
    split
    · exact h.1
    · exact ih h.2
theorem zk_mods {p a j b : Nat} (h1 : a ≤ j) (h2 : j ≤ b) (h : a / p = b / p) : a % p ≤ j % p ∧ j % p ≤ b % p := by
  have e1 : a / p ≤ j / p := Nat.div_le_div_right h1
  have e2 : j / p ≤ b / p := Nat.div_le_div_right h2
  have e3 : j / p = a / p := by omega
  have f1 := Nat.div_add_mod a p
  have f2 := Nat.div_add_mod j p
  have f3 := Nat.div_add_mod b p
  rw [e3] at f2
  rw [← h] at f3
  generalize p * (a / p) = z at f1 f2 f3
  omega
noncomputable def zk_rdT (T : zk_T) (lo hi : Int) : Option zk_F :=
  if (zk_f0 T).1 = 9 then
    (if 0 < (zk_f0 T).2.1 ∧ T.2.2.2.tail.all (fun f => f.1 == 0) = true then
      (if lo.toNat / (zk_f0 T).2.1 = hi.toNat / (zk_f0 T).2.1 then some (0, 0, zk_hl T.2.2.2.tail 0 (lo.toNat % (zk_f0 T).2.1) (hi.toNat % (zk_f0 T).2.1)) else some (0, 0, zk_hl T.2.2.2.tail 0 0 (zk_f0 T).2.1))
     else none)
  else some (zk_f0 T)
theorem zk_rdT_ok {P : Nat → Option Nat} {T : zk_T} {lo hi : Int} {g : zk_F} (h : zk_rdT T lo hi = some g) {j : Nat} (h1 : lo ≤ j) (h2 : (j : Int) ≤ hi) {z : Int} (hz : zk_ok P (zk_fj T j) z) : (zk_fj T j).1 = g.1 ∧ zk_ok P g z := by
  unfold zk_rdT at h
  unfold zk_fj at hz ⊢
  split at h
  · rename_i h9
    rw [if_pos h9] at hz ⊢
    split at h
    · rename_i hc
      obtain ⟨c1, c2⟩ := hc
      have hk := zk_rgn_kd c2 (j % (zk_f0 T).2.1)
      have hok : (zk_rgn T.2.2.2.tail (j % (zk_f0 T).2.1)).2.2.1 ≤ z ∧ z ≤ (zk_rgn T.2.2.2.tail (j % (zk_f0 T).2.1)).2.2.2 ∧ zk_rg 0 z := by
        have iv := hz.iv (by rw [hk]; decide)
        have rg := hz.rg
        rw [hk] at rg
        exact ⟨iv.1, iv.2, rg⟩
      split at h
      · rename_i hq
        cases h
        have hm := zk_mods (p := (zk_f0 T).2.1) (a := lo.toNat) (j := j) (b := hi.toNat) (by omega) (by omega) hq
        have hh := zk_hl_ok hm.1 hm.2 (rs := T.2.2.2.tail) (s := 0) (Nat.zero_le _)
        exact ⟨hk, by show _ ≤ z; dsimp only; omega, by show z ≤ _; dsimp only; omega, hok.2.2⟩
      · cases h
        have hh := zk_hl_ok (a := 0) (b := (zk_f0 T).2.1) (j := j % (zk_f0 T).2.1) (Nat.zero_le _) (Nat.le_of_lt (Nat.mod_lt _ c1)) (rs := T.2.2.2.tail) (s := 0) (Nat.zero_le _)
        exact ⟨hk, by show _ ≤ z; dsimp only; omega, by show z ≤ _; dsimp only; omega, hok.2.2⟩
    · cases h
  · rename_i h9
    rw [if_neg h9] at hz ⊢
    cases h
    exact ⟨rfl, hz⟩
noncomputable def zk_fta (V : List zk_F) (q : zk_S) : List zk_F → Nat → Nat → Nat → Bool
  | [], s, _, b => decide (b < s)
  | f :: r, s, a, b => (if a < f.2.1 ∧ s ≤ b then zk_fits V q f else true) && zk_fta V q r f.2.1 a b
theorem zk_fta_ok {V : List zk_F} {q : zk_S} {a b j : Nat} (h1 : a ≤ j) (h2 : j ≤ b) : ∀ {rs : List zk_F} {s : Nat}, zk_fta V q rs s a b = true → s ≤ j → zk_fits V q (zk_rgn rs j) = true
  | [], s, h, hs => by
    have := of_decide_eq_true h
    omega
  | f :: r, s, h, hs => by
    unfold zk_fta at h
    rw [Bool.and_eq_true] at h
    unfold zk_rgn
    split
    · rename_i hj
      have := h.1
      rw [if_pos ⟨by omega, by omega⟩] at this
      exact this
    · rename_i hj
      exact zk_fta_ok h1 h2 h.2 (by omega)
noncomputable def zk_wrT (V : List zk_F) (q : zk_S) (T : zk_T) (lo hi : Int) : Bool :=
  if (zk_f0 T).1 = 9 then decide (0 < (zk_f0 T).2.1) && (if lo.toNat / (zk_f0 T).2.1 = hi.toNat / (zk_f0 T).2.1 then zk_fta V q T.2.2.2.tail 0 (lo.toNat % (zk_f0 T).2.1) (hi.toNat % (zk_f0 T).2.1) else zk_fta V q T.2.2.2.tail 0 0 ((zk_f0 T).2.1 - 1))
  else zk_fits V q (zk_f0 T)
theorem zk_wrT_ok {V : List zk_F} {q : zk_S} {T : zk_T} {lo hi : Int} (h : zk_wrT V q T lo hi = true) {j : Nat} (h1 : lo ≤ j) (h2 : (j : Int) ≤ hi) : zk_fits V q (zk_fj T j) = true := by
  unfold zk_wrT at h
  unfold zk_fj
  split at h
  · rename_i h9
    rw [if_pos h9]
    rw [Bool.and_eq_true] at h
    have c1 := of_decide_eq_true h.1
    have h := h.2
    split at h
    · rename_i hq
      have hm := zk_mods (p := (zk_f0 T).2.1) (a := lo.toNat) (j := j) (b := hi.toNat) (by omega) (by omega) hq
      exact zk_fta_ok hm.1 hm.2 h (Nat.zero_le _)
    · exact zk_fta_ok (Nat.zero_le _) (by have := Nat.mod_lt j c1; omega) h (Nat.zero_le _)
  · rename_i h9
    rw [if_neg h9]
    exact h
/-- the first content fits -/
noncomputable def zk_df0 (f : zk_F) : Bool := if f.1 < 2 then decide (f.2.2.1 ≤ 0) && decide (0 ≤ f.2.2.2) else f.1 == 2 && decide (f.2.2.1 ≤ -1)
noncomputable def zk_dfT (T : zk_T) (k : Nat) : Bool := if (zk_f0 T).1 = 9 then k == 0 && T.2.2.2.tail.all (fun f => f.1 == 0 && zk_df0 f) else (zk_f0 T).1 == k && zk_df0 (zk_f0 T)
theorem zk_df0_ok {P : Nat → Option Nat} {f : zk_F} (h : zk_df0 f = true) : zk_ok P f (if f.1 < 2 then 0 else -1) := by
  unfold zk_df0 at h
  obtain ⟨k, t, lo, hi⟩ := f
  match k, h with
  | 0, h =>
    simp only [Nat.lt_irrefl, if_pos (show 0 < 2 by decide), Bool.and_eq_true, decide_eq_true_eq] at h
    show zk_ok P (0, t, lo, hi) 0
    exact ⟨h.1, h.2, ⟨by decide, by decide⟩⟩
  | 1, h =>
    simp only [if_pos (show 1 < 2 by decide), Bool.and_eq_true, decide_eq_true_eq] at h
    show zk_ok P (1, t, lo, hi) 0
    exact ⟨h.1, h.2, ⟨by decide, by decide⟩⟩
  | 2, h =>
    simp only [if_neg (show ¬ 2 < 2 by decide), Bool.and_eq_true, decide_eq_true_eq] at h
    show zk_ok P (2, t, lo, hi) (-1)
    exact ⟨h.2, by decide, fun _ => by decide, fun z => absurd z (show ¬ (0 : Int) ≤ -1 by decide)⟩
  | k + 3, h =>
    have e : ¬ k + 3 < 2 := by omega
    simp [e] at h
theorem zk_dfT_ok {P : Nat → Option Nat} {T : zk_T} {k : Nat} (h : zk_dfT T k = true) (j : Nat) : (zk_fj T j).1 = k ∧ zk_ok P (zk_fj T j) (if k < 2 then 0 else -1) := by
  unfold zk_dfT at h
  unfold zk_fj
  split at h
  · rename_i h9
    rw [if_pos h9]
    simp only [Bool.and_eq_true, beq_iff_eq] at h
    obtain ⟨rfl, h⟩ := h
    generalize j % (zk_f0 T).2.1 = i
    generalize T.2.2.2.tail = rs at h ⊢
    induction rs with
    | nil =>
      refine ⟨rfl, ?_⟩
      show zk_ok P (0, 0, 0, 0) 0
      exact ⟨Int.le_refl _, Int.le_refl _, ⟨by decide, by decide⟩⟩
    | cons f r ih =>
      simp only [List.all_cons, Bool.and_eq_true, beq_iff_eq] at h
      unfold zk_rgn
      split
      · have := zk_df0_ok (P := P) h.1.2
        rw [h.1.1] at this
        exact ⟨h.1.1, this⟩
      · exact ih h.2
  · rename_i h9
    rw [if_neg h9]
    simp only [Bool.and_eq_true, beq_iff_eq] at h
    have := zk_df0_ok (P := P) h.2
    rw [h.1] at this
    exact ⟨h.1, this⟩
noncomputable def zk_ak (k : Nat) : Nat := if k = 2 then 1 else 0
noncomputable def zk_lk5 (lk : List zk_L) (k : Nat) : Bool := match zk_lk lk 5 k with
  | some e => e.2.2.1 == k
  | none => false
/-- the last place that an index may be at; the code of what is written there -/
noncomputable def zk_hi (V : List zk_F) (qi : zk_S) (T : zk_T) : Int := min (zk_hg V qi) ((T.2.2.1 : Int) - 1)
noncomputable def zk_ac (lo hi : Int) : Nat := if hi < 256 then 3000 + 256 * lo.toNat + hi.toNat else 1001
/-- note 7: what stands at a place that is a number is kept as a fact -/
noncomputable def zk_lds (an : Nat) (κ : zk_C) (qi qa : zk_S) (g : zk_F) : zk_C × zk_S :=
  if an = 7 ∧ zk_lw κ.1 qi = zk_hg κ.1 qi then (match zk_fnd κ qa.1 (2000 + (zk_lw κ.1 qi).toNat) with
    | some r => (κ, r)
    | none => ((κ.1 ++ [g], κ.2.1, (qa.1, 2000 + (zk_lw κ.1 qi).toNat, (κ.1.length, 0)) :: κ.2.2.1, κ.2.2.2), (κ.1.length, 0)))
  else ((κ.1 ++ [g], κ.2), (κ.1.length, 0))
noncomputable def zk_afs (an t : Nat) (κ : zk_C) (qv qi qa : zk_S) (hi : Int) : List (Nat × Nat × zk_S) :=
  if an = 7 ∧ zk_lw κ.1 qi = zk_hg κ.1 qi then (qa.1, 2000 + (zk_lw κ.1 qi).toNat, qv) :: κ.2.2.1.filter (zk_keep κ.1 t (2000 + (zk_lw κ.1 qi).toNat) (2000 + hi.toNat))
  else κ.2.2.1.filter (zk_keep κ.1 t (2000 + (zk_lw κ.1 qi).toNat) (2000 + hi.toNat))
noncomputable def zk_s5 (ty : List zk_T) (lk : List zk_L) (dv : List (List zk_S)) (eff : List (Nat × Nat × Nat)) (rm : Nat × Nat × Nat × Nat) (ini : Bool) (an : Nat) (i : ClassFile.Instr) (len pc : Nat) (κ : zk_C) (st : List zk_S) (cu su : Nat) : Option zk_O := match i, st with
  | .getfield idx, q :: st' => if len = 3 then (zk_getR ty lk κ idx q).map (fun r => (pc + 3, r.1, r.2 :: st', cu, su)) else none
  | .putfield idx, qv :: q :: st' => if len = 3 then (zk_putR ty lk eff ini κ idx qv q).map (fun r => (pc + 3, r, st', cu, su)) else none
  | .iaload, qi :: qa :: st' => match zk_typ ty κ qa with
    | some (_, T) => match zk_rdT T (zk_lw κ.1 qi) (zk_hi κ.1 qi T) with
      | some g => if len = 1 ∧ T.1 = 1 ∧ zk_ix κ qi qa T = true ∧ g.1 = 0 then some (pc + 1, (zk_lds an κ qi qa g).1, (zk_lds an κ qi qa g).2 :: st', cu, su) else none
      | none => none
    | none => none
  | .baload, qi :: qa :: st' => match zk_typ ty κ qa with
    | some (_, T) => match zk_rdT T (zk_lw κ.1 qi) (zk_hi κ.1 qi T) with
      | some g => if len = 1 ∧ T.1 = 4 ∧ zk_ix κ qi qa T = true ∧ g.1 = 0 then some (pc + 1, (κ.1 ++ [g], κ.2), (κ.1.length, 0) :: st', cu, su) else none
      | none => none
    | none => none
  | .laload, qi :: qa :: st' => match zk_typ ty κ qa with
    | some (_, T) => match zk_rdT T (zk_lw κ.1 qi) (zk_hi κ.1 qi T) with
      | some g => if len = 1 ∧ T.1 = 2 ∧ zk_ix κ qi qa T = true ∧ g.1 = 1 then some (pc + 1, (zk_lds an κ qi qa g).1, (zk_lds an κ qi qa g).2 :: st', cu, su) else none
      | none => none
    | none => none
  | .aaload, qi :: qa :: st' => match zk_typ ty κ qa with
    | some (_, T) => match zk_rdT T (zk_lw κ.1 qi) (zk_hi κ.1 qi T) with
      | some g => if len = 1 ∧ T.1 = 3 ∧ zk_ix κ qi qa T = true ∧ g.1 = 2 then some (pc + 1, (κ.1 ++ [g], κ.2), (κ.1.length, 0) :: st', cu, su) else none
      | none => none
    | none => none
  | .iastore, qv :: qi :: qa :: st' => match zk_typ ty κ qa with
    | some (t, T) => if len = 1 ∧ T.1 = 1 ∧ zk_ix κ qi qa T = true ∧ zk_kd κ.1 qv = 0 ∧ zk_wrT κ.1 qv T (zk_lw κ.1 qi) (zk_hi κ.1 qi T) = true ∧ zk_mayb eff κ t (zk_ac (zk_lw κ.1 qi) (zk_hi κ.1 qi T)) qa.1 = true ∧ zk_spb t (zk_hi κ.1 qi T) = true then some (pc + 1, (κ.1, κ.2.1, zk_afs an t κ qv qi qa (zk_hi κ.1 qi T), κ.2.2.2), st', cu, su) else none
    | none => none
  | .bastore, qv :: qi :: qa :: st' => match zk_typ ty κ qa with
    | some (t, T) => if len = 1 ∧ T.1 = 4 ∧ zk_ix κ qi qa T = true ∧ zk_kd κ.1 qv = 0 ∧ zk_wrT κ.1 qv T (zk_lw κ.1 qi) (zk_hi κ.1 qi T) = true ∧ zk_mayb eff κ t (zk_ac (zk_lw κ.1 qi) (zk_hi κ.1 qi T)) qa.1 = true ∧ zk_spb t (zk_hi κ.1 qi T) = true ∧ zk_tyb 3 κ.1 qv = true then some (pc + 1, (κ.1, κ.2.1, zk_afs an t κ qv qi qa (zk_hi κ.1 qi T), κ.2.2.2), st', cu, su) else none
    | none => none
  | .lastore, qv :: qi :: qa :: st' => match zk_typ ty κ qa with
    | some (t, T) => if len = 1 ∧ T.1 = 2 ∧ zk_ix κ qi qa T = true ∧ zk_kd κ.1 qv = 1 ∧ zk_wrT κ.1 qv T (zk_lw κ.1 qi) (zk_hi κ.1 qi T) = true ∧ zk_mayb eff κ t (zk_ac (zk_lw κ.1 qi) (zk_hi κ.1 qi T)) qa.1 = true ∧ zk_spb t (zk_hi κ.1 qi T) = true then some (pc + 1, (κ.1, κ.2.1, zk_afs an t κ qv qi qa (zk_hi κ.1 qi T), κ.2.2.2), st', cu, su) else none
    | none => none
  | .arraylength, qa :: st' => match zk_typ ty κ qa with
    | some (_, T) => if len = 1 ∧ (T.1 = 1 ∨ T.1 = 2 ∨ T.1 = 3 ∨ T.1 = 4) ∧ T.2.2.1 ≤ 2147483647 then (match zk_fnd κ qa.1 1000 with
      | some r => some (pc + 1, κ, r :: st', cu, su)
      | none => some (pc + 1, (κ.1 ++ [(0, 0, (T.2.1 : Int), (T.2.2.1 : Int))], κ.2.1, (qa.1, 1000, (κ.1.length, 0)) :: κ.2.2.1, κ.2.2.2), (κ.1.length, 0) :: st', cu, su)) else none
    | none => none
  | .newarray at', qn :: st' => match ty[an]? with
    | some T => if len = 2 ∧ ((at' = .int ∧ T.1 = 1) ∨ (at' = .long ∧ T.1 = 2) ∨ (at' = .boolean ∧ T.1 = 4)) ∧ zk_lk5 lk T.1 = true ∧ zk_kd κ.1 qn = 0 ∧ (T.2.1 : Int) ≤ zk_lw κ.1 qn ∧ zk_hg κ.1 qn ≤ (T.2.2.1 : Int) ∧ zk_hg κ.1 qn ≤ 1000000 ∧ zk_dfT T (zk_ak T.1) = true ∧ cu + 1 ≤ rm.2.2.1 ∧ su + (zk_hg κ.1 qn).toNat ≤ rm.2.2.2 then
        some (pc + 2, (κ.1 ++ [(2, an, 0, 0)], κ.2.1, [(κ.1.length, 1000, qn)] ++ κ.2.2.1, κ.2.2.2.1, κ.2.2.2.2.1, κ.2.2.2.2.2.1, κ.1.length :: κ.2.2.2.2.2.2), (κ.1.length, 0) :: st', cu + 1, su + (zk_hg κ.1 qn).toNat) else none
    | none => none
  | .anewarray idx, qn :: st' => match ty[an]?, zk_lk lk 4 idx with
    | some T, some e => match ty[(zk_f0 T).2.1]? with
      | some T2 => if len = 3 ∧ T.1 = 3 ∧ T2.1 = 0 ∧ T2.2.1 = e.2.2.1 ∧ zk_kd κ.1 qn = 0 ∧ (T.2.1 : Int) ≤ zk_lw κ.1 qn ∧ zk_hg κ.1 qn ≤ (T.2.2.1 : Int) ∧ zk_hg κ.1 qn ≤ 1000000 ∧ zk_dfT T 2 = true ∧ cu + 1 ≤ rm.2.2.1 ∧ su + (zk_hg κ.1 qn).toNat ≤ rm.2.2.2 then
        some (pc + 3, (κ.1 ++ [(2, an, 0, 0)], κ.2.1, [(κ.1.length, 1000, qn)] ++ κ.2.2.1, κ.2.2.2.1, κ.2.2.2.2.1, κ.2.2.2.2.2.1, κ.1.length :: κ.2.2.2.2.2.2), (κ.1.length, 0) :: st', cu + 1, su + (zk_hg κ.1 qn).toNat) else none
      | none => none
    | _, _ => none
  | .new idx, st' => match zk_lk lk 3 idx with
    | some e => match dv[e.2.2.1]? with
      | some ds => if len = 3 ∧ κ.1[0]? = some (0, 0, 0, 0) ∧ κ.1[1]? = some (1, 0, 0, 0) ∧ κ.1[2]? = some (2, 0, -1, -1) ∧ cu + 1 ≤ rm.2.2.1 ∧ su + e.2.2.2.1 ≤ rm.2.2.2 then
        some (pc + 3, (κ.1 ++ [(3, 0, 0, 0)], κ.2.1, κ.2.2.1, (κ.1.length, e.2.2.1, ds) :: κ.2.2.2.1, κ.2.2.2.2.1, κ.2.2.2.2.2.1, κ.1.length :: κ.2.2.2.2.2.2), (κ.1.length, 0) :: st', cu + 1, su + e.2.2.2.1) else none
      | none => none
    | none => none
  | _, _ => none
