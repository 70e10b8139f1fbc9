/-! part 8au: what the constructors made, by the types that all else has -/
noncomputable def zl_mt (t : Nat) : Nat := if t = 94 then 7 else if t = 95 then 5 else if t = 96 then 55 else if t = 97 then 61 else if t = 98 then 10 else if t = 99 then 0 else if t = 100 then 59 else if t = 101 then 12 else if t = 102 then 13 else if t = 103 then 42 else if t = 104 then 43 else if t = 105 then 44 else if t = 106 then 45 else if t = 107 then 46 else if t = 108 then 47 else if t = 109 then 48 else if t = 110 then 49 else if t = 111 then 50 else if t = 112 then 51 else if t = 113 then 57 else if t = 114 then 29 else if t = 115 then 58 else if t = 116 then 66 else if t = 117 then 2 else if t = 118 then 17 else if t = 119 then 18 else if t = 120 then 19 else if t = 121 then 2 else if t = 122 then 17 else if t = 123 then 18 else if t = 124 then 19 else if t = 125 then 2 else if t = 126 then 17 else if t = 127 then 18 else if t = 128 then 19 else if t = 129 then 2 else if t = 130 then 17 else if t = 131 then 18 else if t = 132 then 19 else if t = 133 then 11 else if t = 134 then 53 else if t = 135 then 54 else if t = 136 then 11 else if t = 137 then 53 else if t = 138 then 54 else if t = 139 then 1 else t
noncomputable def zl_le (f0 f : zk_F) : Bool := f0.1 == f.1 && (if f.1 = 2 then zl_mt f0.2.1 == f.2.1 && (decide (f.2.2.1 ≤ f0.2.2.1) && (decide (0 ≤ f.2.2.2) || decide (f0.2.2.2 < 0))) else decide (f.1 < 2) && (decide (f.2.2.1 ≤ f0.2.2.1) && decide (f0.2.2.2 ≤ f.2.2.2)))
noncomputable def zl_les : List zk_F → List zk_F → Bool
  | [], [] => true
  | f0 :: r0, f :: r => zl_le f0 f && zl_les r0 r
  | _, _ => false
noncomputable def zl_fix (f : zk_F) : Bool := f.1 != 2 || zl_mt f.2.1 == f.2.1
/-- arrays: the same but for what their elements may be -/
noncomputable def zl_tb2 (t : Nat) (T0 T : zk_T) : Bool := match T0.2.2.2, T.2.2.2 with
  | [f0], [f] => (T0.1 == 3 || T0.1 == 4) && (T0.1 == T.1 && (T0.2.1 == T.2.1 && (T0.2.2.1 == T.2.2.1 && (f0.1 != 9 && (f.1 != 9 && (f0.2.1 == f.2.1 && (zl_le f0 f && (t != 59 && t != 60))))))))
  | _, _ => false
/-- .. whose elements' kinds go by regions -/
noncomputable def zl_rgl : List zk_F → List zk_F → Bool
  | [], [] => true
  | f0 :: r0, f :: r => f0.1 == 0 && (f.1 == 0 && (decide (f.2.2.1 ≤ f0.2.2.1) && (decide (f0.2.2.2 ≤ f.2.2.2) && ((f0.2.1 == f.2.1 && zl_rgl r0 r) || (decide (f0.2.1 < f.2.1) && zl_rgl r0 (f :: r))))))
  | _, _ => false
noncomputable def zl_tb3 (t : Nat) (T0 T : zk_T) : Bool := T0.1 == 1 && (T.1 == 1 && (T0.2.1 == 5580 && (T.2.1 == 5580 && (T0.2.2.1 == 5580 && (T.2.2.1 == 5580 && ((zk_f0 T0).1 == 9 && ((zk_f0 T).1 == 9 && ((zk_f0 T0).2.1 == 5580 && ((zk_f0 T).2.1 == 5580 && (zl_rgl T0.2.2.2.tail T.2.2.2.tail && (t != 60 && (List.range 6).all (fun k => (zk_fj T0 (181 + 900 * k)).1 == 0 && (zk_fj T0 (181 + 900 * k)).2.2.2 == 0))))))))))))
/-- arrays of ints: the elements' ranges are wider -/
noncomputable def zl_tb4 (t : Nat) (T0 T : zk_T) : Bool := T0.1 == 1 && (T.1 == 1 && (T0.2.1 == T.2.1 && (T0.2.2.1 == T.2.2.1 && (t != 59 && (t != 60 && (((zk_f0 T0).1 == 9 && ((zk_f0 T).1 == 9 && ((zk_f0 T0).2.1 == (zk_f0 T).2.1 && zl_rgl T0.2.2.2.tail T.2.2.2.tail))) || ((zk_f0 T0).1 == 0 && ((zk_f0 T).1 == 0 && (decide ((zk_f0 T).2.2.1 ≤ (zk_f0 T0).2.2.1) && decide ((zk_f0 T0).2.2.2 ≤ (zk_f0 T).2.2.2))))))))))
noncomputable def zl_tb (t : Nat) : Bool := match zt_types[t]?, zt_types[zl_mt t]? with
  | some T0, some T => if zl_mt t = t then T0.2.2.2.all zl_fix else (T0.1 == 0 && (T.1 == 0 && (T0.2.1 == T.2.1 && zl_les T0.2.2.2 T.2.2.2))) || (zl_tb2 (zl_mt t) T0 T || (zl_tb3 (zl_mt t) T0 T || zl_tb4 (zl_mt t) T0 T))
  | _, _ => false
theorem zl_tbs : (List.range zt_types.length).all zl_tb = true := by decide +kernel
theorem zl_tlen : zt_types.length = 140 := by decide +kernel
theorem zl_okm {P P2 : Nat → Option Nat} (hP : ∀ a t, P a = some t → P2 a = some (zl_mt t)) {f0 f : zk_F} {n : Int} (h : zl_le f0 f = true) (hn : zk_ok P f0 n) : zk_ok P2 f n := by
  obtain ⟨k0, t0, l0, h0⟩ := f0
  obtain ⟨k, t, lo, hi⟩ := f
  unfold zl_le at h
  rw [Bool.and_eq_true, beq_iff_eq] at h
  obtain ⟨e1, h⟩ := h
  dsimp only at e1
  subst e1
  dsimp only at h
  split at h
  · rename_i e2
    subst e2
    simp only [Bool.and_eq_true, Bool.or_eq_true, beq_iff_eq, decide_eq_true_eq] at h
    obtain ⟨e3, e4, e5⟩ := h
    have hn : l0 ≤ n ∧ -1 ≤ n ∧ (h0 < 0 → n < 0) ∧ (0 ≤ n → P n.toNat = some t0) := hn
    refine ⟨by show lo ≤ n; omega, hn.2.1, fun (z : hi < 0) => ?_, fun z => ?_⟩
    · rcases e5 with e5 | e5
      · omega
      · exact hn.2.2.1 e5
    · show P2 n.toNat = some t
      rw [hP _ _ (hn.2.2.2 z), e3]
  · simp only [Bool.and_eq_true, decide_eq_true_eq] at h
    obtain ⟨e3, e4, e5⟩ := h
    match k0, e3, hn with
    | 0, _, hn => exact ⟨Int.le_trans e4 hn.1, Int.le_trans hn.2.1 e5, hn.2.2⟩
    | 1, _, hn => exact ⟨Int.le_trans e4 hn.1, Int.le_trans hn.2.1 e5, hn.2.2⟩
theorem zl_okf {P P2 : Nat → Option Nat} (hP : ∀ a t, P a = some t → P2 a = some (zl_mt t)) {f : zk_F} {n : Int} (h : zl_fix f = true) (hn : zk_ok P f n) : zk_ok P2 f n := by
  obtain ⟨k, t, lo, hi⟩ := f
  unfold zl_fix at h
  simp only [Bool.or_eq_true, bne_iff_ne, beq_iff_eq] at h
  match k, h, hn with
  | 0, _, hn => exact hn
  | 1, _, hn => exact hn
  | 2, h, hn =>
    rcases h with h | h
    · exact absurd rfl h
    · refine ⟨hn.1, hn.2.1, hn.2.2.1, fun z => ?_⟩
      show P2 n.toNat = some t
      rw [hP _ _ (hn.2.2.2 z)]
      exact congrArg some h
  | k + 3, _, hn => exact hn
theorem zl_fvm {P P2 : Nat → Option Nat} (hP : ∀ a t, P a = some t → P2 a = some (zl_mt t)) : ∀ {l0 l : List zk_F} {vs : List Value}, zl_les l0 l = true → zk_all2 (zk_fv P) l0 vs → zk_all2 (zk_fv P2) l vs
  | [], [], [], _, _ => trivial
  | f0 :: r0, f :: r, v :: vs, h, hv => by
    unfold zl_les at h
    rw [Bool.and_eq_true] at h
    obtain ⟨⟨n, h1, h2⟩, h3⟩ := hv
    have e : f0.1 = f.1 := by
      have := h.1
      unfold zl_le at this
      rw [Bool.and_eq_true, beq_iff_eq] at this
      exact this.1
    exact ⟨⟨n, zl_okm hP h.1 h1, by rw [h2, e]⟩, zl_fvm hP h.2 h3⟩
  | [], _ :: _, _, h, _ => by simp [zl_les] at h
  | _ :: _, [], _, h, _ => by simp [zl_les] at h
  | [], [], _ :: _, _, hv => hv.elim
  | _ :: _, _ :: _, [], _, hv => hv.elim
theorem zl_fvf {P P2 : Nat → Option Nat} (hP : ∀ a t, P a = some t → P2 a = some (zl_mt t)) {f : zk_F} {v : Value} (h : zl_fix f = true) (hv : zk_fv P f v) : zk_fv P2 f v := by
  obtain ⟨n, h1, h2⟩ := hv
  exact ⟨n, zl_okf hP h h1, h2⟩
theorem zl_fvs {P P2 : Nat → Option Nat} (hP : ∀ a t, P a = some t → P2 a = some (zl_mt t)) : ∀ {l : List zk_F} {vs : List Value}, l.all zl_fix = true → zk_all2 (zk_fv P) l vs → zk_all2 (zk_fv P2) l vs
  | [], [], _, _ => trivial
  | f :: r, v :: vs, h, hv => by
    rw [List.all_cons, Bool.and_eq_true] at h
    exact ⟨zl_fvf hP h.1 hv.1, zl_fvs hP h.2 hv.2⟩
  | [], _ :: _, _, hv => hv.elim
  | _ :: _, [], _, hv => hv.elim
theorem zl_rgf : ∀ {l : List zk_F} {j : Nat}, l.all zl_fix = true → zl_fix (zk_rgn l j) = true
  | [], _, _ => rfl
  | f :: r, j, h => by
    rw [List.all_cons, Bool.and_eq_true] at h
    unfold zk_rgn
    split
    · exact h.1
    · exact zl_rgf h.2
theorem zl_fjf {T : zk_T} {j : Nat} (h : T.2.2.2.all zl_fix = true) : zl_fix (zk_fj T j) = true := by
  have h0 : zl_fix (zk_f0 T) = true := by
    unfold zk_f0
    cases hl : T.2.2.2 with
    | nil => rfl
    | cons f r =>
      rw [hl, List.all_cons, Bool.and_eq_true] at h
      exact h.1
  unfold zk_fj
  split
  · refine zl_rgf ?_
    cases hl : T.2.2.2 with
    | nil => rfl
    | cons f r =>
      rw [hl, List.all_cons, Bool.and_eq_true] at h
      exact h.2
  · exact h0
theorem zl_elf {w : zk_W} {U : State} {P P2 : Nat → Option Nat} (hP : ∀ a t, P a = some t → P2 a = some (zl_mt t)) {T : zk_T} {e : va_E} (hT : T.2.2.2.all zl_fix = true) (h : zk_el w U P T e) : zk_el w U P2 T e := by
  unfold zk_el at h ⊢
  split at h
  · obtain ⟨fs, h1, h2⟩ := h
    exact ⟨fs, h1, zl_fvs hP hT h2⟩
  · obtain ⟨cA, n, f, h1, h2, h3, h4, h5⟩ := h
    exact ⟨cA, n, f, h1, h2, h3, h4, fun j hj => zl_fvf hP (zl_fjf hT) (h5 j hj)⟩
  · obtain ⟨cA, n, f, h1, h2, h3, h4, h5, h6⟩ := h
    exact ⟨cA, n, f, h1, h2, h3, h4, h5, fun j hj => zl_fvf hP (zl_fjf hT) (h6 j hj)⟩
  · obtain ⟨cA, n, f, h1, h2, h3, h4, h5⟩ := h
    exact ⟨cA, n, f, h1, h2, h3, h4, fun j hj => zl_fvf hP (zl_fjf hT) (h5 j hj)⟩
theorem zl_mt9 {t : Nat} (h : zl_mt t ≠ t) : zl_mt t ≠ 9 := by
  have hd : ∀ t ∈ List.range 140, zl_mt t ≠ t → zl_mt t ≠ 9 := by decide +kernel
  by_cases hl : t < 140
  · exact hd t (List.mem_range.2 hl) h
  · refine absurd ?_ h
    unfold zl_mt
    rw [if_neg (by omega), if_neg (by omega), if_neg (by omega), if_neg (by omega), if_neg (by omega), if_neg (by omega), if_neg (by omega), if_neg (by omega), if_neg (by omega), if_neg (by omega), if_neg (by omega), if_neg (by omega), if_neg (by omega), if_neg (by omega), if_neg (by omega), if_neg (by omega), if_neg (by omega), if_neg (by omega), if_neg (by omega), if_neg (by omega), if_neg (by omega), if_neg (by omega), if_neg (by omega), if_neg (by omega), if_neg (by omega), if_neg (by omega), if_neg (by omega), if_neg (by omega), if_neg (by omega), if_neg (by omega), if_neg (by omega), if_neg (by omega), if_neg (by omega), if_neg (by omega), if_neg (by omega), if_neg (by omega), if_neg (by omega), if_neg (by omega), if_neg (by omega), if_neg (by omega), if_neg (by omega), if_neg (by omega), if_neg (by omega), if_neg (by omega), if_neg (by omega), if_neg (by omega)]
theorem zl_rel9 : zk_rel.all (fun r => r.1 == 9) = true := by decide +kernel
noncomputable def zl_Pm (P : Nat → Option Nat) (a : Nat) : Option Nat := (P a).map zl_mt
theorem zl_Pme {P : Nat → Option Nat} {a t : Nat} (h : P a = some t) : zl_Pm P a = some (zl_mt t) := by
  unfold zl_Pm
  rw [h]
  rfl
theorem zl_el2 {w : zk_W} {U : State} {P P2 : Nat → Option Nat} (hP : ∀ a t, P a = some t → P2 a = some (zl_mt t)) {T0 T : zk_T} {t : Nat} {F2 : Nat → va_E} {e : va_E} (hb : zl_tb2 t T0 T = true) (h : zk_el w U P T0 e) : zk_el w U P2 T e ∧ zk_rl P2 F2 t e := by
  obtain ⟨k0, p0, q0, l0⟩ := T0
  obtain ⟨k, p, q, l⟩ := T
  unfold zl_tb2 at hb
  dsimp only at hb
  split at hb
  · rename_i f0 f
    simp only [Bool.and_eq_true, Bool.or_eq_true, beq_iff_eq, bne_iff_ne] at hb
    obtain ⟨b1, rfl, rfl, rfl, b5, b6, b7, b8, b9, b10⟩ := hb
    have j0 : ∀ j, zk_fj (k0, p0, q0, [f0]) j = f0 := fun j => by
      unfold zk_fj zk_f0
      exact if_neg b5
    have j1 : ∀ j, zk_fj (k0, p0, q0, [f]) j = f := fun j => by
      unfold zk_fj zk_f0
      exact if_neg b6
    have hfv : ∀ v, zk_fv P f0 v → zk_fv P2 f v := fun v hv => by
      obtain ⟨n, h1, h2⟩ := hv
      have e : f0.1 = f.1 := by
        have := b8
        unfold zl_le at this
        rw [Bool.and_eq_true, beq_iff_eq] at this
        exact this.1
      exact ⟨n, zl_okm hP b8 h1, by rw [h2, e]⟩
    have hrn : zk_rn w (k0, p0, q0, [f]) = zk_rn w (k0, p0, q0, [f0]) := by
      unfold zk_rn zk_f0
      dsimp only [List.headD]
      rw [b7]
    rcases b1 with rfl | rfl
    · obtain ⟨cA, n, g, h1, h2, h3, h4, h5, h6⟩ := h
      refine ⟨⟨cA, n, g, h1, h2, h3, by rw [hrn]; exact h4, by rw [hrn]; exact h5, fun j hj => ?_⟩, by rw [h1]; trivial⟩
      have := h6 j hj
      rw [j0] at this
      rw [j1]
      exact hfv _ this
    · obtain ⟨cA, n, g, h1, h2, h3, h4, h5⟩ := h
      refine ⟨⟨cA, n, g, h1, h2, h3, h4, fun j hj => ?_⟩, ?_⟩
      · have := h5 j hj
        rw [j0] at this
        rw [j1]
        exact hfv _ this
      · rw [h1]
        exact ⟨fun z => absurd z b9, fun z => absurd z b10⟩
  · cases hb
theorem zl_rgl_ok {P P2 : Nat → Option Nat} {v : Value} : ∀ {l0 l : List zk_F} {j : Nat}, zl_rgl l0 l = true → zk_fv P (zk_rgn l0 j) v → zk_fv P2 (zk_rgn l j) v
  | [], [], _, _, h => h
  | f0 :: r0, f :: r, j, hb, h => by
    unfold zl_rgl at hb
    simp only [Bool.and_eq_true, Bool.or_eq_true, beq_iff_eq, decide_eq_true_eq] at hb
    obtain ⟨b1, b2, b4, b5, b6⟩ := hb
    have step : j < f0.2.1 → j < f.2.1 → zk_fv P2 (zk_rgn (f :: r) j) v := fun hj hj2 => by
      unfold zk_rgn at h ⊢
      rw [if_pos hj] at h
      rw [if_pos hj2]
      obtain ⟨n, h1, h2⟩ := h
      obtain ⟨k0, t0, l0', h0'⟩ := f0
      obtain ⟨k1, t1, l1, h1'⟩ := f
      dsimp only at b1 b2 b4 b5
      subst b1
      subst b2
      exact ⟨n, ⟨Int.le_trans b4 h1.1, Int.le_trans h1.2.1 b5, h1.2.2⟩, h2⟩
    by_cases hj : j < f0.2.1
    · exact step hj (by rcases b6 with b6 | b6 <;> omega)
    · rw [zk_rgn, if_neg hj] at h
      rcases b6 with ⟨b3, b6⟩ | ⟨b3, b6⟩
      · rw [zk_rgn, if_neg (by omega)]
        exact zl_rgl_ok b6 h
      · exact zl_rgl_ok b6 h
  | [], _ :: _, _, hb, _ => by simp [zl_rgl] at hb
  | _ :: _, [], _, hb, _ => by simp [zl_rgl] at hb
theorem zl_el3 {w : zk_W} {U : State} {P P2 : Nat → Option Nat} {T0 T : zk_T} {t : Nat} {F2 : Nat → va_E} {e : va_E} (hb : zl_tb3 t T0 T = true) (h : zk_el w U P T0 e) : zk_el w U P2 T e ∧ zk_rl P2 F2 t e := by
  unfold zl_tb3 at hb
  simp only [Bool.and_eq_true, beq_iff_eq, bne_iff_ne] at hb
  obtain ⟨b1, b2, b3, b4, b5, b6, b7, b8, b9, b10, b11, b12, b13⟩ := hb
  unfold zk_el at h
  rw [b1] at h
  obtain ⟨cA, n, g, h1, h2, h3, h4, h5⟩ := h
  have hn : n = 5580 := by omega
  subst hn
  refine ⟨?_, ?_⟩
  · unfold zk_el
    rw [b2]
    refine ⟨cA, 5580, g, h1, by omega, by omega, h4, fun j hj => ?_⟩
    have h6 := h5 j hj
    unfold zk_fj at h6 ⊢
    rw [if_pos b7, b9] at h6
    rw [if_pos b8, b10]
    exact zl_rgl_ok b11 h6
  · rw [h1]
    refine ⟨fun _ k hk c _ hc => ?_, fun z => absurd z b12⟩
    exfalso
    have h6 := h5 (181 + 900 * k) (by omega)
    have h7 := List.all_eq_true.mp b13 k (List.mem_range.mpr hk)
    simp only [Bool.and_eq_true, beq_iff_eq] at h7
    obtain ⟨z, z1, z2⟩ := h6
    generalize zk_fj T0 (181 + 900 * k) = f at h7 z1 z2
    obtain ⟨fk, ft, fl, fh⟩ := f
    obtain ⟨rfl, rfl⟩ := h7
    have z1 : fl ≤ z ∧ z ≤ 0 ∧ zk_rg 0 z := z1
    have z2 : Value.int (g (181 + 900 * k)) = .int (Int32.ofInt z) := z2
    have e : g (181 + 900 * k) = Int32.ofInt z := by injection z2
    have hc : (c : Int) < (g (0 + 180 + 900 * k + 1)).toInt := hc
    rw [show 0 + 180 + 900 * k + 1 = 181 + 900 * k by omega, e, zk_i32 z1.2.2] at hc
    omega
theorem zl_el4 {w : zk_W} {U : State} {P P2 : Nat → Option Nat} {T0 T : zk_T} {t : Nat} {F2 : Nat → va_E} {e : va_E} (hb : zl_tb4 t T0 T = true) (h : zk_el w U P T0 e) : zk_el w U P2 T e ∧ zk_rl P2 F2 t e := by
  unfold zl_tb4 at hb
  simp only [Bool.and_eq_true, Bool.or_eq_true, beq_iff_eq, bne_iff_ne, decide_eq_true_eq] at hb
  obtain ⟨b1, b2, b3, b4, b5, b6, b7⟩ := hb
  unfold zk_el at h
  rw [b1] at h
  obtain ⟨cA, n, g, h1, h2, h3, h4, h5⟩ := h
  refine ⟨?_, ?_⟩
  · unfold zk_el
    rw [b2]
    refine ⟨cA, n, g, h1, by rw [← b3]; exact h2, by rw [← b4]; exact h3, h4, fun j hj => ?_⟩
    have h6 := h5 j hj
    unfold zk_fj at h6 ⊢
    rcases b7 with ⟨c1, c2, c3, c4⟩ | ⟨c1, c2, c3, c4⟩
    · rw [if_pos c1, c3] at h6
      rw [if_pos c2]
      exact zl_rgl_ok c4 h6
    · have d1 : ¬(zk_f0 T0).1 = 9 := by rw [c1]; decide
      have d2 : ¬(zk_f0 T).1 = 9 := by rw [c2]; decide
      rw [if_neg d1] at h6
      rw [if_neg d2]
      obtain ⟨z, z1, z2⟩ := h6
      clear d1 d2
      generalize zk_f0 T0 = f0 at c1 c3 c4 z1 z2
      generalize zk_f0 T = f at c2 c3 c4 ⊢
      obtain ⟨k0, t0, l0, h0⟩ := f0
      obtain ⟨k1, t1, l1, h1'⟩ := f
      dsimp only at c1 c2 c3 c4
      subst c1
      subst c2
      exact ⟨z, ⟨Int.le_trans c3 z1.1, Int.le_trans z1.2.1 c4, z1.2.2⟩, z2⟩
  · rw [h1]
    exact ⟨fun z => absurd z b5, fun z => absurd z b6⟩
theorem zl_retype {w : zk_W} {U : State} {P : Nat → Option Nat} {F : Nat → va_E} {H : Heap} (hw : w.1 = zt_types) (hwt : zk_wt w U P F H) : zk_wt w U (zl_Pm P) F H := by
  intro a t hp
  have hP : ∀ a t, P a = some t → zl_Pm P a = some (zl_mt t) := fun a t h => zl_Pme h
  cases hp0 : P a with
  | none =>
    unfold zl_Pm at hp
    rw [hp0] at hp
    cases hp
  | some t0 =>
    have e := (zl_Pme hp0).symm.trans hp
    have e : zl_mt t0 = t := Option.some.inj e
    subst e
    have h := hwt a t0 hp0
    unfold zk_wt1 at h ⊢
    rw [hw] at h ⊢
    cases hT0 : zt_types[t0]? with
    | none =>
      have hl : 140 ≤ t0 := by
        have := List.getElem?_eq_none_iff.mp hT0
        rwa [zl_tlen] at this
      have em : zl_mt t0 = t0 := by
        unfold zl_mt
        rw [if_neg (by omega), if_neg (by omega), if_neg (by omega), if_neg (by omega), if_neg (by omega), if_neg (by omega), if_neg (by omega), if_neg (by omega), if_neg (by omega), if_neg (by omega), if_neg (by omega), if_neg (by omega), if_neg (by omega), if_neg (by omega), if_neg (by omega), if_neg (by omega), if_neg (by omega), if_neg (by omega), if_neg (by omega), if_neg (by omega), if_neg (by omega), if_neg (by omega), if_neg (by omega), if_neg (by omega), if_neg (by omega), if_neg (by omega), if_neg (by omega), if_neg (by omega), if_neg (by omega), if_neg (by omega), if_neg (by omega), if_neg (by omega), if_neg (by omega), if_neg (by omega), if_neg (by omega), if_neg (by omega), if_neg (by omega), if_neg (by omega), if_neg (by omega), if_neg (by omega), if_neg (by omega), if_neg (by omega), if_neg (by omega), if_neg (by omega), if_neg (by omega), if_neg (by omega)]
      rw [em, hT0]
      rw [hT0] at h
      exact h
    | some T0 =>
      rw [hT0] at h
      obtain ⟨h1, h2, h3, h4⟩ := h
      have hb := List.all_eq_true.mp zl_tbs t0 (List.mem_range.mpr (List.getElem?_eq_some_iff.mp hT0).1)
      unfold zl_tb at hb
      rw [hT0] at hb
      cases hT : zt_types[zl_mt t0]? with
      | none => rw [hT] at hb; cases hb
      | some T =>
        rw [hT] at hb
        dsimp only at hb
        split at hb
        · rename_i em
          rw [em, hT0] at hT
          cases hT
          rw [em]
          exact ⟨zl_elf hP hb h1, h2, h3, h4.step (fun b t hb => ⟨_, hP b t hb⟩) (fun b t cA x hb hF => ⟨cA, x, hF, rfl⟩)⟩
        · rename_i em
          rw [Bool.or_eq_true] at hb
          rcases hb with hb | hb
          rotate_left
          · rw [Bool.or_eq_true] at hb
            rcases hb with hb | hb
            · exact ⟨(zl_el2 (F2 := F) hP hb h1).1, h2, h3, (zl_el2 (F2 := F) hP hb h1).2⟩
            · rw [Bool.or_eq_true] at hb
              rcases hb with hb | hb
              · exact ⟨(zl_el3 (F2 := F) hb h1).1, h2, h3, (zl_el3 (F2 := F) hb h1).2⟩
              · exact ⟨(zl_el4 (F2 := F) hb h1).1, h2, h3, (zl_el4 (F2 := F) hb h1).2⟩
          simp only [Bool.and_eq_true, beq_iff_eq] at hb
          obtain ⟨b1, b2, b3, b4⟩ := hb
          unfold zk_el at h1
          rw [b1] at h1
          obtain ⟨fs, q1, q2⟩ := h1
          refine ⟨?_, h2, h3, ?_⟩
          · unfold zk_el
            rw [b2]
            exact ⟨fs, by rw [← b3]; exact q1, zl_fvm hP b4 q2⟩
          · rw [q1]
            intro r hr ht
            have := List.all_eq_true.mp zl_rel9 r hr
            rw [beq_iff_eq] at this
            exact absurd (ht.symm.trans this) (zl_mt9 em)
