/-! part 19: what is known fits a marked place; measures -/
abbrev zk_Lf : Type := Int × List (Int × Nat)
/-- a marked place: pc, what is known, the stack, cells and slots made so far, a measure that falls -/
abbrev zk_An : Type := Nat × zk_C × List zk_S × Nat × Nat × zk_Lf
noncomputable def zk_lev (N : List Int) : List (Int × Nat) → Int
  | [] => 0
  | t :: r => t.1 * N.getD t.2 0 + zk_lev N r
noncomputable def zk_ladd (t : Int × Nat) : List (Int × Nat) → List (Int × Nat)
  | [] => [t]
  | v :: r => if v.2 = t.2 then (v.1 + t.1, v.2) :: r else v :: zk_ladd t r
theorem zk_ladd_ok {N : List Int} {t : Int × Nat} : ∀ {l : List (Int × Nat)}, zk_lev N (zk_ladd t l) = t.1 * N.getD t.2 0 + zk_lev N l
  | [] => rfl
  | v :: r => by
    unfold zk_ladd
    split
    · rename_i h
      show (v.1 + t.1) * N.getD v.2 0 + zk_lev N r = t.1 * N.getD t.2 0 + (v.1 * N.getD v.2 0 + zk_lev N r)
      rw [h, Int.add_mul]
      omega
    · show v.1 * N.getD v.2 0 + zk_lev N (zk_ladd t r) = t.1 * N.getD t.2 0 + (v.1 * N.getD v.2 0 + zk_lev N r)
      rw [zk_ladd_ok]
      omega
noncomputable def zk_lall (l : List (Int × Nat)) : List (Int × Nat) → List (Int × Nat)
  | [] => l
  | t :: r => zk_ladd t (zk_lall l r)
theorem zk_lall_ok {N : List Int} {l : List (Int × Nat)} : ∀ {r : List (Int × Nat)}, zk_lev N (zk_lall l r) = zk_lev N r + zk_lev N l
  | [] => by simp [zk_lall, zk_lev]
  | t :: r => by
    show zk_lev N (zk_ladd t (zk_lall l r)) = (t.1 * N.getD t.2 0 + zk_lev N r) + zk_lev N l
    rw [zk_ladd_ok, zk_lall_ok]
    omega
/-- a lower bound by the variables' bounds; none where there is none -/
noncomputable def zk_lbd (V : List zk_F) : List (Int × Nat) → Option Int
  | [] => some 0
  | t :: r => match zk_lbd V r with
    | none => none
    | some b => if t.1 = 0 then some b else match V[t.2]? with
      | some f => if f.1 < 2 then some (b + (if 0 < t.1 then t.1 * f.2.2.1 else t.1 * f.2.2.2)) else none
      | none => none
theorem zk_lbd_ok {P : Nat → Option Nat} {V : List zk_F} {N : List Int} (hV : zk_all2 (zk_ok P) V N) : ∀ {l : List (Int × Nat)} {b : Int}, zk_lbd V l = some b → b ≤ zk_lev N l
  | [], b, h => by
    cases h
    exact Int.le_refl _
  | t :: r, b, h => by
    unfold zk_lbd at h
    split at h
    · cases h
    · rename_i b' hb'
      have ih := zk_lbd_ok hV hb'
      show b ≤ t.1 * N.getD t.2 0 + zk_lev N r
      split at h
      · rename_i h0
        cases h
        rw [h0]
        omega
      · rename_i h0
        split at h
        · rename_i f hf
          split at h
          · rename_i hk
            cases h
            obtain ⟨n, e1, e2⟩ := zk_all2_get hV hf
            have iv := e2.iv hk
            have e3 : N.getD t.2 0 = n := by rw [List.getD_eq_getElem?_getD, e1]; rfl
            rw [e3]
            by_cases hp : 0 < t.1
            · rw [if_pos hp]
              have := Int.mul_le_mul_of_nonneg_left iv.1 (Int.le_of_lt hp)
              omega
            · rw [if_neg hp]
              have := Int.mul_le_mul_of_nonpos_left (a := t.1) (by omega) iv.2
              omega
          · cases h
        · cases h
theorem zk_getD_pre {N N' : List Int} (h : ∀ (i : Nat) (n : Int), N[i]? = some n → N'[i]? = some n) {x : Nat} (hx : x < N.length) : N'.getD x 0 = N.getD x 0 := by
  have e : N[x]? = some N[x] := List.getElem?_eq_getElem hx
  rw [List.getD_eq_getElem?_getD, List.getD_eq_getElem?_getD, e, h x _ e]
theorem zk_lev_pre {N N' : List Int} (h : ∀ (i : Nat) (n : Int), N[i]? = some n → N'[i]? = some n) : ∀ {l : List (Int × Nat)}, l.all (fun t => decide (t.2 < N.length)) = true → zk_lev N' l = zk_lev N l
  | [], _ => rfl
  | t :: r, hl => by
    simp only [List.all_cons, Bool.and_eq_true, decide_eq_true_eq] at hl
    show t.1 * N'.getD t.2 0 + zk_lev N' r = t.1 * N.getD t.2 0 + zk_lev N r
    rw [zk_getD_pre h hl.1, zk_lev_pre h (by simpa using hl.2)]
/-- the values of the marked place's variables, out of what is known: by locals, the stack, fields, objects not yet made -/
noncomputable def zk_th1v (κ : zk_C) (st : List zk_S) (A : zk_An) (acc : List zk_S) (z : Nat) : zk_S :=
  if z < 3 then (z, 0) else
  match A.2.1.2.2.2.2.1.find? (fun q => q.2.1 == z && q.2.2 == 0) with
  | some q => (match κ.2.2.2.2.1.find? (fun r => r.1 == q.1) with
    | some r => r.2
    | none => (0, 0))
  | none => match (A.2.2.1.zip st).find? (fun q => q.1.1 == z && q.1.2 == 0) with
    | some q => q.2
    | none => match A.2.1.2.2.1.find? (fun q => q.2.2.1 == z && q.2.2.2 == 0) with
      | some q => (match acc[q.1]? with
        | some y => (match zk_fnd κ y.1 q.2.1 with
          | some r => r
          | none => (0, 0))
        | none => (0, 0))
      | none => match A.2.1.2.2.2.2.2.1.find? (fun q => q.2 == z) with
        | some q => (match κ.2.2.2.2.2.1.find? (fun r => r.1 == q.1) with
          | some r => (r.2, 0)
          | none => (0, 0))
        | none => match ((A.2.1.2.2.2.1.zip κ.2.2.2.1).flatMap (fun q => (q.1.2.2.zip q.2.2.2))).find? (fun q => q.1.1 == z && q.1.2 == 0) with
          | some q => q.2
          | none => match (A.2.1.2.2.2.1.zip κ.2.2.2.1).find? (fun q => q.1.1 == z) with
            | some q => (q.2.1, 0)
            | none => (0, 0)
noncomputable def zk_thv (κ : zk_C) (st : List zk_S) (A : zk_An) : Nat → List zk_S
  | 0 => []
  | k + 1 => let acc := zk_thv κ st A k; acc ++ [zk_th1v κ st A acc k]
noncomputable def zk_sub (θ : List zk_S) (q : zk_S) : Option zk_S := match θ[q.1]? with
  | some r => some (r.1, r.2 + q.2)
  | none => none
noncomputable def zk_leb (κ : zk_C) (a b : zk_S) (d : Int) : Bool := decide (zk_kd κ.1 a < 2) && decide (zk_kd κ.1 b < 2) && (decide (zk_hg κ.1 a ≤ zk_lw κ.1 b + d) || (a.1 == b.1 && decide (a.2 ≤ b.2 + d)) || κ.2.1.any (fun q => q.1 == a.1 && q.2.1 == b.1 && decide (q.2.2 + a.2 ≤ b.2 + d)))
noncomputable def zk_vfit (V : List zk_F) (q : zk_S) (f : zk_F) : Bool := if f.1 = 3 then zk_kd V q == 3 && q.2 == 0 else zk_fits V q f && (if f.1 = 0 then decide (zk_m31 ≤ f.2.2.1) && decide (f.2.2.2 ≤ zk_p31) else if f.1 = 1 then decide (-9223372036854775808 ≤ f.2.2.1) && decide (f.2.2.2 ≤ 9223372036854775807) else true)
noncomputable def zk_vfits (V : List zk_F) : List zk_S → List zk_F → Bool
  | [], [] => true
  | q :: qs, f :: fs => zk_vfit V q f && zk_vfits V qs fs
  | _, _ => false
noncomputable def zk_subs (θ : List zk_S) : List zk_S → List zk_S → Bool
  | [], [] => true
  | a :: as, b :: bs => decide (zk_sub θ a = some b) && zk_subs θ as bs
  | _, _ => false
noncomputable def zk_mrw (θ : List zk_S) : List (Nat × Nat × List zk_S) → List (Nat × Nat × List zk_S) → Bool
  | [], _ => true
  | a :: as, b :: bs => decide (zk_sub θ (a.1, 0) = some (b.1, 0)) && decide (a.2.1 = b.2.1) && zk_subs θ a.2.2 b.2.2 && zk_mrw θ as bs
  | _, _ => false
/-- all that the marked place asks is known -/
noncomputable def zk_mt (κ : zk_C) (st : List zk_S) (cu su : Nat) (A : zk_An) (θ : List zk_S) : Bool :=
  zk_vfits κ.1 θ A.2.1.1
  && A.2.1.2.2.2.2.1.all (fun q => match zk_sub θ q.2 with
    | some r => κ.2.2.2.2.1.contains (q.1, r)
    | none => false)
  && zk_subs θ A.2.2.1 st
  && A.2.1.2.1.all (fun d => match zk_sub θ (d.1, 0), zk_sub θ (d.2.1, 0) with
    | some a, some b => zk_leb κ a b d.2.2
    | _, _ => false)
  && A.2.1.2.2.1.all (fun q => match zk_sub θ (q.1, 0), zk_sub θ q.2.2 with
    | some a, some b => a.2 == 0 && κ.2.2.1.contains (a.1, q.2.1, b)
    | _, _ => false)
  && zk_mrw θ A.2.1.2.2.2.1 κ.2.2.2.1
  && A.2.1.2.2.2.2.2.1.all (fun q => match zk_sub θ (q.2, 0) with
    | some a => a.2 == 0 && κ.2.2.2.2.2.1.contains (q.1, a.1)
    | none => false)
  && A.2.1.2.2.2.2.2.2.all (fun z => match zk_sub θ (z, 0) with
    | some a => a.2 == 0 && κ.2.2.2.2.2.2.contains a.1
    | none => false)
  && decide (cu ≤ A.2.2.2.1) && decide (su ≤ A.2.2.2.2.1)
noncomputable def zk_lsub (θ : List zk_S) : List (Int × Nat) → Option zk_Lf
  | [] => some (0, [])
  | t :: r => match zk_sub θ (t.2, 0), zk_lsub θ r with
    | some q, some l => some (l.1 + t.1 * q.2, (t.1, q.1) :: l.2)
    | _, _ => none
/-- by the differences: pairs of variables go -/
noncomputable def zk_cof (l : List (Int × Nat)) (x : Nat) : Int := match l with
  | [] => 0
  | t :: r => (if t.2 = x then t.1 else 0) + zk_cof r x
theorem zk_cof_ok {N : List Int} {x : Nat} : ∀ {l : List (Int × Nat)}, zk_lev N l = zk_cof l x * N.getD x 0 + zk_lev N (l.filter (fun t => t.2 != x))
  | [] => by simp [zk_lev, zk_cof]
  | t :: r => by
    have ih := zk_cof_ok (N := N) (x := x) (l := r)
    unfold zk_cof
    show t.1 * N.getD t.2 0 + zk_lev N r = _
    by_cases h : t.2 = x
    · rw [if_pos h, List.filter_cons_of_neg (by simp [h]), ih, h, Int.add_mul]
      omega
    · rw [if_neg h, List.filter_cons_of_pos (by simpa using h), Int.zero_add]
      show _ = _ + (t.1 * N.getD t.2 0 + zk_lev N (r.filter _))
      omega
noncomputable def zk_lel : List (Nat × Nat × Int) → zk_Lf → zk_Lf
  | [], l => l
  | d :: D, l => if zk_cof l.2 d.1 < 0 ∧ zk_cof l.2 d.2.1 = -(zk_cof l.2 d.1) ∧ d.1 ≠ d.2.1 then zk_lel D (l.1 + zk_cof l.2 d.1 * d.2.2, (l.2.filter (fun t => t.2 != d.1)).filter (fun t => t.2 != d.2.1)) else zk_lel D l
theorem zk_cof_filter {x y : Nat} (h : x ≠ y) : ∀ {l : List (Int × Nat)}, zk_cof (l.filter (fun t => t.2 != y)) x = zk_cof l x
  | [] => rfl
  | t :: r => by
    by_cases e : t.2 = y
    · rw [List.filter_cons_of_neg (by simp [e]), zk_cof_filter h]
      show _ = (if t.2 = x then t.1 else 0) + zk_cof r x
      rw [if_neg (by omega), Int.zero_add]
    · rw [List.filter_cons_of_pos (by simpa using e)]
      show (if t.2 = x then t.1 else 0) + zk_cof (r.filter _) x = (if t.2 = x then t.1 else 0) + zk_cof r x
      rw [zk_cof_filter h]
theorem zk_lel_ok {N : List Int} : ∀ {D : List (Nat × Nat × Int)} {l : zk_Lf}, zk_df N D → (zk_lel D l).1 + zk_lev N (zk_lel D l).2 ≤ l.1 + zk_lev N l.2
  | [], l, _ => Int.le_refl _
  | d :: D, l, h => by
    have ih := fun l => zk_lel_ok (N := N) (D := D) (l := l) (fun q hq => h q (List.mem_cons_of_mem _ hq))
    unfold zk_lel
    split
    · rename_i hc
      obtain ⟨h1, h2, h3⟩ := hc
      refine Int.le_trans (ih _) ?_
      dsimp only
      obtain ⟨n, k, e1, e2, e3⟩ := h d List.mem_cons_self
      have c1 := zk_cof_ok (N := N) (x := d.1) (l := l.2)
      have c2 := zk_cof_ok (N := N) (x := d.2.1) (l := l.2.filter (fun t => t.2 != d.1))
      rw [zk_cof_filter (Ne.symm h3), h2] at c2
      have g1 : N.getD d.1 0 = n := by rw [List.getD_eq_getElem?_getD, e1]; rfl
      have g2 : N.getD d.2.1 0 = k := by rw [List.getD_eq_getElem?_getD, e2]; rfl
      rw [g1] at c1
      rw [g2] at c2
      rw [c1, c2]
      generalize zk_cof l.2 d.1 = a at h1 ⊢
      have e4 : a * (k + d.2.2) ≤ a * n := Int.mul_le_mul_of_nonpos_left (by omega) e3
      rw [Int.mul_add] at e4
      rw [Int.neg_mul]
      omega
    · exact ih l
/-- the measure falls -/
noncomputable def zk_fallb (V : List zk_F) (l : zk_Lf) : Bool := match zk_lbd V l.2 with
  | some b => decide (1 ≤ l.1 + b)
  | none => false
noncomputable def zk_fall (κ : zk_C) (M0 : Option zk_Lf) (A : zk_An) (θ : List zk_S) : Bool := match M0 with
  | none => true
  | some M => match zk_lsub θ A.2.2.2.2.2.2 with
    | some l => zk_fallb κ.1 (M.1 - A.2.2.2.2.2.1 - l.1, zk_lall M.2 (l.2.map (fun t => (-t.1, t.2)))) || zk_fallb κ.1 (zk_lel κ.2.1 (M.1 - A.2.2.2.2.2.1 - l.1, zk_lall M.2 (l.2.map (fun t => (-t.1, t.2)))))
    | none => false
section ZK19
variable {p : Program} {l : Launch} {e : Env} {R : Room} {s : State} {m : MethodId} {args : Array Value} {below : List Frame} {meth : Method} {c : Code} {Q : State → Prop}
variable {cc : ByteArray} {w : zk_W} {u : zk_M} {Ts : List Jvm.Cond} {own : String}
noncomputable def zk_val (N : List Int) (q : zk_S) : Int := N.getD q.1 0 + q.2
theorem zk_val_ok {N : List Int} {q : zk_S} {k : Int} (h : N[q.1]? = some k) : zk_val N q = k + q.2 := by
  unfold zk_val
  rw [List.getD_eq_getElem?_getD, h]
  rfl
theorem zk_leb_ok {κ : zk_C} {N : List Int} {P : Nat → Option Nat} (hV : zk_all2 (zk_ok P) κ.1 N) (hD : zk_df N κ.2.1) {a b : zk_S} {d : Int} (h : zk_leb κ a b d = true) {x y : Int} (ha : N[a.1]? = some x) (hb : N[b.1]? = some y) : x + a.2 ≤ y + b.2 + d := by
  unfold zk_leb at h
  simp only [Bool.and_eq_true, Bool.or_eq_true, decide_eq_true_eq, beq_iff_eq] at h
  obtain ⟨⟨k1, k2⟩, h⟩ := h
  have bnd : ∀ {q : zk_S} {n : Int}, zk_kd κ.1 q < 2 → N[q.1]? = some n → zk_lw κ.1 q ≤ n + q.2 ∧ n + q.2 ≤ zk_hg κ.1 q := by
    intro q n hk hn
    obtain ⟨f, e1, e2⟩ := zk_all2_getR hV hn
    unfold zk_kd at hk
    unfold zk_lw zk_hg
    rw [e1] at hk ⊢
    have iv := e2.iv hk
    dsimp only
    omega
  have b1 := bnd k1 ha
  have b2 := bnd k2 hb
  rcases h with (h | h) | h
  · omega
  · rw [h.1, hb] at ha
    cases ha
    have := h.2
    omega
  · obtain ⟨q, q1, q2⟩ := List.any_eq_true.mp h
    simp only [Bool.and_eq_true, decide_eq_true_eq, beq_iff_eq] at q2
    obtain ⟨n, k, e1, e2, e3⟩ := hD q q1
    rw [q2.1.1, ha] at e1
    rw [q2.1.2, hb] at e2
    cases e1
    cases e2
    have := q2.2
    omega
theorem zk_vfit_ok {V : List zk_F} {N : List Int} {P : Nat → Option Nat} (hV : zk_all2 (zk_ok P) V N) {q : zk_S} {f : zk_F} (h : zk_vfit V q f = true) : ∃ k g, N[q.1]? = some k ∧ V[q.1]? = some g ∧ f.1 = g.1 ∧ zk_ok P f (k + q.2) := by
  unfold zk_vfit at h
  split at h
  · rename_i hf
    simp only [Bool.and_eq_true, beq_iff_eq] at h
    unfold zk_kd at h
    cases hg : V[q.1]? with
    | none => rw [hg] at h; exact absurd h.1 (by decide)
    | some g =>
      rw [hg] at h
      obtain ⟨n, e1, e2⟩ := zk_all2_get hV hg
      have hk : g.1 = 3 := h.1
      refine ⟨n, g, e1, rfl, by omega, ?_⟩
      rw [h.2, Int.add_zero]
      obtain ⟨fk, fr⟩ := f
      obtain ⟨gk, gr⟩ := g
      dsimp only at hf hk
      subst hf; subst hk
      exact e2
  · rw [Bool.and_eq_true] at h
    obtain ⟨h1, h2⟩ := h
    have h1' := h1
    unfold zk_fits at h1'
    cases hg : V[q.1]? with
    | none => rw [hg] at h1'; cases h1'
    | some g =>
      rw [hg] at h1'
      obtain ⟨n, e1, e2⟩ := zk_all2_get hV hg
      have hr : zk_rg g.1 (n + q.2) := by
        obtain ⟨fk, ft, fl, fh⟩ := f
        obtain ⟨gk, gt, gl, gh⟩ := g
        dsimp only at h1' h2
        match gk, e2 with
        | 0, e2 =>
          have iv := zk_ok.iv e2 (by first | exact (show 0 < 2 by decide) | exact (show 1 < 2 by decide))
          dsimp only at iv
          split at h1'
          · simp only [Bool.and_eq_true, beq_iff_eq, decide_eq_true_eq] at h1'
            obtain ⟨⟨rfl, h5⟩, h6⟩ := h1'
            simp only [if_true, Bool.and_eq_true, decide_eq_true_eq] at h2
            unfold zk_m31 zk_p31 at h2
            exact ⟨by omega, by omega⟩
          · simp at h1'
        | 1, e2 =>
          have iv := zk_ok.iv e2 (by first | exact (show 0 < 2 by decide) | exact (show 1 < 2 by decide))
          dsimp only at iv
          split at h1'
          · simp only [Bool.and_eq_true, beq_iff_eq, decide_eq_true_eq] at h1'
            obtain ⟨⟨rfl, h5⟩, h6⟩ := h1'
            simp at h2
            exact ⟨by omega, by omega⟩
          · simp at h1'
        | k + 2, _ => exact trivial
      obtain ⟨y1, y2, y3⟩ := zk_fits_n hV h1 hg e1 hr
      exact ⟨n, g, e1, rfl, y2, y1⟩
theorem zk_vfits_ok {V : List zk_F} {N : List Int} {P : Nat → Option Nat} (hV : zk_all2 (zk_ok P) V N) : ∀ {θ : List zk_S} {fs : List zk_F}, zk_vfits V θ fs = true → zk_all2 (zk_ok P) fs (θ.map (zk_val N)) ∧ ∀ (z : Nat) (q : zk_S) (f : zk_F), θ[z]? = some q → fs[z]? = some f → ∃ k g, N[q.1]? = some k ∧ V[q.1]? = some g ∧ f.1 = g.1
  | [], [], _ => ⟨trivial, fun z q f h => by simp at h⟩
  | q :: qs, f :: fs, h => by
    unfold zk_vfits at h
    rw [Bool.and_eq_true] at h
    obtain ⟨k, g, e1, e2, e3, e4⟩ := zk_vfit_ok hV h.1
    obtain ⟨i1, i2⟩ := zk_vfits_ok hV h.2
    refine ⟨⟨by rw [zk_val_ok e1]; exact e4, i1⟩, fun z q' f' hq hf => ?_⟩
    match z with
    | 0 =>
      simp at hq hf
      subst hq; subst hf
      exact ⟨k, g, e1, e2, e3⟩
    | z + 1 => exact i2 z q' f' (by simpa using hq) (by simpa using hf)
  | [], _ :: _, h => by simp [zk_vfits] at h
  | _ :: _, [], h => by simp [zk_vfits] at h
/-- a value of the marked place is the value that it stands for -/
theorem zk_sub_sv {V VA : List zk_F} {N : List Int} {θ : List zk_S} (hlen : θ.length = VA.length) (hth : ∀ (z : Nat) (q : zk_S) (f : zk_F), θ[z]? = some q → VA[z]? = some f → ∃ k g, N[q.1]? = some k ∧ V[q.1]? = some g ∧ f.1 = g.1) {a b : zk_S} (h : zk_sub θ a = some b) {v : Value} (hv : zk_sv V N b v) : zk_sv VA (θ.map (zk_val N)) a v := by
  unfold zk_sub at h
  split at h
  · rename_i r hr
    cases h
    have hl : a.1 < VA.length := by rw [← hlen]; exact (List.getElem?_eq_some_iff.mp hr).1
    obtain ⟨k, g, e1, e2, e3⟩ := hth a.1 r _ hr (List.getElem?_eq_getElem hl)
    obtain ⟨f, n, y1, y2, y3, y4⟩ := hv
    dsimp only at y1 y2 y3 y4
    cases e1.symm.trans y2
    cases e2.symm.trans y1
    refine ⟨VA[a.1], zk_val N r, List.getElem?_eq_getElem hl, by rw [List.getElem?_map, hr]; rfl, ?_, ?_⟩
    · rw [e3, zk_val_ok e1, Int.add_assoc]
      exact y3
    · rw [e3, zk_val_ok e1, Int.add_assoc]
      exact y4
  · cases h
theorem zk_sub_n {V VA : List zk_F} {N : List Int} {θ : List zk_S} (hlen : θ.length = VA.length) (hth : ∀ (z : Nat) (q : zk_S) (f : zk_F), θ[z]? = some q → VA[z]? = some f → ∃ k g, N[q.1]? = some k ∧ V[q.1]? = some g ∧ f.1 = g.1) {z : Nat} {b : zk_S} (h : zk_sub θ (z, 0) = some b) : ∃ k, N[b.1]? = some k ∧ (θ.map (zk_val N))[z]? = some (k + b.2) := by
  unfold zk_sub at h
  split at h
  · rename_i r hr
    dsimp only at hr h
    cases h
    have hl : z < VA.length := by rw [← hlen]; exact (List.getElem?_eq_some_iff.mp hr).1
    obtain ⟨k, g, e1, e2, e3⟩ := hth z r _ hr (List.getElem?_eq_getElem hl)
    refine ⟨k, e1, ?_⟩
    rw [List.getElem?_map, hr, Option.map_some, zk_val_ok e1, Int.add_zero]
  · cases h
theorem zk_subs_sv {V VA : List zk_F} {N : List Int} {θ : List zk_S} (hlen : θ.length = VA.length) (hth : ∀ (z : Nat) (q : zk_S) (f : zk_F), θ[z]? = some q → VA[z]? = some f → ∃ k g, N[q.1]? = some k ∧ V[q.1]? = some g ∧ f.1 = g.1) : ∀ {as bs : List zk_S} {vs : List Value}, zk_subs θ as bs = true → zk_all2 (zk_sv V N) bs vs → zk_all2 (zk_sv VA (θ.map (zk_val N))) as vs
  | [], [], [], _, _ => trivial
  | a :: as, b :: bs, v :: vs, h, hv => by
    unfold zk_subs at h
    rw [Bool.and_eq_true] at h
    exact ⟨zk_sub_sv hlen hth (of_decide_eq_true h.1) hv.1, zk_subs_sv hlen hth h.2 hv.2⟩
  | [], _ :: _, _, h, _ => by simp [zk_subs] at h
  | _ :: _, [], _, h, _ => by simp [zk_subs] at h
  | [], [], _ :: _, _, hv => hv.elim
  | _ :: _, _ :: _, [], _, hv => hv.elim
theorem zk_mrw_ok {V VA : List zk_F} {N : List Int} {θ : List zk_S} {P : Nat → Option Nat} {H : Heap} {X : Nat → Prop} (hlen : θ.length = VA.length) (hth : ∀ (z : Nat) (q : zk_S) (f : zk_F), θ[z]? = some q → VA[z]? = some f → ∃ k g, N[q.1]? = some k ∧ V[q.1]? = some g ∧ f.1 = g.1) : ∀ {as bs : List (Nat × Nat × List zk_S)} {b : Nat}, zk_mrw θ as bs = true → zk_rw w X V N P H bs b → zk_rw w X VA (θ.map (zk_val N)) P H as b
  | [], _, _, _, _ => trivial
  | a :: as, q :: bs, b, h, ⟨n, fs, h1, h2, h3, h4, h5, h6, h7⟩ => by
    unfold zk_mrw at h
    simp only [Bool.and_eq_true, decide_eq_true_eq] at h
    obtain ⟨⟨⟨g1, g2⟩, g3⟩, g4⟩ := h
    obtain ⟨k, e1, e2⟩ := zk_sub_n hlen hth g1
    dsimp only at e1 e2
    rw [h1] at e1
    cases e1
    rw [Int.add_zero] at e2
    exact ⟨n, fs, e2, h2, h3, h4, by rw [g2]; exact h5, zk_subs_sv hlen hth g3 h6, zk_mrw_ok hlen hth g4 h7⟩
  | _ :: _, [], _, h, _ => by simp [zk_mrw] at h
theorem zk_mt_ok {κ : zk_C} {N : List Int} {P : Nat → Option Nat} {F : Nat → va_E} {H : Heap} {locs : List Loc} {ls : Array Slot} (hG : zk_G w s u κ N P F H locs ls) {st : List zk_S} {sv : List Value} (hS : zk_all2 (zk_sv κ.1 N) st sv) {cu su : Nat} {A : zk_An} {θ : List zk_S} (h : zk_mt κ st cu su A θ = true) :
    zk_G w s (u.1, u.2.1, u.2.2.1, u.2.2.2.1, θ.map (zk_val N), u.2.2.2.2.2) A.2.1 (θ.map (zk_val N)) P F H locs ls ∧ zk_all2 (zk_sv A.2.1.1 (θ.map (zk_val N))) A.2.2.1 sv ∧ cu ≤ A.2.2.2.1 ∧ su ≤ A.2.2.2.2.1 ∧ θ.length = A.2.1.1.length := by
  unfold zk_mt at h
  simp only [Bool.and_eq_true, decide_eq_true_eq] at h
  obtain ⟨⟨⟨⟨⟨⟨⟨⟨⟨m1, m2⟩, m3⟩, m4⟩, m5⟩, m6⟩, m7⟩, m8⟩, m9⟩, m10⟩ := h
  obtain ⟨h1, h2, h3, h4, h5, h6, h7, h8, h9, h10, h11, h12, h13⟩ := hG
  obtain ⟨v1, hth⟩ := zk_vfits_ok h1 m1
  have hlen : θ.length = A.2.1.1.length := by
    have := zk_all2_len v1
    rw [List.length_map] at this
    exact this.symm
  refine ⟨⟨v1, fun d hd => ?_, fun q hq => ?_, zk_mrw_ok hlen hth m6 h4, h5, ?_, h7, h8, h9, fun q hq => ?_, fun z hz => ?_, fun i n hi => hi, h13⟩, zk_subs_sv hlen hth m3 hS, m9, m10, hlen⟩
  · have := List.all_eq_true.mp m4 d hd
    split at this
    · rename_i a b ha hb
      obtain ⟨k1, e1, e2⟩ := zk_sub_n hlen hth ha
      obtain ⟨k2, e3, e4⟩ := zk_sub_n hlen hth hb
      exact ⟨_, _, e2, e4, zk_leb_ok h1 h2 this e1 e3⟩
    · cases this
  · have := List.all_eq_true.mp m5 q hq
    split at this
    · rename_i a b ha hb
      simp only [Bool.and_eq_true, beq_iff_eq] at this
      obtain ⟨k1, e1, e2⟩ := zk_sub_n hlen hth ha
      obtain ⟨n, t, v, g1, g2, g3, g4, g5⟩ := h3 _ (List.contains_iff_mem.mp this.2)
      dsimp only at g1 g4 g5
      rw [e1] at g1
      cases g1
      rw [this.1, Int.add_zero] at e2
      exact ⟨k1, t, v, e2, g2, g3, g4, zk_sub_sv hlen hth hb g5⟩
    · cases this
  · obtain ⟨lv, l1, l2⟩ := h6
    have hex : ∀ q ∈ A.2.1.2.2.2.2.1, ∃ v, ls[q.1]? = some (.val v) ∧ zk_sv A.2.1.1 (θ.map (zk_val N)) q.2 v := by
      intro q hq
      have := List.all_eq_true.mp m2 q hq
      split at this
      · rename_i r hr
        obtain ⟨v, e1, e2⟩ := zk_ld_ok ⟨lv, l1, l2⟩ (List.contains_iff_mem.mp this)
        exact ⟨v, e1, zk_sub_sv hlen hth hr e2⟩
      · cases this
    have bld : ∀ L : List (Nat × zk_S), (∀ q ∈ L, ∃ v, ls[q.1]? = some (.val v) ∧ zk_sv A.2.1.1 (θ.map (zk_val N)) q.2 v) → ∃ lv : List (Nat × Value), (∀ r ∈ lv, ls[r.1]? = some (.val r.2)) ∧ zk_all2 (zk_lr A.2.1.1 (θ.map (zk_val N))) L lv := by
      clear hex
      intro L
      induction L with
      | nil => exact fun _ => ⟨[], (fun r hr => absurd hr List.not_mem_nil), trivial⟩
      | cons q L ih =>
        intro hL
        obtain ⟨v, e1, e2⟩ := hL q List.mem_cons_self
        obtain ⟨lv', g1, g2⟩ := ih (fun q hq => hL q (List.mem_cons_of_mem _ hq))
        refine ⟨(q.1, v) :: lv', fun r hr => ?_, ⟨rfl, e2⟩, g2⟩
        rcases List.mem_cons.mp hr with rfl | hr
        · exact e1
        · exact g1 r hr
    obtain ⟨lv', g1, g2⟩ := bld _ hex
    exact ⟨lv', ⟨l1.1, l1.2.1, g1⟩, g2⟩
  · have := List.all_eq_true.mp m7 q hq
    split at this
    · rename_i a ha
      simp only [Bool.and_eq_true, beq_iff_eq] at this
      obtain ⟨k1, e1, e2⟩ := zk_sub_n hlen hth ha
      obtain ⟨n, y1, y2⟩ := h10 _ (List.contains_iff_mem.mp this.2)
      dsimp only at y1 y2
      rw [e1] at y1
      cases y1
      rw [this.1, Int.add_zero] at e2
      exact ⟨k1, e2, y2⟩
    · cases this
  · have := List.all_eq_true.mp m8 z hz
    split at this
    · rename_i a ha
      simp only [Bool.and_eq_true, beq_iff_eq] at this
      obtain ⟨k1, e1, e2⟩ := zk_sub_n hlen hth ha
      obtain ⟨n, y1, y2⟩ := h11 _ (List.contains_iff_mem.mp this.2)
      rw [e1] at y1
      cases y1
      rw [this.1, Int.add_zero] at e2
      exact ⟨k1, e2, y2⟩
    · cases this
theorem zk_lsub_ok {V VA : List zk_F} {N : List Int} {θ : List zk_S} (hlen : θ.length = VA.length) (hth : ∀ (z : Nat) (q : zk_S) (f : zk_F), θ[z]? = some q → VA[z]? = some f → ∃ k g, N[q.1]? = some k ∧ V[q.1]? = some g ∧ f.1 = g.1) : ∀ {ts : List (Int × Nat)} {l : zk_Lf}, zk_lsub θ ts = some l → zk_lev (θ.map (zk_val N)) ts = l.1 + zk_lev N l.2
  | [], l, h => by
    cases h
    rfl
  | t :: r, l, h => by
    unfold zk_lsub at h
    split at h
    · rename_i q l' hq hl'
      cases h
      have ih := zk_lsub_ok hlen hth hl'
      obtain ⟨k, e1, e2⟩ := zk_sub_n hlen hth hq
      show t.1 * (θ.map (zk_val N)).getD t.2 0 + zk_lev _ r = (l'.1 + t.1 * q.2) + (t.1 * N.getD q.1 0 + zk_lev N l'.2)
      rw [ih, List.getD_eq_getElem?_getD, e2, List.getD_eq_getElem?_getD, e1]
      show t.1 * (k + q.2) + _ = _ + (t.1 * k + _)
      rw [Int.mul_add]
      omega
    · cases h
theorem zk_neg_lev {N : List Int} : ∀ {l : List (Int × Nat)}, zk_lev N (l.map (fun t => (-t.1, t.2))) = -zk_lev N l
  | [] => rfl
  | t :: r => by
    show -t.1 * N.getD t.2 0 + zk_lev N (r.map _) = -(t.1 * N.getD t.2 0 + zk_lev N r)
    rw [zk_neg_lev, Int.neg_mul]
    omega
theorem zk_fall_ok {κ : zk_C} {N : List Int} {P : Nat → Option Nat} {F : Nat → va_E} {H : Heap} {locs : List Loc} {ls : Array Slot} (hG : zk_G w s u κ N P F H locs ls) {A : zk_An} {θ : List zk_S} (hv : zk_vfits κ.1 θ A.2.1.1 = true) {M : zk_Lf} (h : zk_fall κ (some M) A θ = true) : A.2.2.2.2.2.1 + zk_lev (θ.map (zk_val N)) A.2.2.2.2.2.2 + 1 ≤ M.1 + zk_lev N M.2 := by
  obtain ⟨v1, hth⟩ := zk_vfits_ok hG.1 hv
  have hlen : θ.length = A.2.1.1.length := by
    have := zk_all2_len v1
    rw [List.length_map] at this
    exact this.symm
  unfold zk_fall at h
  dsimp only at h
  split at h
  · rename_i l hl
    have e1 := zk_lsub_ok hlen hth hl
    have e0 : ∀ r : zk_Lf, zk_fallb κ.1 r = true → 1 ≤ r.1 + zk_lev N r.2 := fun r hr => by
      unfold zk_fallb at hr
      split at hr
      · rename_i b hb
        have := of_decide_eq_true hr
        have := zk_lbd_ok hG.1 hb
        omega
      · cases hr
    have e3 : zk_lev N (zk_lall M.2 (l.2.map (fun t => (-t.1, t.2)))) = zk_lev N M.2 - zk_lev N l.2 := by
      rw [zk_lall_ok, zk_neg_lev]
      omega
    rcases Bool.or_eq_true _ _ ▸ h with h | h
    · have := e0 _ h
      dsimp only at this
      omega
    · have h1 := e0 _ h
      have h2 := zk_lel_ok (N := N) (D := κ.2.1) (l := (M.1 - A.2.2.2.2.2.1 - l.1, zk_lall M.2 (l.2.map (fun t => (-t.1, t.2))))) hG.2.1
      dsimp only at h2
      omega
  · cases h
end ZK19
