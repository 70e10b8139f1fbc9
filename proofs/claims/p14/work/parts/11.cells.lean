/-! part 11: one cell of the typed heap read, written, added: what is known goes over -/
noncomputable def zk_mayb (eff : List (Nat × Nat × Nat)) (κ : zk_C) (t k x : Nat) : Bool := κ.2.2.2.2.2.2.contains x || eff.any (fun q => q.1 == t && zk_cov q.2.1 k && (q.2.2 == 0 || κ.2.2.2.2.2.1.any (fun z => z.1 + 1 == q.2.2 && z.2 == x)))
/-- the facts that a write to places lo to hi of a cell of type t leaves -/
noncomputable def zk_keep (V : List zk_F) (t lo hi : Nat) (z : Nat × Nat × zk_S) : Bool := decide (z.2.1 < lo) || decide (hi < z.2.1) || (match V[z.1]? with
  | some f => f.1 == 2 && f.2.1 != t
  | none => false)
theorem zk_er_lt {k : Nat} (h : k < 1000) : zk_er k = (k, k) := by
  unfold zk_er
  rw [if_neg (by omega), if_neg (by omega), if_neg (by omega), if_neg (by omega)]
section ZK11
variable {p : Program} {l : Launch} {e : Env} {R : Room} {s : State} {m : MethodId} {args : Array Value} {below : List Frame} {meth : Method} {c : Code} {Q : State → Prop}
variable {cc : ByteArray} {w : zk_W} {u : zk_M} {Ts : List Jvm.Cond} {own : String}
theorem zk_same.len {p : Nat → Prop} {e e' : va_E} (h : zk_same p e e') {cA : ClassId} {x : vp_A} (he : e = .inl (cA, x)) : ∃ (cA' : ClassId) (x' : vp_A), e' = .inl (cA', x') ∧ x'.1 = x.1 := by
  subst he
  cases e' with
  | inl a => exact ⟨a.1, a.2, rfl, h.2.1.symm⟩
  | inr o => exact h.elim
theorem zk_obj {P : Nat → Option Nat} {F : Nat → va_E} {H : Heap} (h : zk_wt w s P F H) {a t : Nat} {T : zk_T} (hp : P a = some t) (hT : w.1[t]? = some T) (hs : T.1 = 0) : ∃ fs, F a = .inr (T.2.1, fs) ∧ zk_all2 (zk_fv P) T.2.2.2 fs ∧ va_at w.2.2.1 w.2.1 (a, .inr (T.2.1, fs)) H ∧ w.2.2.2.1 ≤ a := by
  obtain ⟨h1, h2, h3, -⟩ := (zk_wt1.some hT).mp (h a t hp)
  unfold zk_el at h1
  rw [hs] at h1
  obtain ⟨fs, e1, e2⟩ := h1
  rw [e1] at h2
  exact ⟨fs, e1, e2, h2, h3⟩
theorem zk_iarr {P : Nat → Option Nat} {F : Nat → va_E} {H : Heap} (h : zk_wt w s P F H) {a t : Nat} {T : zk_T} (hp : P a = some t) (hT : w.1[t]? = some T) (hs : T.1 = 1 ∨ T.1 = 4) : ∃ cA n f, F a = .inl (cA, n, .inl f) ∧ T.2.1 ≤ n ∧ n ≤ T.2.2.1 ∧ ArrOfT s cA (zk_aty T.1) ∧ (∀ j, j < n → zk_fv P (zk_fj T j) (.int (f j))) ∧ H[a]? = some (vp_cell cA (n, .inl f)) ∧ w.2.2.2.1 ≤ a := by
  obtain ⟨h1, h2, h3, -⟩ := (zk_wt1.some hT).mp (h a t hp)
  unfold zk_el at h1
  rcases hs with hs | hs <;> rw [hs] at h1 ⊢ <;> obtain ⟨cA, n, f, e1, e2⟩ := h1 <;> rw [e1] at h2 <;> exact ⟨cA, n, f, e1, e2.1, e2.2.1, e2.2.2.1, e2.2.2.2, h2, h3⟩
theorem zk_larr {P : Nat → Option Nat} {F : Nat → va_E} {H : Heap} (h : zk_wt w s P F H) {a t : Nat} {T : zk_T} (hp : P a = some t) (hT : w.1[t]? = some T) (hs : T.1 = 2) : ∃ cA n f, F a = .inl (cA, n, .inr (.inl f)) ∧ T.2.1 ≤ n ∧ n ≤ T.2.2.1 ∧ ArrOfT s cA .long ∧ (∀ j, j < n → zk_fv P (zk_fj T j) (.long (f j))) ∧ H[a]? = some (vp_cell cA (n, .inr (.inl f))) ∧ w.2.2.2.1 ≤ a := by
  obtain ⟨h1, h2, h3, -⟩ := (zk_wt1.some hT).mp (h a t hp)
  unfold zk_el at h1
  rw [hs] at h1
  obtain ⟨cA, n, f, e1, e2⟩ := h1
  rw [e1] at h2
  exact ⟨cA, n, f, e1, e2.1, e2.2.1, e2.2.2.1, e2.2.2.2, h2, h3⟩
theorem zk_qarr {P : Nat → Option Nat} {F : Nat → va_E} {H : Heap} (h : zk_wt w s P F H) {a t : Nat} {T : zk_T} (hp : P a = some t) (hT : w.1[t]? = some T) (hs : T.1 = 3) : ∃ cA n f, F a = .inl (cA, n, .inr (.inr (.inr (.inr f)))) ∧ T.2.1 ≤ n ∧ n ≤ T.2.2.1 ∧ ArrOfT s cA (.object (zk_rn w T)) ∧ va_RA s cA (.object (zk_rn w T)) ∧ (∀ j, j < n → zk_fv P (zk_fj T j) (va_rf (f j))) ∧ H[a]? = some (vp_cell cA (n, .inr (.inr (.inr (.inr f))))) ∧ w.2.2.2.1 ≤ a := by
  obtain ⟨h1, h2, h3, -⟩ := (zk_wt1.some hT).mp (h a t hp)
  unfold zk_el at h1
  rw [hs] at h1
  obtain ⟨cA, n, f, e1, e2⟩ := h1
  rw [e1] at h2
  exact ⟨cA, n, f, e1, e2.1, e2.2.1, e2.2.2.1, e2.2.2.2.1, e2.2.2.2.2, h2, h3⟩
/-- any array: its length, its cell -/
theorem zk_aarr {P : Nat → Option Nat} {F : Nat → va_E} {H : Heap} (h : zk_wt w s P F H) {a t : Nat} {T : zk_T} (hp : P a = some t) (hT : w.1[t]? = some T) (hs : T.1 = 1 ∨ T.1 = 2 ∨ T.1 = 3 ∨ T.1 = 4) : ∃ cA x ty, F a = .inl (cA, x) ∧ T.2.1 ≤ x.1 ∧ x.1 ≤ T.2.2.1 ∧ ArrOfT s cA ty ∧ H[a]? = some (vp_cell cA x) := by
  rcases hs with hs | hs | hs | hs
  · obtain ⟨cA, n, f, e1, e2, e3, e4, e5, e6, e7⟩ := zk_iarr h hp hT (Or.inl hs)
    exact ⟨cA, _, _, e1, e2, e3, e4, e6⟩
  · obtain ⟨cA, n, f, e1, e2, e3, e4, e5, e6, e7⟩ := zk_larr h hp hT hs
    exact ⟨cA, _, _, e1, e2, e3, e4, e6⟩
  · obtain ⟨cA, n, f, e1, e2, e3, e4, e4', e5, e6, e7⟩ := zk_qarr h hp hT hs
    exact ⟨cA, _, _, e1, e2, e3, e4, e6⟩
  · obtain ⟨cA, n, f, e1, e2, e3, e4, e5, e6, e7⟩ := zk_iarr h hp hT (Or.inr hs)
    exact ⟨cA, _, _, e1, e2, e3, e4, e6⟩
theorem zk_ef_put {eff : List (Nat × Nat × Nat)} {ps : List Int} {P0 P : Nat → Option Nat} {F0 F : Nat → va_E} (h : zk_ef eff ps P0 F0 F) (hext : ∀ a t, P0 a = some t → P a = some t) {a t : Nat} {Pk : Nat → Prop} {e' : va_E} (hp : P a = some t) (hs : zk_same Pk (F a) e') (hm : P0 a = none ∨ ∀ k, Pk k → zk_may eff ps a t k) : zk_ef eff ps P0 F0 (zk_up F a e') := by
  intro b t0 hb
  by_cases e1 : b = a
  · subst e1
    rw [zk_up_self]
    cases hp.symm.trans (hext b t0 hb)
    refine (h b t hb).trans (hs.mono (fun j hj => ?_))
    rcases hm with hm | hm
    · rw [hm] at hb; cases hb
    · exact hm j hj
  · rw [zk_up_ne e1]
    exact h b t0 hb
theorem zk_mayb_ok {eff : List (Nat × Nat × Nat)} {κ : zk_C} {t k x : Nat} (h : zk_mayb eff κ t k x = true) {N : List Int} {ps : List Int} {P0 : Nat → Option Nat} (hpa : zk_pa N ps κ.2.2.2.2.2.1) (hfr : zk_fr N P0 κ.2.2.2.2.2.2) {n : Int} (hn : N[x]? = some n) (h0 : 0 ≤ n) : P0 n.toNat = none ∨ ∀ j, zk_pm k j → zk_may eff ps n.toNat t j := by
  unfold zk_mayb at h
  rcases Bool.or_eq_true _ _ ▸ h with h | h
  · obtain ⟨n', e1, e2, e3⟩ := hfr x (by simpa using h)
    cases hn.symm.trans e1
    exact Or.inl e3
  · obtain ⟨q, hq, h1⟩ := List.any_eq_true.mp h
    simp only [Bool.and_eq_true, beq_iff_eq, Bool.or_eq_true] at h1
    obtain ⟨⟨h2, h3⟩, h4⟩ := h1
    refine Or.inr (fun j hj => ⟨q, hq, h2, zk_cov_ok h3 hj, ?_⟩)
    rcases h4 with h4 | h4
    · exact Or.inl h4
    · obtain ⟨z, hz, h5⟩ := List.any_eq_true.mp h4
      simp only [Bool.and_eq_true, beq_iff_eq] at h5
      obtain ⟨n', e1, e2⟩ := hpa z hz
      rw [h5.2, hn] at e1
      cases e1
      refine Or.inr ?_
      rw [← h5.1, Nat.add_sub_cancel, e2]
      congr 1
      omega
theorem zk_fa1_keep {V : List zk_F} {N : List Int} {P : Nat → Option Nat} {F : Nat → va_E} (hV : zk_all2 (zk_ok P) V N) {z : Nat × Nat × zk_S} (h : zk_fa1 V N P F z.1 z.2.1 z.2.2) {a t lo hi : Nat} {e' : va_E} (hp : P a = some t) (hs : zk_same (fun j => lo ≤ j ∧ j ≤ hi) (F a) e') (hk : zk_keep V t lo hi z = true) : zk_fa1 V N P (zk_up F a e') z.1 z.2.1 z.2.2 := by
  obtain ⟨n, t', v, h1, h2, h3, h4, h5⟩ := h
  refine ⟨n, t', v, h1, h2, h3, ?_, h5⟩
  by_cases e1 : n.toNat = a
  · rw [e1, zk_up_self]
    rw [e1] at h4 h3
    cases hp.symm.trans h3
    rw [hs.rd ?_]
    · exact h4
    · intro hz
      unfold zk_keep at hk
      simp only [Bool.or_eq_true, decide_eq_true_eq] at hk
      rcases hk with hk | hk
      · omega
      · obtain ⟨f, f1, f2⟩ := zk_all2_getR hV h1
        rw [f1] at hk
        simp only [Bool.and_eq_true, beq_iff_eq, bne_iff_ne] at hk
        obtain ⟨fk, ft, fl, fh⟩ := f
        obtain ⟨rfl, hk2⟩ := hk
        have f2 : _ ∧ _ ∧ _ ∧ (0 ≤ n → P n.toNat = some ft) := f2
        have := f2.2.2.2 h2
        rw [e1, hp] at this
        cases this
        exact hk2 rfl
  · rw [zk_up_ne e1]
    exact h4
/-- a typed cell is written -/
theorem zk_G.write {κ : zk_C} {N : List Int} {P : Nat → Option Nat} {F : Nat → va_E} {H H1 : Heap} {locs L : List Loc} {ls : Array Slot} (h : zk_G w s u κ N P F H locs ls) {a t : Nat} {Pk : Nat → Prop} {T : zk_T} {e' : va_E} (hp : P a = some t) (hT : w.1[t]? = some T) (hel : zk_el w s P T e') (hat : va_at w.2.2.1 w.2.1 (a, e') H1) (hz : H1.size = H.size) (hk : ∀ q, q ≠ a → H1[q]? = H[q]?) (hL : ∀ q ∈ L, q.base = a) (hs : zk_same Pk (F a) e') (hm : u.1 a = none ∨ ∀ k, Pk k → zk_may u.2.2.2.1 u.2.2.1 a t k) (hr : zk_rl P (zk_up F a e') t e') {A : List (Nat × Nat × zk_S)} (hA : zk_fa κ.1 N P (zk_up F a e') A) : zk_G w s u (κ.1, κ.2.1, A, κ.2.2.2) N P (zk_up F a e') H1 (locs ++ L) ls := by
  obtain ⟨h1, h2, h3, h4, h5, h6, h7, h8, h9, h10, h11, h12, h13⟩ := h
  refine ⟨h1, h2, hA, ?_, h5.put hp hT hel hat hk (fun cA x h => hs.len h) hr, h6, h7, zk_ef_put h8 h7 hp hs hm, ?_, h10, h11, h12, fun q g1 g2 => ⟨(h13 q g1 g2).1, (hk q (fun e1 => by rw [e1] at g1 g2; rw [(h13 a g1 g2).1] at hp; cases hp)).trans (h13 q g1 g2).2⟩⟩
  · rw [hz]
    refine h4.kept (fun n _ hn => ⟨hn, hk n ?_⟩)
    intro e1
    subst e1
    rw [hp] at hn
    cases hn
  · have hb : w.2.2.2.1 ≤ a := ((zk_wt1.some hT).mp (h5 a t hp)).2.2.1
    refine ⟨by rw [hz]; exact h9.1, fun q g1 g2 => ?_, fun q hq => ?_⟩
    · rw [hk q (fun e1 => g2 (by rw [e1]; exact hb))]
      exact h9.2.1 q g1 g2
    · rcases List.mem_append.mp hq with g | g
      · exact h9.2.2 q g
      · rw [hL q g]; exact hb
/-- a new typed cell -/
theorem zk_G.alloc {κ : zk_C} {N : List Int} {P : Nat → Option Nat} {F : Nat → va_E} {H H1 : Heap} {locs : List Loc} {ls : Array Slot} (h : zk_G w s u κ N P F H locs ls) (hbs : w.2.2.2.1 ≤ s.heap.size) {t : Nat} {T : zk_T} {e' : va_E} (hT : w.1[t]? = some T) (hel : zk_el w s P T e') (hat : va_at w.2.2.1 w.2.1 (H.size, e') H1) (hz : H1.size = H.size + 1) (hk : ∀ q, q < H.size → H1[q]? = H[q]?) (hr : zk_rl (zk_up P H.size (some t)) (zk_up F H.size e') t e') {A : List (Nat × Nat × zk_S)} (hA : ∀ q ∈ A, ∃ v, q.1 = κ.1.length ∧ zk_rd e' q.2.1 = some v ∧ zk_sv κ.1 N q.2.2 v) :
    zk_G w s u (κ.1 ++ [(2, t, 0, 0)], κ.2.1, A ++ κ.2.2.1, κ.2.2.2.1, κ.2.2.2.2.1, κ.2.2.2.2.2.1, κ.1.length :: κ.2.2.2.2.2.2) (N ++ [(H.size : Int)]) (zk_up P H.size (some t)) (zk_up F H.size e') H1 locs ls := by
  obtain ⟨h1, h2, h3, h4, h5, h6, h7, h8, h9, h10, h11, h12, h13⟩ := h
  have hbH : w.2.2.2.1 ≤ H.size := Nat.le_trans hbs h9.1
  have hPn : P H.size = none := by
    cases hp : P H.size with
    | none => rfl
    | some t' => exact absurd (h5.lt hbH hp) (Nat.lt_irrefl _)
  have hext := zk_up_ext (t := t) hPn
  have hl := zk_le.snoc (V := κ.1) (N := N) (2, t, 0, 0) (H.size : Int)
  have hlen := zk_all2_len h1
  have hlast : (N ++ [(H.size : Int)])[κ.1.length]? = some (H.size : Int) := by rw [hlen]; exact zk_get_last
  have hnew : zk_ok (zk_up P H.size (some t)) (2, t, 0, 0) (H.size : Int) := ⟨Int.natCast_nonneg _, by show (-1 : Int) ≤ _; omega, fun q => absurd q (show ¬ (0 : Int) < 0 by decide), fun _ => by rw [Int.toNat_natCast, zk_up_self]⟩
  refine ⟨zk_all2_snoc hnew (zk_all2_imp (fun f n q => q.ext hext) h1), h2.le hl, fun q hq => ?_, ?_, ?_, h6.le hl, fun a t' q => hext a t' (h7 a t' q), fun b t0 hb0 => ?_, ⟨by rw [hz]; exact Nat.le_succ_of_le h9.1, fun q g1 g2 => ?_, h9.2.2⟩, fun q hq => (h10 q hq).imp fun n z => ⟨hl.1 _ _ z.1, z.2⟩, fun q hq => ?_, fun i n z => hl.1 _ _ (h12 i n z), fun q g1 g2 => ⟨by rw [zk_up_ne (Nat.ne_of_lt (Nat.lt_of_lt_of_le g1 h9.1))]; exact (h13 q g1 g2).1, (hk q (Nat.lt_of_lt_of_le g1 h9.1)).trans (h13 q g1 g2).2⟩⟩
  · rcases List.mem_append.mp hq with g | g
    · obtain ⟨v, e1, e2, e3⟩ := hA q g
      refine ⟨(H.size : Int), t, v, by rw [e1]; exact hlast, Int.natCast_nonneg _, ?_, ?_, hl.2 _ _ e3⟩
      · rw [Int.toNat_natCast, zk_up_self]
      · rw [Int.toNat_natCast, zk_up_self]; exact e2
    · obtain ⟨n, t', v, e1, e2, e3, e4, e5⟩ := h3 q g
      refine ⟨n, t', v, hl.1 _ _ e1, e2, hext _ _ e3, ?_, hl.2 _ _ e5⟩
      rw [zk_up_ne (Nat.ne_of_lt (h5.lt hbH e3))]
      exact e4
  · rw [hz]
    refine zk_rw.mono (Nat.le_succ _) ((h4.kept (fun n hn hpn => ⟨?_, hk n hn⟩)).le hl)
    rw [zk_up_ne (Nat.ne_of_lt hn)]
    exact hpn
  · have hk5 : zk_wt w s P F H1 := h5.kept (fun q t' hq _ => hk q (h5.lt hbH hq))
    exact hk5.add hPn hT (hel.ext hext) hat hbH hr
  · have := h7 b t0 hb0
    rw [zk_up_ne (Nat.ne_of_lt (h5.lt hbH this))]
    exact h8 b t0 hb0
  · rw [hk q (Nat.lt_of_lt_of_le g1 h9.1)]
    exact h9.2.1 q g1 g2
  · rcases List.mem_cons.mp hq with rfl | g
    · refine ⟨(H.size : Int), hlast, Int.natCast_nonneg _, ?_⟩
      rw [Int.toNat_natCast]
      cases hp0 : u.1 H.size with
      | none => rfl
      | some t' => exact absurd (h5.lt hbH (h7 _ _ hp0)) (Nat.lt_irrefl _)
    · obtain ⟨n, e1, e2⟩ := h11 q g
      exact ⟨n, hl.1 _ _ e1, e2⟩
/-- a new object, not yet made -/
theorem zk_G.raw {κ : zk_C} {N : List Int} {P : Nat → Option Nat} {F : Nat → va_E} {H H1 : Heap} {locs : List Loc} {ls : Array Slot} (h : zk_G w s u κ N P F H locs ls) (hbs : w.2.2.2.1 ≤ s.heap.size) {ci : Nat} {fs : List Value} {ds : List zk_S} (hat : va_at w.2.2.1 w.2.1 (H.size, .inr (ci, fs)) H1) (hds : zk_all2 (zk_sv κ.1 N) ds fs) (hz : H1.size = H.size + 1) (hk : ∀ q, q < H.size → H1[q]? = H[q]?) :
    zk_G w s u (κ.1 ++ [(3, 0, 0, 0)], κ.2.1, κ.2.2.1, (κ.1.length, ci, ds) :: κ.2.2.2.1, κ.2.2.2.2.1, κ.2.2.2.2.2.1, κ.1.length :: κ.2.2.2.2.2.2) (N ++ [(H.size : Int)]) P F H1 locs ls := by
  obtain ⟨h1, h2, h3, h4, h5, h6, h7, h8, h9, h10, h11, h12, h13⟩ := h
  have hbH : w.2.2.2.1 ≤ H.size := Nat.le_trans hbs h9.1
  have hPn : P H.size = none := by
    cases hp : P H.size with
    | none => rfl
    | some t' => exact absurd (h5.lt hbH hp) (Nat.lt_irrefl _)
  have hl := zk_le.snoc (V := κ.1) (N := N) (3, 0, 0, 0) (H.size : Int)
  have hlen := zk_all2_len h1
  have hlast : (N ++ [(H.size : Int)])[κ.1.length]? = some (H.size : Int) := by rw [hlen]; exact zk_get_last
  have hnew : zk_ok P (3, 0, 0, 0) (H.size : Int) := Int.natCast_nonneg _
  refine ⟨zk_all2_snoc hnew h1, h2.le hl, fun q hq => (h3 q hq).le hl, ?_, h5.kept (fun q t' hq _ => hk q (h5.lt hbH hq)), h6.le hl, h7, h8, ⟨by rw [hz]; exact Nat.le_succ_of_le h9.1, fun q g1 g2 => ?_, h9.2.2⟩, fun q hq => (h10 q hq).imp fun n z => ⟨hl.1 _ _ z.1, z.2⟩, fun q hq => ?_, fun i n z => hl.1 _ _ (h12 i n z), fun q g1 g2 => ⟨(h13 q g1 g2).1, (hk q (Nat.lt_of_lt_of_le g1 h9.1)).trans (h13 q g1 g2).2⟩⟩
  · rw [hz]
    exact ⟨H.size, fs, hlast, Nat.lt_succ_self _, ⟨hbH, fun z => absurd z.1 (Nat.not_lt.mpr h9.1)⟩, hPn, hat, zk_all2_imp hl.2 hds, (h4.kept (fun n hn hpn => ⟨hpn, hk n hn⟩)).le hl⟩
  · rw [hk q (Nat.lt_of_lt_of_le g1 h9.1)]
    exact h9.2.1 q g1 g2
  · rcases List.mem_cons.mp hq with rfl | g
    · refine ⟨(H.size : Int), hlast, Int.natCast_nonneg _, ?_⟩
      rw [Int.toNat_natCast]
      cases hp0 : u.1 H.size with
      | none => rfl
      | some t' => exact absurd (h5.lt hbH (h7 _ _ hp0)) (Nat.lt_irrefl _)
    · obtain ⟨n, e1, e2⟩ := h11 q g
      exact ⟨n, hl.1 _ _ e1, e2⟩
end ZK11
