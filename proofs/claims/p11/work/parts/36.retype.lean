/-! part 36: a cell's type is changed for a while -/
def zh_nt (T : zk_T) (t : Nat) : Bool := T.2.2.2.all (fun f => f.1 != 2 || f.2.1 != t)
theorem zh_nt_mem {T : zk_T} {t : Nat} (h : zh_nt T t = true) {f : zk_F} (hf : f ∈ T.2.2.2) (h2 : f.1 = 2) : f.2.1 ≠ t := by
  have := List.all_eq_true.mp h f hf
  simp only [Bool.or_eq_true, bne_iff_ne] at this
  rcases this with g | g
  · exact absurd h2 g
  · exact g
theorem zh_rgn_mem : ∀ (r : List zk_F) (j : Nat), zk_rgn r j = (0, 0, 0, 0) ∨ zk_rgn r j ∈ r
  | [], _ => Or.inl rfl
  | f :: r, j => by
    unfold zk_rgn
    by_cases h : j < f.2.1
    · rw [if_pos h]; exact Or.inr (List.mem_cons_self ..)
    · rw [if_neg h]
      rcases zh_rgn_mem r j with g | g
      · exact Or.inl g
      · exact Or.inr (List.mem_cons_of_mem _ g)
theorem zh_fj_mem (T : zk_T) (j : Nat) : zk_fj T j = (0, 0, 0, 0) ∨ zk_fj T j ∈ T.2.2.2 := by
  obtain ⟨k, p, q, fs⟩ := T
  unfold zk_fj
  split
  · rcases zh_rgn_mem fs.tail (j % (zk_f0 (k, p, q, fs)).2.1) with g | g
    · exact Or.inl g
    · exact Or.inr (List.mem_of_mem_tail g)
  · show fs.headD (0, 0, 0, 0) = _ ∨ fs.headD (0, 0, 0, 0) ∈ fs
    cases fs with
    | nil => exact Or.inl rfl
    | cons f r => exact Or.inr (List.mem_cons_self ..)
theorem zh_ok_up {P : Nat → Option Nat} {a t0 t1 : Nat} (hp : P a = some t0) {f : zk_F} (hf : f.1 = 2 → f.2.1 ≠ t0) {n : Int} (h : zk_ok P f n) : zk_ok (zk_up P a (some t1)) f n := by
  obtain ⟨k, t, lo, hi⟩ := f
  match k, h, hf with
  | 0, h, _ => exact h
  | 1, h, _ => exact h
  | 2, h, hf =>
    refine ⟨h.1, h.2.1, h.2.2.1, fun q => ?_⟩
    have h1 := h.2.2.2 q
    rw [zk_up_ne]
    · exact h1
    · intro e
      rw [e, hp] at h1
      exact hf rfl (Option.some.inj h1).symm
  | k + 3, h, _ => exact h
theorem zh_fv_up {P : Nat → Option Nat} {a t0 t1 : Nat} (hp : P a = some t0) {f : zk_F} (hf : f.1 = 2 → f.2.1 ≠ t0) {v : Value} (h : zk_fv P f v) : zk_fv (zk_up P a (some t1)) f v := by
  obtain ⟨n, h1, h2⟩ := h
  exact ⟨n, zh_ok_up hp hf h1, h2⟩
theorem zh_fvs_up {P : Nat → Option Nat} {a t0 t1 : Nat} (hp : P a = some t0) : ∀ {fs : List zk_F} {vs : List Value}, (∀ f ∈ fs, f.1 = 2 → f.2.1 ≠ t0) → zk_all2 (zk_fv P) fs vs → zk_all2 (zk_fv (zk_up P a (some t1))) fs vs
  | [], [], _, _ => trivial
  | f :: _, _ :: _, hf, h => ⟨zh_fv_up hp (hf f (List.mem_cons_self ..)) h.1, zh_fvs_up hp (fun g hg => hf g (List.mem_cons_of_mem _ hg)) h.2⟩
  | [], _ :: _, _, h => h.elim
  | _ :: _, [], _, h => h.elim
theorem zh_el_up {w : zk_W} {U : State} {P : Nat → Option Nat} {a t0 t1 : Nat} (hp : P a = some t0) {T : zk_T} (hn : zh_nt T t0 = true) {e : va_E} (h : zk_el w U P T e) : zk_el w U (zk_up P a (some t1)) T e := by
  have hj : ∀ j, (zk_fj T j).1 = 2 → (zk_fj T j).2.1 ≠ t0 := fun j h2 => by
    rcases zh_fj_mem T j with g | g
    · rw [g] at h2; exact absurd h2 (by decide)
    · exact zh_nt_mem hn g h2
  unfold zk_el at h ⊢
  split at h
  · obtain ⟨fs, h1, h2⟩ := h
    exact ⟨fs, h1, zh_fvs_up hp (fun f hf => zh_nt_mem hn hf) h2⟩
  · obtain ⟨cA, n, f, h1, h2, h3, h4, h5⟩ := h
    exact ⟨cA, n, f, h1, h2, h3, h4, fun j q => zh_fv_up hp (hj j) (h5 j q)⟩
  · obtain ⟨cA, n, f, h1, h2, h3, h4, h5, h6⟩ := h
    exact ⟨cA, n, f, h1, h2, h3, h4, h5, fun j q => zh_fv_up hp (hj j) (h6 j q)⟩
  · obtain ⟨cA, n, f, h1, h2, h3, h4, h5⟩ := h
    exact ⟨cA, n, f, h1, h2, h3, h4, fun j q => zh_fv_up hp (hj j) (h5 j q)⟩
/-- the typed cells, one of another type now -/
theorem zh_wt_up {w : zk_W} {U : State} {P : Nat → Option Nat} {F : Nat → va_E} {H : Heap} (h : zk_wt w U P F H) {a t0 t1 : Nat} (hp : P a = some t0) (hn : ∀ T ∈ w.1, zh_nt T t0 = true) {T0 T1 : zk_T} (hT0 : w.1[t0]? = some T0) (hT1 : w.1[t1]? = some T1) (he : zk_el w U (zk_up P a (some t1)) T1 (F a)) (hrl : zk_rl (zk_up P a (some t1)) F t1 (F a)) : zk_wt w U (zk_up P a (some t1)) F H := by
  have hst : ∀ b t, P b = some t → ∃ t', zk_up P a (some t1) b = some t' := fun b t hb => by
    by_cases e : b = a
    · subst e; exact ⟨t1, zk_up_self⟩
    · exact ⟨t, by rw [zk_up_ne e]; exact hb⟩
  intro q t hq
  by_cases e1 : q = a
  · subst e1
    rw [zk_up_self] at hq
    cases hq
    obtain ⟨-, h2, h3, -⟩ := (zk_wt1.some hT0).mp (h q t0 hp)
    exact (zk_wt1.some hT1).mpr ⟨he, h2, h3, hrl⟩
  · rw [zk_up_ne e1] at hq
    have h1 := h q t hq
    cases hT : w.1[t]? with
    | none => exact (zk_wt1.none hT).mpr ((zk_wt1.none hT).mp h1)
    | some T =>
      obtain ⟨z1, z2, z3, z4⟩ := (zk_wt1.some hT).mp h1
      exact (zk_wt1.some hT).mpr ⟨zh_el_up hp (hn T (List.mem_of_getElem? hT)) z1, z2, z3, z4.step hst (fun b t cA x _ hF => ⟨cA, x, hF, rfl⟩)⟩
theorem zh_ups {P : Nat → Option Nat} {a t0 t1 : Nat} (hp : P a = some t0) : ∀ {V : List zk_F} {N : List Int}, (∀ f ∈ V, f.1 = 2 → f.2.1 ≠ t0) → zk_all2 (zk_ok P) V N → zk_all2 (zk_ok (zk_up P a (some t1))) V N
  | [], [], _, _ => trivial
  | f :: _, _ :: _, hf, h => ⟨zh_ok_up hp (hf f (List.mem_cons_self ..)) h.1, zh_ups hp (fun g hg => hf g (List.mem_cons_of_mem _ hg)) h.2⟩
  | [], _ :: _, _, h => h.elim
  | _ :: _, [], _, h => h.elim
theorem zh_upv {P : Nat → Option Nat} {a t0 t1 : Nat} (hp : P a = some t0) {lo hi : Int} : ∀ {V : List zk_F} {N : List Int} {x : Nat}, zk_all2 (zk_ok P) V N → N[x]? = some (a : Int) → lo ≤ (a : Int) → 0 ≤ hi → (∀ y f, y ≠ x → V[y]? = some f → f.1 = 2 → f.2.1 ≠ t0) → zk_all2 (zk_ok (zk_up P a (some t1))) (V.set x (2, t1, lo, hi)) N
  | [], [], _, _, _, _, _, _ => trivial
  | _ :: V, n :: N, 0, h, hx, h1, h2, hf => by
    have hx : n = (a : Int) := by simpa using hx
    subst hx
    refine ⟨⟨h1, by omega, fun q => (by have q : hi < 0 := q; omega), fun _ => ?_⟩, zh_ups hp (fun f hm => ?_) h.2⟩
    · rw [Int.toNat_natCast]; exact zk_up_self
    · obtain ⟨y, hy⟩ := List.mem_iff_getElem?.mp hm
      exact hf (y + 1) f (by omega) (by simpa using hy)
  | f :: V, n :: N, x + 1, h, hx, h1, h2, hf => ⟨zh_ok_up hp (hf 0 f (by omega) (by simp)) h.1, zh_upv hp h.2 (by simpa using hx) h1 h2 (fun y g hy hg => hf (y + 1) g (by omega) (by simpa using hg))⟩
  | [], _ :: _, _, h, _, _, _, _ => h.elim
  | _ :: _, [], _, h, _, _, _, _ => h.elim
section ZK36
variable {p : Program} {l : Launch} {e : Env} {R : Room} {s : State} {m : MethodId} {args : Array Value} {below : List Frame} {meth : Method} {c : Code} {Q : State → Prop}
variable {cc : ByteArray} {w : zk_W} {u : zk_M} {Ts : List Jvm.Cond} {own : String}
/-- what is known at a place, one cell of another type now, and that is where one begins anew -/
theorem zh_up {ps : List Int} {eff : List (Nat × Nat × Nat)} {nL : Nat} {X : Nat → Prop} {P0 : Nat → Option Nat} {G0 : Nat → va_E} {N0 : List Int} {κ : zk_C} {N : List Int} {P : Nat → Option Nat} {F : Nat → va_E} {H : Heap} {locs : List Loc} {ls : Array Slot} (hG : zk_G w s (P0, G0, ps, eff, N0, nL, X) κ N P F H locs ls) {a t0 t1 x : Nat} (hp : P a = some t0) (hx : N[x]? = some (a : Int)) {f : zk_F} (hV : κ.1[x]? = some f) (hf2 : f.1 = 2) {lo hi : Int} (hlo : lo ≤ (a : Int)) (hhi : 0 ≤ hi) (hVs : ∀ y g, y ≠ x → κ.1[y]? = some g → g.1 = 2 → g.2.1 ≠ t0) (hn : ∀ T ∈ w.1, zh_nt T t0 = true) {T0 T1 : zk_T} (hT0 : w.1[t0]? = some T0) (hT1 : w.1[t1]? = some T1) (he : zk_el w s (zk_up P a (some t1)) T1 (F a)) (hrl : zk_rl (zk_up P a (some t1)) F t1 (F a)) {ps' : List Int} {eff' : List (Nat × Nat × Nat)} : zk_G w s (zk_up P a (some t1), F, ps', eff', [], nL, X) (κ.1.set x (2, t1, lo, hi), κ.2.1, κ.2.2.1, κ.2.2.2.1, κ.2.2.2.2.1, [], []) N (zk_up P a (some t1)) F H locs ls := by
  obtain ⟨h1, h2, h3, h4, h5, h6, h7, h8, h9, h10, h11, h12, h13⟩ := hG
  have hl : zk_le κ.1 N (κ.1.set x (2, t1, lo, hi)) N := zk_le.set hV (Or.inl hf2.symm)
  have hnone : ∀ n, P n = none → zk_up P a (some t1) n = none := fun n h => by
    rw [zk_up_ne]
    · exact h
    · intro e
      rw [e, hp] at h
      cases h
  refine ⟨zh_upv hp h1 hx hlo hhi hVs, h2, fun q hq => ?_, (h4.le hl).kept (fun n _ h => ⟨hnone n h, rfl⟩), zh_wt_up h5 hp hn hT0 hT1 he hrl, h6.le hl, fun _ _ h => h, fun _ _ _ => zk_same.rf, h9, fun q h => absurd h List.not_mem_nil, fun q h => absurd h List.not_mem_nil, fun i n h => by simp at h, fun q g1 g2 => ⟨hnone q (h13 q g1 g2).1, (h13 q g1 g2).2⟩⟩
  obtain ⟨n, t, v, z1, z2, z3, z4, z5⟩ := (h3 q hq).le hl
  by_cases e : n.toNat = a
  · exact ⟨n, t1, v, z1, z2, by rw [e]; exact zk_up_self, z4, z5⟩
  · exact ⟨n, t, v, z1, z2, by rw [zk_up_ne e]; exact z3, z4, z5⟩
end ZK36
/-- what was written, also while a cell was of another type -/
theorem zh_ef_up {eff eff' : List (Nat × Nat × Nat)} {ps ps' : List Int} {P0 P : Nat → Option Nat} {G0 F1 F2 : Nat → va_E} {a t0 t1 : Nat} (h1 : zk_ef eff ps P0 G0 F1) (h2 : zk_ef eff' ps' (zk_up P a (some t1)) F1 F2) (hext : ∀ b t, P0 b = some t → P b = some t) (hp : P a = some t0) (hi : ∀ e ∈ eff', (e ∈ eff ∧ e.2.2 = 0) ∧ (e.1 = t1 → (t0, e.2.1, 0) ∈ eff)) : zk_ef eff ps P0 G0 F2 := by
  intro b t hb
  refine (h1 b t hb).trans ?_
  by_cases e : b = a
  · subst e
    have ht := hext b t hb
    rw [hp] at ht
    cases ht
    refine (h2 b t1 zk_up_self).mono (fun k hk => ?_)
    obtain ⟨q, q1, q2, q3, -⟩ := hk
    exact ⟨(t0, q.2.1, 0), (hi q q1).2 q2, rfl, q3, Or.inl rfl⟩
  · refine (h2 b t (by rw [zk_up_ne e]; exact hext b t hb)).mono (fun k hk => ?_)
    obtain ⟨q, q1, q2, q3, -⟩ := hk
    exact ⟨q, (hi q q1).1.1, q2, q3, Or.inl (hi q q1).1.2⟩
