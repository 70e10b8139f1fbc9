/-! part 36: a cell's type is changed for a while -/
noncomputable def zh_nt (T : zk_T) (t : Nat) : Bool := T.2.2.2.all (fun f => f.1 != 2 || f.2.1 != t)
theorem zh_nt_mem {T : zk_T} {t : Nat} (h : zh_nt T t = true) {f : zk_F} (hf : f ∈ T.2.2.2) (h2 : f.1 = 2) : f.2.1 ≠ t := by
  have := List.all_eq_true.mp h f hf
  simp only [Bool.or_eq_true, bne_iff_ne] at this
  rcases this with g | g
  · exact absurd h2 g
  · exact g
theorem zh_rgn_mem : ∀ (r : List zk_F) (j : Nat), zk_rgn r j = (0, 0, 0, 0) ∨ zk_rgn r j ∈ r
  | [], _ => Or.inl rfl
  | f :: r, j => by
    unfold zk_rgn
    by_cases h : j < f.2.1
    · rw [if_pos h]; exact Or.inr (List.mem_cons_self ..)
    · rw [if_neg h]
      rcases zh_rgn_mem r j with g | g
      · exact Or.inl g
      · exact Or.inr (List.mem_cons_of_mem _ g)
theorem zh_fj_mem (T : zk_T) (j : Nat) : zk_fj T j = (0, 0, 0, 0) ∨ zk_fj T j ∈ T.2.2.2 := by
  obtain ⟨k, p, q, fs⟩ := T
  unfold zk_fj
  split
  · rcases zh_rgn_mem fs.tail (j % (zk_f0 (k, p, q, fs)).2.1) with g | g
    · exact Or.inl g
    · exact Or.inr (List.mem_of_mem_tail g)
  · show fs.headD (0, 0, 0, 0) = _ ∨ fs.headD (0, 0, 0, 0) ∈ fs
    cases fs with
    | nil => exact Or.inl rfl
    | cons f r => exact Or.inr (List.mem_cons_self ..)
theorem zh_ok_up {P : Nat → Option Nat} {a t0 t1 : Nat} (hp : P a = some t0) {f : zk_F} (hf : f.1 = 2 → f.2.1 ≠ t0) {n : Int} (h : zk_ok P f n) : zk_ok (zk_up P a (some t1)) f n := by
  obtain ⟨k, t, lo, hi⟩ := f
  match k, h, hf with
  | 0, h, _ => exact h
  | 1, h, _ => exact h
  | 2, h, hf =>
    refine ⟨h.1, h.2.1, h.2.2.1, fun q => ?_⟩
    have h1 := h.2.2.2 q
    rw [zk_up_ne]
    · exact h1
    · intro e
      rw [e, hp] at h1
      exact hf rfl (Option.some.inj h1).symm
  | k + 3, h, _ => exact h
theorem zh_fv_up {P : Nat → Option Nat} {a t0 t1 : Nat} (hp : P a = some t0) {f : zk_F} (hf : f.1 = 2 → f.2.1 ≠ t0) {v : Value} (h : zk_fv P f v) : zk_fv (zk_up P a (some t1)) f v := by
  obtain ⟨n, h1, h2⟩ := h
  exact ⟨n, zh_ok_up hp hf h1, h2⟩
theorem zh_fvs_up {P : Nat → Option Nat} {a t0 t1 : Nat} (hp : P a = some t0) : ∀ {fs : List zk_F} {vs : List Value}, (∀ f ∈ fs, f.1 = 2 → f.2.1 ≠ t0) → zk_all2 (zk_fv P) fs vs → zk_all2 (zk_fv (zk_up P a (some t1))) fs vs
  | [], [], _, _ => trivial
  | f :: _, _ :: _, hf, h => ⟨zh_fv_up hp (hf f (List.mem_cons_self ..)) h.1, zh_fvs_up hp (fun g hg => hf g (List.mem_cons_of_mem _ hg)) h.2⟩
  | [], _ :: _, _, h => h.elim
  | _ :: _, [], _, h => h.elim
theorem zh_el_up {w : zk_W} {U : State} {P : Nat → Option Nat} {a t0 t1 : Nat} (hp : P a = some t0) {T : zk_T} (hn : zh_nt T t0 = true) {e : va_E} (h : zk_el w U P T e) : zk_el w U (zk_up P a (some t1)) T e := by
  have hj : ∀ j, (zk_fj T j).1 = 2 → (zk_fj T j).2.1 ≠ t0 := fun j h2 => by
    rcases zh_fj_mem T j with g | g
    · rw [g] at h2; exact absurd h2 (by decide)
    · exact zh_nt_mem hn g h2
  unfold zk_el at h ⊢
  split at h
  · obtain ⟨fs, h1, h2⟩ := h
    exact ⟨fs, h1, zh_fvs_up hp (fun f hf => zh_nt_mem hn hf) h2⟩
  · obtain ⟨cA, n, f, h1, h2, h3, h4, h5⟩ := h
    exact ⟨cA, n, f, h1, h2, h3, h4, fun j q => zh_fv_up hp (hj j) (h5 j q)⟩
  · obtain ⟨cA, n, f, h1, h2, h3, h4, h5, h6⟩ := h
    exact ⟨cA, n, f, h1, h2, h3, h4, h5, fun j q => zh_fv_up hp (hj j) (h6 j q)⟩
  · obtain ⟨cA, n, f, h1, h2, h3, h4, h5⟩ := h
    exact ⟨cA, n, f, h1, h2, h3, h4, fun j q => zh_fv_up hp (hj j) (h5 j q)⟩
/-- the typed cells, one of another type now -/
theorem zh_wt_up {w : zk_W} {U : State} {P : Nat → Option Nat} {F : Nat → va_E} {H : Heap} (h : zk_wt w U P F H) {a t0 t1 : Nat} (hp : P a = some t0) (hn : ∀ T ∈ w.1, zh_nt T t0 = true) {T0 T1 : zk_T} (hT0 : w.1[t0]? = some T0) (hT1 : w.1[t1]? = some T1) (he : zk_el w U (zk_up P a (some t1)) T1 (F a)) (hrl : zk_rl (zk_up P a (some t1)) F t1 (F a)) : zk_wt w U (zk_up P a (some t1)) F H := by
  have hst : ∀ b t, P b = some t → ∃ t', zk_up P a (some t1) b = some t' := fun b t hb => by
    by_cases e : b = a
    · subst e; exact ⟨t1, zk_up_self⟩
    · exact ⟨t, by rw [zk_up_ne e]; exact hb⟩
  intro q t hq
  by_cases e1 : q = a
  · subst e1
    rw [zk_up_self] at hq
    cases hq
    obtain ⟨-, h2, h3, -⟩ := (zk_wt1.some hT0).mp (h q t0 hp)
    exact (zk_wt1.some hT1).mpr ⟨he, h2, h3, hrl⟩
  · rw [zk_up_ne e1] at hq
    have h1 := h q t hq
    cases hT : w.1[t]? with
    | none => exact (zk_wt1.none hT).mpr ((zk_wt1.none hT).mp h1)
    | some T =>
      obtain ⟨z1, z2, z3, z4⟩ := (zk_wt1.some hT).mp h1
      exact (zk_wt1.some hT).mpr ⟨zh_el_up hp (hn T (List.mem_of_getElem? hT)) z1, z2, z3, z4.step hst (fun b t cA x _ hF => ⟨cA, x, hF, rfl⟩)⟩
section ZK36
variable {p : Program} {l : Launch} {e : Env} {R : Room} {s : State} {m : MethodId} {args : Array Value} {below : List Frame} {meth : Method} {c : Code} {Q : State → Prop}
variable {cc : ByteArray} {w : zk_W} {u : zk_M} {Ts : List Jvm.Cond} {own : String}
end ZK36