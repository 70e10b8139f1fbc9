/-! part 3: what is known at a place: variables (kind, type, least, most); differences; fields read; objects not yet made; locals; which variables are the parameters; which are new -/
abbrev zk_C : Type := List zk_F × List (Nat × Nat × Int) × List (Nat × Nat × zk_S) × List (Nat × Nat × List zk_S) × List (Nat × zk_S) × List (Nat × Nat) × List Nat
/-- the method's own constants: the types and contents at its entry, its parameters' numbers, what it may write, the numbers at the block's head, how many locals, which of the older cells it leaves alone though they have no type -/
abbrev zk_M : Type := (Nat → Option Nat) × (Nat → va_E) × List Int × List (Nat × Nat × Nat) × List Int × Nat × (Nat → Prop)
noncomputable def zk_df (N : List Int) (D : List (Nat × Nat × Int)) : Prop := ∀ q ∈ D, ∃ n k, N[q.1]? = some n ∧ N[q.2.1]? = some k ∧ n ≤ k + q.2.2
noncomputable def zk_fa1 (V : List zk_F) (N : List Int) (P : Nat → Option Nat) (F : Nat → va_E) (x k : Nat) (q : zk_S) : Prop := ∃ n t v, N[x]? = some n ∧ 0 ≤ n ∧ P n.toNat = some t ∧ zk_rd (F n.toNat) k = some v ∧ zk_sv V N q v
noncomputable def zk_fa (V : List zk_F) (N : List Int) (P : Nat → Option Nat) (F : Nat → va_E) (A : List (Nat × Nat × zk_S)) : Prop := ∀ q ∈ A, zk_fa1 V N P F q.1 q.2.1 q.2.2
noncomputable def zk_rw (w : zk_W) (X : Nat → Prop) (V : List zk_F) (N : List Int) (P : Nat → Option Nat) (H : Heap) : List (Nat × Nat × List zk_S) → Nat → Prop
  | [], _ => True
  | q :: r, b => ∃ n : Nat, ∃ fs, N[q.1]? = some (n : Int) ∧ n < b ∧ (w.2.2.2.1 ≤ n ∧ ¬ X n) ∧ P n = none ∧ va_at w.2.2.1 w.2.1 (n, .inr (q.2.1, fs)) H ∧ zk_all2 (zk_sv V N) q.2.2 fs ∧ zk_rw w X V N P H r n
noncomputable def zk_lr (V : List zk_F) (N : List Int) (q : Nat × zk_S) (r : Nat × Value) : Prop := q.1 = r.1 ∧ zk_sv V N q.2 r.2
noncomputable def zk_lo (V : List zk_F) (N : List Int) (ls : Array Slot) (nL : Nat) (L : List (Nat × zk_S)) : Prop := ∃ lv, lv_has ls nL lv ∧ zk_all2 (zk_lr V N) L lv
noncomputable def zk_pa (N : List Int) (ps : List Int) (A : List (Nat × Nat)) : Prop := ∀ q ∈ A, ∃ n, N[q.2]? = some n ∧ ps[q.1]? = some n
noncomputable def zk_fr (N : List Int) (P0 : Nat → Option Nat) (A : List Nat) : Prop := ∀ x ∈ A, ∃ n, N[x]? = some n ∧ 0 ≤ n ∧ P0 n.toNat = none
noncomputable def zk_G (w : zk_W) (s : State) (u : zk_M) (κ : zk_C) (N : List Int) (P : Nat → Option Nat) (F : Nat → va_E) (H : Heap) (locs : List Loc) (ls : Array Slot) : Prop :=
  zk_all2 (zk_ok P) κ.1 N ∧ zk_df N κ.2.1 ∧ zk_fa κ.1 N P F κ.2.2.1 ∧ zk_rw w (fun n => n < s.heap.size ∧ u.2.2.2.2.2.2 n) κ.1 N P H κ.2.2.2.1 H.size ∧ zk_wt w s P F H ∧ zk_lo κ.1 N ls u.2.2.2.2.2.1 κ.2.2.2.2.1 ∧
  (∀ a t, u.1 a = some t → P a = some t) ∧ zk_ef u.2.2.2.1 u.2.2.1 u.1 u.2.1 F ∧ va_S (fun q => w.2.2.2.1 ≤ q) s.heap H locs ∧ zk_pa N u.2.2.1 κ.2.2.2.2.2.1 ∧ zk_fr N u.1 κ.2.2.2.2.2.2 ∧ (∀ (i : Nat) (n : Int), u.2.2.2.2.1[i]? = some n → N[i]? = some n) ∧ ∀ q, q < s.heap.size → u.2.2.2.2.2.2 q → P q = none ∧ H[q]? = s.heap[q]?
theorem zk_df.le {V V' : List zk_F} {N N' : List Int} {D : List (Nat × Nat × Int)} (hl : zk_le V N V' N') (h : zk_df N D) : zk_df N' D := by
  intro q hq
  obtain ⟨n, k, h1, h2, h3⟩ := h q hq
  exact ⟨n, k, hl.1 _ _ h1, hl.1 _ _ h2, h3⟩
theorem zk_fa1.le {V V' : List zk_F} {N N' : List Int} {P : Nat → Option Nat} {F : Nat → va_E} {x k : Nat} {q : zk_S} (hl : zk_le V N V' N') (h : zk_fa1 V N P F x k q) : zk_fa1 V' N' P F x k q := by
  obtain ⟨n, t, v, h1, h2, h3, h4, h5⟩ := h
  exact ⟨n, t, v, hl.1 _ _ h1, h2, h3, h4, hl.2 _ _ h5⟩
theorem zk_rw.le {w : zk_W} {X : Nat → Prop} {V V' : List zk_F} {N N' : List Int} {P : Nat → Option Nat} {H : Heap} (hl : zk_le V N V' N') : ∀ {r : List (Nat × Nat × List zk_S)} {b : Nat}, zk_rw w X V N P H r b → zk_rw w X V' N' P H r b
  | [], _, _ => trivial
  | _ :: _, _, ⟨n, fs, h1, h2, h3, h4, h5, h6, h7⟩ => ⟨n, fs, hl.1 _ _ h1, h2, h3, h4, h5, zk_all2_imp hl.2 h6, zk_rw.le hl h7⟩
theorem zk_rw.mono {w : zk_W} {X : Nat → Prop} {V : List zk_F} {N : List Int} {P : Nat → Option Nat} {H : Heap} {b b' : Nat} (hb : b ≤ b') : ∀ {r : List (Nat × Nat × List zk_S)}, zk_rw w X V N P H r b → zk_rw w X V N P H r b'
  | [], _ => trivial
  | _ :: _, ⟨n, fs, h1, h2, h3⟩ => ⟨n, fs, h1, by omega, h3⟩
/-- the raw objects stay where the typed cells and the heap beside them change -/
theorem zk_rw.kept {w : zk_W} {X : Nat → Prop} {V : List zk_F} {N : List Int} {P P' : Nat → Option Nat} {H H' : Heap} : ∀ {r : List (Nat × Nat × List zk_S)} {b : Nat}, zk_rw w X V N P H r b → (∀ n, n < b → P n = none → P' n = none ∧ H'[n]? = H[n]?) → zk_rw w X V N P' H' r b
  | [], _, _, _ => trivial
  | _ :: _, _, ⟨n, fs, h1, h2, h3, h4, h5, h6, h7⟩, hk => ⟨n, fs, h1, h2, h3, (hk n h2 h4).1, va_at.kept h5 (hk n h2 h4).2, h6, zk_rw.kept h7 (fun q hq hn => hk q (Nat.lt_trans hq h2) hn)⟩
theorem zk_lo.le {V V' : List zk_F} {N N' : List Int} {ls : Array Slot} {nL : Nat} {L : List (Nat × zk_S)} (hl : zk_le V N V' N') (h : zk_lo V N ls nL L) : zk_lo V' N' ls nL L := by
  obtain ⟨lv, h1, h2⟩ := h
  exact ⟨lv, h1, zk_all2_imp (fun _ _ q => ⟨q.1, hl.2 _ _ q.2⟩) h2⟩
theorem zk_G.le {w : zk_W} {s : State} {u : zk_M} {κ : zk_C} {N N' : List Int} {V' : List zk_F} {P : Nat → Option Nat} {F : Nat → va_E} {H : Heap} {locs : List Loc} {ls : Array Slot} (h : zk_G w s u κ N P F H locs ls) (hl : zk_le κ.1 N V' N') (hv : zk_all2 (zk_ok P) V' N') : zk_G w s u (V', κ.2) N' P F H locs ls := by
  obtain ⟨h1, h2, h3, h4, h5, h6, h7, h8, h9, h10, h11, h12, h13⟩ := h
  exact ⟨hv, h2.le hl, fun q hq => (h3 q hq).le hl, h4.le hl, h5, h6.le hl, h7, h8, h9, fun q hq => (h10 q hq).imp fun n z => ⟨hl.1 _ _ z.1, z.2⟩, fun q hq => (h11 q hq).imp fun n z => ⟨hl.1 _ _ z.1, z.2⟩, fun i n z => hl.1 _ _ (h12 i n z), h13⟩
theorem zk_G.push {w : zk_W} {s : State} {u : zk_M} {κ : zk_C} {N : List Int} {P : Nat → Option Nat} {F : Nat → va_E} {H : Heap} {locs : List Loc} {ls : Array Slot} (h : zk_G w s u κ N P F H locs ls) {f : zk_F} {n : Int} (hf : zk_ok P f n) : zk_G w s u (κ.1 ++ [f], κ.2) (N ++ [n]) P F H locs ls :=
  h.le (zk_le.snoc f n) (zk_all2_snoc hf h.1)
theorem zk_sv_last {V : List zk_F} {N : List Int} {P : Nat → Option Nat} (h : zk_all2 (zk_ok P) V N) {f : zk_F} {n : Int} (hf : zk_ok P f n) : zk_sv (V ++ [f]) (N ++ [n]) (V.length, 0) (zk_mk f.1 n) := by
  refine ⟨f, n, zk_get_last, ?_, ?_, ?_⟩
  · rw [zk_all2_len h]; exact zk_get_last
  · simpa using hf.rg
  · simp
/-- one variable narrower -/
theorem zk_G.set {w : zk_W} {s : State} {u : zk_M} {κ : zk_C} {N : List Int} {P : Nat → Option Nat} {F : Nat → va_E} {H : Heap} {locs : List Loc} {ls : Array Slot} (h : zk_G w s u κ N P F H locs ls) {x : Nat} {f f' : zk_F} (hf : κ.1[x]? = some f) (hk : f'.1 = f.1 ∨ (2 ≤ f'.1 ∧ 2 ≤ f.1)) (hn : ∀ n, N[x]? = some n → zk_ok P f n → zk_ok P f' n) : zk_G w s u (κ.1.set x f', κ.2) N P F H locs ls := by
  refine h.le (zk_le.set hf hk) (zk_all2_setL h.1 fun n hx => ?_)
  obtain ⟨n', h1, h2⟩ := zk_all2_get h.1 hf
  cases hx.symm.trans h1
  exact hn n hx h2
theorem zk_G.dif {w : zk_W} {s : State} {u : zk_M} {κ : zk_C} {N : List Int} {P : Nat → Option Nat} {F : Nat → va_E} {H : Heap} {locs : List Loc} {ls : Array Slot} (h : zk_G w s u κ N P F H locs ls) {q : Nat × Nat × Int} (hq : ∃ n k, N[q.1]? = some n ∧ N[q.2.1]? = some k ∧ n ≤ k + q.2.2) : zk_G w s u (κ.1, q :: κ.2.1, κ.2.2) N P F H locs ls := by
  obtain ⟨h1, h2, h3⟩ := h
  refine ⟨h1, fun z hz => ?_, h3⟩
  rcases List.mem_cons.mp hz with rfl | hz
  · exact hq
  · exact h2 z hz
noncomputable def zk_kd (V : List zk_F) (q : zk_S) : Nat := match V[q.1]? with
  | some f => f.1
  | none => 99
noncomputable def zk_lw (V : List zk_F) (q : zk_S) : Int := match V[q.1]? with
  | some f => f.2.2.1 + q.2
  | none => 0
noncomputable def zk_hg (V : List zk_F) (q : zk_S) : Int := match V[q.1]? with
  | some f => f.2.2.2 + q.2
  | none => 0
/-- a value of kind 0: its number, within its bounds -/
theorem zk_sv.int {P : Nat → Option Nat} {V : List zk_F} {N : List Int} (h : zk_all2 (zk_ok P) V N) {q : zk_S} {v : Value} (hv : zk_sv V N q v) (hk : zk_kd V q = 0) : ∃ n, v = .int (Int32.ofInt n) ∧ zk_rg 0 n ∧ zk_lw V q ≤ n ∧ n ≤ zk_hg V q ∧ ∃ k, N[q.1]? = some k ∧ n = k + q.2 := by
  obtain ⟨f, n, h1, h2, h3, h4⟩ := hv
  unfold zk_kd at hk
  unfold zk_lw zk_hg
  rw [h1] at hk ⊢
  obtain ⟨n', e1, e2⟩ := zk_all2_get h h1
  cases h2.symm.trans e1
  have hk : f.1 = 0 := hk
  have iv := e2.iv (by omega)
  rw [hk] at h3 h4
  exact ⟨n + q.2, h4, h3, by show f.2.2.1 + q.2 ≤ _; omega, by show _ ≤ f.2.2.2 + q.2; omega, n, h2, rfl⟩
theorem zk_sv.long {P : Nat → Option Nat} {V : List zk_F} {N : List Int} (h : zk_all2 (zk_ok P) V N) {q : zk_S} {v : Value} (hv : zk_sv V N q v) (hk : zk_kd V q = 1) : ∃ n, v = .long (Int64.ofInt n) ∧ zk_rg 1 n ∧ zk_lw V q ≤ n ∧ n ≤ zk_hg V q ∧ ∃ k, N[q.1]? = some k ∧ n = k + q.2 := by
  obtain ⟨f, n, h1, h2, h3, h4⟩ := hv
  unfold zk_kd at hk
  unfold zk_lw zk_hg
  rw [h1] at hk ⊢
  obtain ⟨n', e1, e2⟩ := zk_all2_get h h1
  cases h2.symm.trans e1
  have hk : f.1 = 1 := hk
  have iv := e2.iv (by omega)
  rw [hk] at h3 h4
  exact ⟨n + q.2, h4, h3, by show f.2.2.1 + q.2 ≤ _; omega, by show _ ≤ f.2.2.2 + q.2; omega, n, h2, rfl⟩
theorem zk_mk_ref {k : Nat} (hk : 2 ≤ k) (n : Int) : zk_mk k n = if n < 0 then .null else .ref n.toNat := by
  match k, hk with
  | i + 2, _ => rfl
/-- a reference, of any kind: null or a cell's address -/
theorem zk_sv.ref {V : List zk_F} {N : List Int} {q : zk_S} {v : Value} (hv : zk_sv V N q v) (hk : 2 ≤ zk_kd V q) (hk2 : zk_kd V q < 99) : (v = .null ∨ ∃ a, v = .ref a) ∧ ∃ n, N[q.1]? = some n ∧ v = if n + q.2 < 0 then .null else .ref (n + q.2).toNat := by
  obtain ⟨f, n, h1, h2, h3, h4⟩ := hv
  unfold zk_kd at hk
  rw [h1] at hk
  rw [zk_mk_ref hk] at h4
  refine ⟨?_, n, h2, h4⟩
  rw [h4]
  split
  · exact Or.inl rfl
  · exact Or.inr ⟨_, rfl⟩
theorem zk_sv.cat {V : List zk_F} {N : List Int} {q : zk_S} {v : Value} (hv : zk_sv V N q v) : v.category = if zk_kd V q = 1 then 2 else 1 := by
  obtain ⟨f, n, h1, h2, h3, h4⟩ := hv
  unfold zk_kd
  rw [h1, h4]
  obtain ⟨k, r⟩ := f
  match k with
  | 0 => rfl
  | 1 => rfl
  | k + 2 =>
    show (if _ then Value.null else Value.ref _).category = if k + 2 = 1 then 2 else 1
    have e9 : ¬ k + 2 = 1 := by omega
    simp only [e9, if_false]
    split <;> rfl
