/-! part 50: methods gone through over memory as a function of numbers: the rules -/
noncomputable def zp_num (v : Value) : Int := match v with
  | .int c => c.toInt
  | .long c => c.toInt
  | .ref b => (b : Int)
  | _ => -1
/-- the number at place k of the cell at a: a field; 1000 an array's length; 2000 + j its number j -/
noncomputable def zp_n (F : Nat → va_E) (a k : Nat) : Int := match zk_rd (F a) k with
  | some v => zp_num v
  | none => 0
noncomputable def zp_set (G : Nat → Nat → Int) (a k : Nat) (n : Int) : Nat → Nat → Int := fun b j => if b = a ∧ j = k then n else G b j
theorem zp_set_self {G : Nat → Nat → Int} {a k : Nat} {n : Int} : zp_set G a k n a k = n := by simp [zp_set]
theorem zp_set_ne {G : Nat → Nat → Int} {a k : Nat} {n : Int} {b j : Nat} (h : b ≠ a ∨ j ≠ k) : zp_set G a k n b j = G b j := by
  unfold zp_set
  rw [if_neg]
  rintro ⟨h1, h2⟩
  rcases h with h | h
  · exact h h1
  · exact h h2
theorem zp_set_eq {G : Nat → Nat → Int} {a k : Nat} {n : Int} {b j : Nat} (h1 : b = a) (h2 : j = k) : zp_set G a k n b j = n := by
  subst h1; subst h2; exact zp_set_self
theorem zp_num_mk {P : Nat → Option Nat} {f : zk_F} {n : Int} (h : zk_ok P f n) (hk : f.1 ≤ 2) : zp_num (zk_mk f.1 n) = n := by
  obtain ⟨k, t, lo, hi⟩ := f
  match k, h, hk with
  | 0, h, _ => exact zk_i32 h.2.2
  | 1, h, _ => exact zk_i64 h.2.2
  | 2, h, _ =>
    have h1 : -1 ≤ n := h.2.1
    show zp_num (if n < 0 then .null else .ref n.toNat) = n
    split
    · show (-1 : Int) = n
      omega
    · show ((n.toNat : Nat) : Int) = n
      omega
/-- a number of a kind that may stand in a local, on the stack -/
noncomputable def zp_k (q : Nat × Int) : Prop := q.1 ≤ 2 ∧ zk_rg q.1 q.2 ∧ (q.1 = 2 → -1 ≤ q.2)
noncomputable def zp_kb (q : Nat × Int) : Bool := match q.1 with
  | 0 => decide (-2147483648 ≤ q.2) && decide (q.2 ≤ 2147483647)
  | 1 => decide (-9223372036854775808 ≤ q.2) && decide (q.2 ≤ 9223372036854775807)
  | 2 => decide (-1 ≤ q.2)
  | _ => false
theorem zp_kb_ok {q : Nat × Int} (h : zp_kb q = true) : zp_k q := by
  obtain ⟨k, n⟩ := q
  unfold zp_kb at h
  split at h
  · rename_i hk
    dsimp only at hk
    subst hk
    rw [Bool.and_eq_true, decide_eq_true_eq, decide_eq_true_eq] at h
    exact ⟨Nat.zero_le _, h, fun (h : (0 : Nat) = 2) => absurd h (by decide)⟩
  · rename_i hk
    dsimp only at hk
    subst hk
    rw [Bool.and_eq_true, decide_eq_true_eq, decide_eq_true_eq] at h
    exact ⟨(by decide : (1 : Nat) ≤ 2), h, fun (h : (1 : Nat) = 2) => absurd h (by decide)⟩
  · rename_i hk
    dsimp only at hk
    subst hk
    rw [decide_eq_true_eq] at h
    exact ⟨Nat.le_refl 2, trivial, fun _ => h⟩
  · cases h
theorem zp_ok_k {P : Nat → Option Nat} {f : zk_F} {n : Int} (h : zk_ok P f n) (hk : f.1 ≤ 2) : zp_k (f.1, n) := by
  refine ⟨hk, h.rg, fun e => ?_⟩
  obtain ⟨k, t, lo, hi⟩ := f
  dsimp only at e
  subst e
  exact h.2.1
theorem zp_k0 {n : Int} (h : zk_rg 0 n) : zp_k (0, n) := ⟨Nat.zero_le _, h, fun (h : (0 : Nat) = 2) => absurd h (by decide)⟩
theorem zp_k1 {n : Int} (h : zk_rg 1 n) : zp_k (1, n) := ⟨(by decide : (1 : Nat) ≤ 2), h, fun (h : (1 : Nat) = 2) => absurd h (by decide)⟩
theorem zp_r0 {n : Int} (h1 : -2147483648 ≤ n) (h2 : n ≤ 2147483647) : zk_rg 0 n := ⟨h1, h2⟩
theorem zp_r1 {n : Int} (h1 : -9223372036854775808 ≤ n) (h2 : n ≤ 9223372036854775807) : zk_rg 1 n := ⟨h1, h2⟩
theorem zp_o0 {P : Nat → Option Nat} {t : Nat} {lo hi n : Int} (h1 : lo ≤ n) (h2 : n ≤ hi) (h3 : -2147483648 ≤ n) (h4 : n ≤ 2147483647) : zk_ok P (0, t, lo, hi) n := ⟨h1, h2, h3, h4⟩
theorem zp_o1 {P : Nat → Option Nat} {t : Nat} {n : Int} (h : zk_rg 1 n) : zk_ok P (1, t, -9223372036854775808, 9223372036854775807) n := ⟨h.1, h.2, h⟩
theorem zp_o2 {P : Nat → Option Nat} {t a : Nat} (h : P a = some t) : zk_ok P (2, t, 0, 0) (a : Int) := ⟨by show (0 : Int) ≤ a; omega, by show (-1 : Int) ≤ a; omega, fun (h : (0 : Int) < 0) => absurd h (by decide), fun _ => by rw [Int.toNat_natCast]; exact h⟩
theorem zp_vk {q : Nat × Int} (h : zp_k q) : zk_vk q.1 (zk_mk q.1 q.2) := by
  obtain ⟨k, n⟩ := q
  match k, h with
  | 0, _ => exact ⟨_, rfl⟩
  | 1, _ => exact ⟨_, rfl⟩
  | 2, _ =>
    show (if n < 0 then Value.null else .ref n.toNat) = .null ∨ ∃ a, (if n < 0 then Value.null else .ref n.toNat) = .ref a
    split
    · exact Or.inl rfl
    · exact Or.inr ⟨_, rfl⟩
  | k + 3, h => exact absurd h.1 (by show ¬ k + 3 ≤ 2; omega)
/-- typed cells; of those of xs it is not asked what arrays of their type keep -/
noncomputable def zp_wt (w : zk_W) (U : State) (xs : List Nat) (P : Nat → Option Nat) (F : Nat → va_E) (H : Heap) : Prop := ∀ a t, P a = some t → zk_wt1 w U P F H a t ∨ (a ∈ xs ∧ ∃ T, w.1[t]? = some T ∧ zk_el w U P T (F a) ∧ va_at w.2.2.1 w.2.1 (a, F a) H ∧ w.2.2.2.1 ≤ a)
theorem zp_wt.el {w : zk_W} {U : State} {xs : List Nat} {P : Nat → Option Nat} {F : Nat → va_E} {H : Heap} (h : zp_wt w U xs P F H) {a t : Nat} {T : zk_T} (hp : P a = some t) (hT : w.1[t]? = some T) : zk_el w U P T (F a) ∧ va_at w.2.2.1 w.2.1 (a, F a) H ∧ w.2.2.2.1 ≤ a := by
  rcases h a t hp with h1 | ⟨-, T', g1, g2, g3, g4⟩
  · obtain ⟨h1, h2, h3, -⟩ := (zk_wt1.some hT).mp h1
    exact ⟨h1, h2, h3⟩
  · cases hT.symm.trans g1
    exact ⟨g2, g3, g4⟩
theorem zp_wt.strong {w : zk_W} {U : State} {P : Nat → Option Nat} {F : Nat → va_E} {H : Heap} (h : zp_wt w U [] P F H) : zk_wt w U P F H := fun a t hp => (h a t hp).elim (fun z => z) (fun z => absurd z.1 List.not_mem_nil)
theorem zp_wt.of {w : zk_W} {U : State} {xs : List Nat} {P : Nat → Option Nat} {F : Nat → va_E} {H : Heap} (h : zk_wt w U P F H) : zp_wt w U xs P F H := fun a t hp => Or.inl (h a t hp)
/-- back to what is asked of all -/
theorem zp_wt.back {w : zk_W} {U : State} {xs : List Nat} {P : Nat → Option Nat} {F : Nat → va_E} {H : Heap} (h : zp_wt w U xs P F H) (hr : ∀ a t, a ∈ xs → P a = some t → zk_rl P F t (F a)) : zk_wt w U P F H := fun a t hp => by
  rcases h a t hp with h1 | ⟨m, T', g1, g2, g3, g4⟩
  · exact h1
  · exact (zk_wt1.some g1).mpr ⟨g2, g3, g4, hr a t m hp⟩
theorem zp_wt.put {w : zk_W} {U : State} {xs : List Nat} {P : Nat → Option Nat} {F : Nat → va_E} {H H1 : Heap} (h : zp_wt w U xs P F H) {a t : Nat} {T : zk_T} {e : va_E} (hp : P a = some t) (hT : w.1[t]? = some T) (he : zk_el w U P T e) (hat : va_at w.2.2.1 w.2.1 (a, e) H1) (hk : ∀ q, q ≠ a → H1[q]? = H[q]?) (hsm : ∀ (cA : ClassId) (x : vp_A), F a = .inl (cA, x) → ∃ (cA' : ClassId) (x' : vp_A), e = .inl (cA', x') ∧ x'.1 = x.1) (hrl : a ∈ xs ∨ zk_rl P (zk_up F a e) t e) : zp_wt w U xs P (zk_up F a e) H1 := by
  intro q s hq
  by_cases e1 : q = a
  · subst e1
    cases hp.symm.trans hq
    have hb := (h.el hp hT).2.2
    rcases hrl with hx | hrl
    · exact Or.inr ⟨hx, T, hT, by rw [zk_up_self]; exact he, by rw [zk_up_self]; exact hat, hb⟩
    · refine Or.inl ((zk_wt1.some hT).mpr ?_)
      rw [zk_up_self]
      exact ⟨he, hat, hb, hrl⟩
  · rcases h q s hq with h1 | ⟨m, T', g1, g2, g3, g4⟩
    · refine Or.inl (h1.step (fun T z => ?_) (fun _ z => ?_) (fun z => ?_))
      · rw [zk_up_ne e1]; exact z
      · rw [zk_up_ne e1]; exact va_at.kept z (hk q e1)
      · rw [zk_up_ne e1]
        refine z.step (fun b t hb => ⟨t, hb⟩) (fun b t cA x hb hF => ?_)
        by_cases e2 : b = a
        · subst e2
          obtain ⟨cA', x', y1, y2⟩ := hsm cA x hF
          exact ⟨cA', x', by rw [zk_up_self]; exact y1, y2⟩
        · exact ⟨cA, x, by rw [zk_up_ne e2]; exact hF, rfl⟩
    · exact Or.inr ⟨m, T', g1, by rw [zk_up_ne e1]; exact g2, by rw [zk_up_ne e1]; exact va_at.kept g3 (hk q e1), g4⟩
section ZP50
variable {p : Program} {l : Launch} {e : Env} {R : Room} {s : State} {m : MethodId} {args : Array Value} {below : List Frame} {meth : Method} {c : Code} {Q : State → Prop}
variable {cc : ByteArray} {w : zk_W} {u : zk_M} {Ts : List Jvm.Cond} {own : String}
theorem zp_obj {xs : List Nat} {P : Nat → Option Nat} {F : Nat → va_E} {H : Heap} (h : zp_wt w s xs P F H) {a t : Nat} {T : zk_T} (hp : P a = some t) (hT : w.1[t]? = some T) (hs : T.1 = 0) : ∃ fs, F a = .inr (T.2.1, fs) ∧ zk_all2 (zk_fv P) T.2.2.2 fs ∧ va_at w.2.2.1 w.2.1 (a, .inr (T.2.1, fs)) H ∧ w.2.2.2.1 ≤ a := by
  obtain ⟨h1, h2, h3⟩ := h.el hp hT
  unfold zk_el at h1
  rw [hs] at h1
  obtain ⟨fs, e1, e2⟩ := h1
  rw [e1] at h2
  exact ⟨fs, e1, e2, h2, h3⟩
theorem zp_iarr {xs : List Nat} {P : Nat → Option Nat} {F : Nat → va_E} {H : Heap} (h : zp_wt w s xs P F H) {a t : Nat} {T : zk_T} (hp : P a = some t) (hT : w.1[t]? = some T) (hs : T.1 = 1 ∨ T.1 = 4) : ∃ cA n f, F a = .inl (cA, n, .inl f) ∧ T.2.1 ≤ n ∧ n ≤ T.2.2.1 ∧ ArrOfT s cA (zk_aty T.1) ∧ (∀ j, j < n → zk_fv P (zk_fj T j) (.int (f j))) ∧ H[a]? = some (vp_cell cA (n, .inl f)) ∧ w.2.2.2.1 ≤ a := by
  obtain ⟨h1, h2, h3⟩ := h.el hp hT
  unfold zk_el at h1
  rcases hs with hs | hs <;> rw [hs] at h1 ⊢ <;> obtain ⟨cA, n, f, e1, e2⟩ := h1 <;> rw [e1] at h2 <;> exact ⟨cA, n, f, e1, e2.1, e2.2.1, e2.2.2.1, e2.2.2.2, h2, h3⟩
theorem zp_larr {xs : List Nat} {P : Nat → Option Nat} {F : Nat → va_E} {H : Heap} (h : zp_wt w s xs P F H) {a t : Nat} {T : zk_T} (hp : P a = some t) (hT : w.1[t]? = some T) (hs : T.1 = 2) : ∃ cA n f, F a = .inl (cA, n, .inr (.inl f)) ∧ T.2.1 ≤ n ∧ n ≤ T.2.2.1 ∧ ArrOfT s cA .long ∧ (∀ j, j < n → zk_fv P (zk_fj T j) (.long (f j))) ∧ H[a]? = some (vp_cell cA (n, .inr (.inl f))) ∧ w.2.2.2.1 ≤ a := by
  obtain ⟨h1, h2, h3⟩ := h.el hp hT
  unfold zk_el at h1
  rw [hs] at h1
  obtain ⟨cA, n, f, e1, e2⟩ := h1
  rw [e1] at h2
  exact ⟨cA, n, f, e1, e2.1, e2.2.1, e2.2.2.1, e2.2.2.2, h2, h3⟩
/-- where a method stands -/
noncomputable def zp_I (w : zk_W) (s : State) (u : zk_M) (xs : List Nat) (P : Nat → Option Nat) (F : Nat → va_E) (H : Heap) (locs : List Loc) : Prop :=
  zp_wt w s xs P F H ∧ (∀ a t, u.1 a = some t → P a = some t) ∧ zk_ef u.2.2.2.1 u.2.2.1 u.1 u.2.1 F ∧ va_S (fun q => w.2.2.2.1 ≤ q) s.heap H locs ∧ ∀ q, q < s.heap.size → u.2.2.2.2.2.2 q → P q = none ∧ H[q]? = s.heap[q]?
noncomputable def zp_J (p : Program) (l : Launch) (e : Env) (R : Room) (s : State) (m : MethodId) (args : Array Value) (below : List Frame) (meth : Method) (c : Code) (Q : State → Prop) (w : zk_W) (u : zk_M) (xs : List Nat) (pc : Nat) (L : List (Nat × Nat × Int)) (S : List (Nat × Int)) (P : Nat → Option Nat) (G : Nat → Nat → Int) : Prop :=
  ∀ (F : Nat → va_E) (H : Heap) (locs : List Loc) (ls : Array Slot), zp_n F = G → zp_I w s u xs P F H locs → lv_has ls u.2.2.2.2.2.1 (L.map (fun q => (q.1, zk_mk q.2.1 q.2.2))) → (∀ q ∈ L, zp_k q.2) → (∀ q ∈ S, zp_k q) → W p l e R s m args below meth c H locs 0 0 Q (F0 m pc ls (S.map (fun q => zk_mk q.1 q.2)))
variable {xs : List Nat} {pc : Nat} {L : List (Nat × Nat × Int)} {S : List (Nat × Int)} {P : Nat → Option Nat} {G : Nat → Nat → Int}
theorem zp_load (hx : p.tables.exec = Jvm.exec) (hb : c.code = cc) {i : ClassFile.Instr} {k n len : Nat} {v : Int} (hdg : decode cc pc = .ok (i, len)) (hi : zk_ldK i = some (k, n, len)) {j : Nat} (hl : L[j]? = some (n, k, v)) (kk : zp_J p l e R s m args below meth c Q w u xs (pc + len) L ((k, v) :: S) P G) : zp_J p l e R s m args below meth c Q w u xs pc L S P G := by
  intro F H locs ls hF hI hL hkL hkS
  have hm := List.mem_of_getElem? hl
  have hq := hkL _ hm
  exact zw_load hx hb hi hdg (hL.2.2 _ (List.mem_map.mpr ⟨_, hm, rfl⟩)) (zp_vk hq) (kk F H locs ls hF hI hL hkL (List.forall_mem_cons.mpr ⟨hq, hkS⟩))
noncomputable def zp_ckb (k n nL : Nat) : Bool := if k = 1 then decide (n + 1 < nL) else decide (n < nL)
theorem zp_ckb_ok {k n nL : Nat} (h : zp_ckb k n nL = true) : zk_ck k n nL := by
  unfold zp_ckb at h
  unfold zk_ck
  split at h
  · rename_i hk
    rw [if_pos hk]
    exact of_decide_eq_true h
  · rename_i hk
    rw [if_neg hk]
    exact of_decide_eq_true h
noncomputable def zp_st (k n : Nat) (L : List (Nat × Nat × Int)) : List (Nat × Nat × Int) := L.filter (fun q => zk_st1 k n q.1 (if q.2.1 = 1 then 2 else 1))
theorem zp_store (hx : p.tables.exec = Jvm.exec) (hb : c.code = cc) {i : ClassFile.Instr} {k n len nL : Nat} {v : Int} {L' : List (Nat × Nat × Int)} (hnL : u.2.2.2.2.2.1 = nL) (hdg : decode cc pc = .ok (i, len)) (hi : zk_stK i = some (k, n, len)) (hn : zp_ckb k n nL = true) (hL' : (n, k, v) :: zp_st k n L = L') (kk : zp_J p l e R s m args below meth c Q w u xs (pc + len) L' S P G) : zp_J p l e R s m args below meth c Q w u xs pc L ((k, v) :: S) P G := by
  subst hL'
  intro F H locs ls hF hI hL hkL hkS
  have hq := hkS _ List.mem_cons_self
  have hck := zp_ckb_ok hn
  rw [← hnL] at hck
  refine zw_store hx hb hi hdg hL hck (zp_vk hq) (fun ls' hl => kk F H locs ls' hF hI ?_ (fun q h => ?_) (fun q h => hkS q (List.mem_cons_of_mem _ h)))
  · have e : (L.map (fun q => (q.1, zk_mk q.2.1 q.2.2))).filter (fun q => zk_st1 k n q.1 q.2.category) = (zp_st k n L).map (fun q => (q.1, zk_mk q.2.1 q.2.2)) := by
      unfold zp_st
      rw [List.filter_map]
      congr 1
      apply List.filter_congr
      intro q _
      show zk_st1 k n q.1 (zk_mk q.2.1 q.2.2).category = _
      rw [zk_mk_cat]
    rw [e] at hl
    exact hl
  · rcases List.mem_cons.mp h with rfl | h
    · exact hq
    · exact hkL q (List.mem_filter.mp h).1
theorem zp_const (hx : p.tables.exec = Jvm.exec) (hb : c.code = cc) {i : ClassFile.Instr} {k len : Nat} {n : Int} (hdg : decode cc pc = .ok (i, len)) (hi : zk_cnK i = some (k, n, len)) (hk : zp_kb (k, n) = true) (kk : zp_J p l e R s m args below meth c Q w u xs (pc + len) L ((k, n) :: S) P G) : zp_J p l e R s m args below meth c Q w u xs pc L S P G :=
  fun F H locs ls hF hI hL hkL hkS => zw_const hx hb hi hdg (kk F H locs ls hF hI hL hkL (List.forall_mem_cons.mpr ⟨zp_kb_ok hk, hkS⟩))
theorem zp_goto (hx : p.tables.exec = Jvm.exec) (hb : c.code = cc) {off : Int} {tgt : Nat} (hdg : decode cc pc = .ok (.goto off, 3)) (ht : (pc : Int) + off = (tgt : Int)) (kk : zp_J p l e R s m args below meth c Q w u xs tgt L S P G) : zp_J p l e R s m args below meth c Q w u xs pc L S P G :=
  fun F H locs ls hF hI hL hkL hkS => lv_goto hx hb hdg ht (kk F H locs ls hF hI hL hkL hkS)
theorem zp_tl {q : Nat × Int} {S : List (Nat × Int)} (h : ∀ z ∈ q :: S, zp_k z) : zp_k q ∧ ∀ z ∈ S, zp_k z := ⟨h _ List.mem_cons_self, fun z hz => h z (List.mem_cons_of_mem _ hz)⟩
theorem zp_icmp (hx : p.tables.exec = Jvm.exec) (hb : c.code = cc) {k : ClassFile.Cond} {off : Int} {tgt : Nat} {a b : Int} (hdg : decode cc pc = .ok (.if_icmp k off, 3)) (ht : (pc : Int) + off = (tgt : Int)) (kt : zk_cmp k a b → zp_J p l e R s m args below meth c Q w u xs tgt L S P G) (kf : ¬ zk_cmp k a b → zp_J p l e R s m args below meth c Q w u xs (pc + 3) L S P G) : zp_J p l e R s m args below meth c Q w u xs pc L ((0, b) :: (0, a) :: S) P G := by
  intro F H locs ls hF hI hL hkL hkS
  obtain ⟨h1, h2⟩ := zp_tl hkS
  obtain ⟨h3, h4⟩ := zp_tl h2
  exact zw_icmp hx hb hdg ht h3.2.1 h1.2.1 (fun q => kt q F H locs ls hF hI hL hkL h4) (fun q => kf q F H locs ls hF hI hL hkL h4)
theorem zp_if (hx : p.tables.exec = Jvm.exec) (hb : c.code = cc) {k : ClassFile.Cond} {off : Int} {tgt : Nat} {a : Int} (hdg : decode cc pc = .ok (.ifCond k off, 3)) (ht : (pc : Int) + off = (tgt : Int)) (kt : zk_cmp k a 0 → zp_J p l e R s m args below meth c Q w u xs tgt L S P G) (kf : ¬ zk_cmp k a 0 → zp_J p l e R s m args below meth c Q w u xs (pc + 3) L S P G) : zp_J p l e R s m args below meth c Q w u xs pc L ((0, a) :: S) P G := by
  intro F H locs ls hF hI hL hkL hkS
  obtain ⟨h1, h2⟩ := zp_tl hkS
  exact zw_if hx hb hdg ht h1.2.1 (fun q => kt q F H locs ls hF hI hL hkL h2) (fun q => kf q F H locs ls hF hI hL hkL h2)
theorem zp_lcmp (hx : p.tables.exec = Jvm.exec) (hb : c.code = cc) {k : ClassFile.Cond} {off : Int} {tgt : Nat} {a b : Int} (hdg : decode cc pc = .ok (.lcmp, 1)) (hdg2 : decode cc (pc + 1) = .ok (.ifCond k off, 3)) (ht : ((pc + 1 : Nat) : Int) + off = (tgt : Int)) (kt : zk_cmp k a b → zp_J p l e R s m args below meth c Q w u xs tgt L S P G) (kf : ¬ zk_cmp k a b → zp_J p l e R s m args below meth c Q w u xs (pc + 4) L S P G) : zp_J p l e R s m args below meth c Q w u xs pc L ((1, b) :: (1, a) :: S) P G := by
  intro F H locs ls hF hI hL hkL hkS
  obtain ⟨h1, h2⟩ := zp_tl hkS
  obtain ⟨h3, h4⟩ := zp_tl h2
  exact zw_lcmp hx hb hdg hdg2 ht h3.2.1 h1.2.1 (fun q => kt q F H locs ls hF hI hL hkL h4) (fun q => kf q F H locs ls hF hI hL hkL h4)
/-- ints: what two make, where it is in bounds -/
theorem zp_add (hx : p.tables.exec = Jvm.exec) (hb : c.code = cc) {a b n : Int} (hdg : decode cc pc = .ok (.iadd, 1)) (hn : a + b = n) (hr : zk_rg 0 n) (kk : zp_J p l e R s m args below meth c Q w u xs (pc + 1) L ((0, n) :: S) P G) : zp_J p l e R s m args below meth c Q w u xs pc L ((0, b) :: (0, a) :: S) P G := by
  subst hn
  intro F H locs ls hF hI hL hkL hkS
  refine zw_bin (o := 0) hx hb rfl hdg (fun h => absurd h (by decide)) ?_
  have e : zk_bn 0 (Int32.ofInt a) (Int32.ofInt b) = Int32.ofInt (a + b) := by show Int32.ofInt a + Int32.ofInt b = _; rw [← Int32.ofInt_add]
  rw [e]
  exact kk F H locs ls hF hI hL hkL (List.forall_mem_cons.mpr ⟨zp_k0 hr, (zp_tl (zp_tl hkS).2).2⟩)
theorem zp_sub (hx : p.tables.exec = Jvm.exec) (hb : c.code = cc) {a b n : Int} (hdg : decode cc pc = .ok (.isub, 1)) (hn : a - b = n) (hr : zk_rg 0 n) (kk : zp_J p l e R s m args below meth c Q w u xs (pc + 1) L ((0, n) :: S) P G) : zp_J p l e R s m args below meth c Q w u xs pc L ((0, b) :: (0, a) :: S) P G := by
  subst hn
  intro F H locs ls hF hI hL hkL hkS
  refine zw_bin (o := 1) hx hb rfl hdg (fun h => absurd h (by decide)) ?_
  have e : zk_bn 1 (Int32.ofInt a) (Int32.ofInt b) = Int32.ofInt (a - b) := by show Int32.ofInt a - Int32.ofInt b = _; rw [← Int32.ofInt_sub]
  rw [e]
  exact kk F H locs ls hF hI hL hkL (List.forall_mem_cons.mpr ⟨zp_k0 hr, (zp_tl (zp_tl hkS).2).2⟩)
theorem zp_mul (hx : p.tables.exec = Jvm.exec) (hb : c.code = cc) {a b n : Int} (hdg : decode cc pc = .ok (.imul, 1)) (hn : a * b = n) (hr : zk_rg 0 n) (kk : zp_J p l e R s m args below meth c Q w u xs (pc + 1) L ((0, n) :: S) P G) : zp_J p l e R s m args below meth c Q w u xs pc L ((0, b) :: (0, a) :: S) P G := by
  subst hn
  intro F H locs ls hF hI hL hkL hkS
  refine zw_bin (o := 2) hx hb rfl hdg (fun h => absurd h (by decide)) ?_
  have e : zk_bn 2 (Int32.ofInt a) (Int32.ofInt b) = Int32.ofInt (a * b) := by show Int32.ofInt a * Int32.ofInt b = _; rw [← Int32.ofInt_mul]
  rw [e]
  exact kk F H locs ls hF hI hL hkL (List.forall_mem_cons.mpr ⟨zp_k0 hr, (zp_tl (zp_tl hkS).2).2⟩)
theorem zp_of32 (v : Int32) : Value.int v = zk_mk 0 v.toInt := congrArg Value.int (zk_to32 v).2
/-- .. where its bounds are enough -/
theorem zp_bin (hx : p.tables.exec = Jvm.exec) (hb : c.code = cc) {i : ClassFile.Instr} {o : Nat} {a b : Int} (hdg : decode cc pc = .ok (i, 1)) (hi : zk_bnK i = some o) (hne : 9 ≤ o → b ≠ 0) {la ha lb hb' : Int} (h1 : la ≤ a) (h2 : a ≤ ha) (h3 : lb ≤ b) (h4 : b ≤ hb') (kk : ∀ n : Int, zk_rg 0 n → (zk_bnI o la ha lb hb').1 ≤ n → n ≤ (zk_bnI o la ha lb hb').2 → zp_J p l e R s m args below meth c Q w u xs (pc + 1) L ((0, n) :: S) P G) : zp_J p l e R s m args below meth c Q w u xs pc L ((0, b) :: (0, a) :: S) P G := by
  intro F H locs ls hF hI hL hkL hkS
  obtain ⟨k1, k2⟩ := zp_tl hkS
  obtain ⟨k3, k4⟩ := zp_tl k2
  refine zw_bin hx hb hi hdg (fun h9 hz => ?_) ?_
  · have e0 := zk_i32 k1.2.1
    dsimp only at e0
    rw [hz] at e0
    have : (0 : Int32).toInt = 0 := by decide
    have := hne h9
    omega
  · have hin := zk_bn_in (o := o) k3.2.1 k1.2.1 h1 h2 h3 h4
    rw [zp_of32]
    have hr := (zk_to32 (zk_bn o (Int32.ofInt a) (Int32.ofInt b))).1
    exact kk _ hr hin.1 hin.2 F H locs ls hF hI hL hkL (List.forall_mem_cons.mpr ⟨zp_k0 hr, k4⟩)
theorem zp_i2l (hx : p.tables.exec = Jvm.exec) (hb : c.code = cc) {a : Int} (hdg : decode cc pc = .ok (.i2l, 1)) (kk : zp_J p l e R s m args below meth c Q w u xs (pc + 1) L ((1, a) :: S) P G) : zp_J p l e R s m args below meth c Q w u xs pc L ((0, a) :: S) P G := by
  intro F H locs ls hF hI hL hkL hkS
  obtain ⟨k1, k2⟩ := zp_tl hkS
  have ra : zk_rg 0 a := k1.2.1
  have r1 : zk_rg 1 a := ⟨by have := ra.1; omega, by have := ra.2; omega⟩
  refine lv_i2l (v := Int64.ofInt a) hx hb hdg ?_ (kk F H locs ls hF hI hL hkL (List.forall_mem_cons.mpr ⟨zp_k1 r1, k2⟩))
  rw [← Int64.toInt_inj, Int32.toInt_toInt64, zk_i32 ra, zk_i64 r1]
theorem zp_l2i (hx : p.tables.exec = Jvm.exec) (hb : c.code = cc) {a : Int} (hdg : decode cc pc = .ok (.l2i, 1)) (kk : ∀ n : Int, zk_rg 0 n → (zk_rg 0 a → n = a) → zp_J p l e R s m args below meth c Q w u xs (pc + 1) L ((0, n) :: S) P G) : zp_J p l e R s m args below meth c Q w u xs pc L ((1, a) :: S) P G := by
  intro F H locs ls hF hI hL hkL hkS
  obtain ⟨k1, k2⟩ := zp_tl hkS
  have ra : zk_rg 1 a := k1.2.1
  have hr := (zk_to32 (Int64.ofInt a).toInt32).1
  refine lv_l2i hx hb hdg rfl ?_
  rw [zp_of32]
  refine kk _ hr (fun h => ?_) F H locs ls hF hI hL hkL (List.forall_mem_cons.mpr ⟨zp_k0 hr, k2⟩)
  have e1 : (zk_clip a a).1 = a ∧ (zk_clip a a).2 = a := by
    unfold zk_clip
    rw [if_pos ⟨by have := h.1; unfold zk_m31; omega, by have := h.2; unfold zk_p31; omega⟩]
    exact ⟨rfl, rfl⟩
  have e2 := zk_l2i_in ra (Int.le_refl a) (Int.le_refl a)
  omega
theorem zp_cat {q : Nat × Int} (h : q.1 ≠ 1) : (zk_mk q.1 q.2).category = 1 := by rw [zk_mk_cat, if_neg h]
theorem zp_dup (hx : p.tables.exec = Jvm.exec) (hb : c.code = cc) {q : Nat × Int} (hdg : decode cc pc = .ok (.dup, 1)) (hq : q.1 ≠ 1) (kk : zp_J p l e R s m args below meth c Q w u xs (pc + 1) L (q :: q :: S) P G) : zp_J p l e R s m args below meth c Q w u xs pc L (q :: S) P G :=
  fun F H locs ls hF hI hL hkL hkS => lv_dup hx hb hdg (zp_cat hq) (kk F H locs ls hF hI hL hkL (List.forall_mem_cons.mpr ⟨(zp_tl hkS).1, hkS⟩))
theorem zp_dup2 (hx : p.tables.exec = Jvm.exec) (hb : c.code = cc) {q r : Nat × Int} (hdg : decode cc pc = .ok (.dup2, 1)) (hq : q.1 ≠ 1) (hr : r.1 ≠ 1) (kk : zp_J p l e R s m args below meth c Q w u xs (pc + 1) L (q :: r :: q :: r :: S) P G) : zp_J p l e R s m args below meth c Q w u xs pc L (q :: r :: S) P G :=
  fun F H locs ls hF hI hL hkL hkS => lv_dup2_11 hx hb hdg (zp_cat hq) (zp_cat hr) (kk F H locs ls hF hI hL hkL (List.forall_mem_cons.mpr ⟨(zp_tl hkS).1, List.forall_mem_cons.mpr ⟨(zp_tl (zp_tl hkS).2).1, hkS⟩⟩))
theorem zp_pop (hx : p.tables.exec = Jvm.exec) (hb : c.code = cc) {q : Nat × Int} (hdg : decode cc pc = .ok (.pop, 1)) (hq : q.1 ≠ 1) (kk : zp_J p l e R s m args below meth c Q w u xs (pc + 1) L S P G) : zp_J p l e R s m args below meth c Q w u xs pc L (q :: S) P G :=
  fun F H locs ls hF hI hL hkL hkS => lv_pop hx hb hdg (zp_cat hq) (kk F H locs ls hF hI hL hkL (zp_tl hkS).2)
end ZP50
