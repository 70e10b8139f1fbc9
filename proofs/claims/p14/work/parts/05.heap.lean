/-! part 5: one cell read, written, made -/
/-- what the tables say of the classes: their fields are laid, their names apart, their types -/
noncomputable def zk_cls (w : zk_W) (Ts : List Jvm.Cond) : Prop := ∀ (ci : Nat) (C : String) (T : u_T) (N : Nat), w.2.1[ci]? = some (C, T, N) → (∀ x ∈ u_ws C T N, x ∈ Ts) ∧ (∀ a, a < N → ∀ b, b < N → a ≠ b → (T a).2.1 ≠ (T b).2.1) ∧ ∃ ty : Nat → FieldType, ∀ k, k < N → parseFieldDescriptor (T k).2.2.1 = some (ty k)
/-- a place in the pool of 'own' names field k of class ci -/
noncomputable def zk_fl (w : zk_W) (s : State) (args : Array Value) (own : String) (idx ci k : Nat) : Prop := ∃ (C : String) (T : u_T) (N : Nat) (ref : String), w.2.1[ci]? = some (C, T, N) ∧ k < N ∧ (∀ x, s.fieldFound? (T k).1 (T k).2.1 (T k).2.2.1 = some x → s.fieldFound? ref (T k).2.1 (T k).2.2.1 = some x) ∧
  ((Jvm.Cond.fieldLink own idx ref (T k).2.1 (T k).2.2.1).before args s = true ∨ ∃ host, (Jvm.Cond.fieldLinkNest own idx ref (T k).2.1 (T k).2.2.1 host).before args s = true)
theorem zk_P1 {D : va_G} {cl : List vw_C} {q : Nat × va_E} {H : Heap} (h : va_at D cl q H) : va_P D cl [q] H := by
  intro k z hz
  match k with
  | 0 =>
    simp at hz
    subst hz
    exact h
  | k + 1 => simp at hz
section ZKH
variable {p : Program} {l : Launch} {e : Env} {R : Room} {s : State} {m : MethodId} {args : Array Value} {below : List Frame} {meth : Method} {c : Code} {H : Heap} {locs : List Loc} {cells slots : Nat} {Q : State → Prop}
variable {cc : ByteArray} {pc : Nat} {ls : Array Slot} {rest : List Value} {w : zk_W} {Ts : List Jvm.Cond} {own : String}
theorem zw_getf (hx : p.tables.exec = Jvm.exec) (hb : c.code = cc) (hts : ∀ x ∈ Ts, x.before args s = true) (hcl : zk_cls w Ts) (hown : s.vm.findClass own = some m.cls) (hK : va_K w.2.2.1 w.2.1 [] s) {idx ci k : Nat} (hF : zk_fl w s args own idx ci k) {a : Nat} {fs : List Value} (hat : va_at w.2.2.1 w.2.1 (a, .inr (ci, fs)) H) {v : Value} (hv : fs[k]? = some v) (hdg : decode cc pc = .ok (.getfield idx, 3))
    (kk : W p l e R s m args below meth c H locs cells slots Q (F0 m (pc + 3) ls (v :: rest))) : W p l e R s m args below meth c H locs cells slots Q (F0 m pc ls (.ref a :: rest)) := by
  obtain ⟨C, T, N, ref, hc, hk, hsame, hl | ⟨host, hl⟩⟩ := hF
  · exact va_get (ws := [(a, .inr (ci, fs))]) hx hb hts (hcl ci C T N hc).1 hown hK (zk_P1 hat) 0 rfl hc k hk hl hsame hv hdg kk
  · exact va_getN (ws := [(a, .inr (ci, fs))]) hx hb hts (hcl ci C T N hc).1 hown hK (zk_P1 hat) 0 rfl hc k hk hl hsame hv hdg kk
theorem zw_putf (hx : p.tables.exec = Jvm.exec) (hb : c.code = cc) (hts : ∀ x ∈ Ts, x.before args s = true) (hcl : zk_cls w Ts) (hown : s.vm.findClass own = some m.cls) (hK : va_K w.2.2.1 w.2.1 [] s) {idx ci k : Nat} (hF : zk_fl w s args own idx ci k) {a : Nat} {fs : List Value} (hat : va_at w.2.2.1 w.2.1 (a, .inr (ci, fs)) H) {v : Value}
    (hfin : ∀ (C : String) (T : u_T) (N : Nat), w.2.1[ci]? = some (C, T, N) → (T k).2.2.2 = false ∨ ((T k).2.2.2 = true ∧ meth.name = "<init>" ∧ (T k).1 = own)) (hty : ∀ (C : String) (T : u_T) (N : Nat), w.2.1[ci]? = some (C, T, N) → ∃ ty, parseFieldDescriptor (T k).2.2.1 = some ty ∧ narrow ty v = v ∧ fits ty v = true) (hlen : k < fs.length) (hdg : decode cc pc = .ok (.putfield idx, 3))
    (kk : ∀ (H1 : Heap) (j : Nat), va_at w.2.2.1 w.2.1 (a, .inr (ci, fs.set k v)) H1 → H1.size = H.size → (∀ q, q ≠ a → H1[q]? = H[q]?) → W p l e R s m args below meth c H1 (locs ++ [⟨a, j⟩]) cells slots Q (F0 m (pc + 3) ls rest)) : W p l e R s m args below meth c H locs cells slots Q (F0 m pc ls (v :: .ref a :: rest)) := by
  obtain ⟨C, T, N, ref, hc, hk, hsame, hl⟩ := hF
  obtain ⟨hin, hnm, ty0, hty0⟩ := hcl ci C T N hc
  have hap := va_apart (own := own) hts hin ty0 hty0 hnm hK hc
  obtain ⟨r, h1, cell, q1, q2, q3, q4⟩ := hat
  have hr : r = (C, T, N) := Option.some.inj (h1.symm.trans hc)
  subst hr
  obtain ⟨hS, hfc, kC, hkC, hkind⟩ := hK.1 ci _ hc
  obtain ⟨cf, kf, fi, f, hi, hsl⟩ := hS k hk
  obtain ⟨ty, hd, hn, hfit⟩ := hty C T N hc
  have hst := (u_facts hfc hkC (u_lays hts hin hk) hi).1
  have hlay := hts _ (hin _ (u_in_lay hk))
  unfold u_lay at hlay
  have fin : ∀ H1 : Heap, H1[a]? = some (cell.setSlot f.slot v) → H1.size = H.size → (∀ q, q ≠ a → H1[q]? = H[q]?) → W p l e R s m args below meth c H1 (locs ++ [⟨a, f.slot⟩]) cells slots Q (F0 m (pc + 3) ls rest) := by
    intro H1 e1 e2 e3
    rw [hsl] at e1 ⊢
    exact kk H1 _ ⟨_, hc, t_OB.to (V := updV (vp_V fs) k v) ⟨_, e1, q2, q3, t_set q4 hap hk v⟩ (fun j _ => vp_updV_set hlen v j)⟩ e2 e3
  rcases hfin C T N hc with hf | ⟨hf, hin2, hdecl⟩
  · rw [if_neg (by rw [hf]; decide)] at hlay
    have h6 := u_store hfc hkC hkind hlay hi hd hn hfit
    rcases hl with hl | ⟨host, hl⟩
    · exact W.putK hx hb (f := f) ⟨hown, hl, ⟨_, _, _, hsame _ hi⟩, hst⟩ (by rw [q2]; exact h6) q1 q3 (by rw [hsl]; exact k2_hasslot (q4 k hk)) rfl rfl hdg fin
    · exact va_WputK hx hb (f := f) hown hl (hsame _ hi) hst (by rw [q2]; exact h6) q1 q3 (by rw [hsl]; exact k2_hasslot (q4 k hk)) rfl rfl hdg fin
  · rw [if_pos hf] at hlay
    have hcf : m.cls = cf := by
      obtain ⟨_, _, c', _, _, _, -, -, hf', -, -, -, hown2, -⟩ := Cond.laysFinal_spec hlay
      have e1 : c' = cf := by have := hi.symm.trans hf'; simp at this; exact this.1.symm
      rw [hdecl] at hown2
      rw [← e1]; exact Option.some.inj (hown.symm.trans hown2)
    have h6 := u_fits hfc hkC hkind (Or.inr hlay) hi hd hn hfit
    rcases hl with hl | ⟨host, hl⟩
    · exact W.putFinK hx hb hown hl (hsame _ hi) hst hcf hin2 (by rw [q2]; exact h6) q1 q3 (by rw [hsl]; exact k2_hasslot (q4 k hk)) rfl rfl hdg fin
    · have ha : a < H.size := (Array.getElem?_eq_some_iff.mp q1).1
      refine va_Wputf hx hb hown hl (hsame _ hi) hst (Or.inr ⟨hcf, hin2⟩) q1 (by rw [q3]; exact fun h => by cases h) (by rw [hsl]; exact k2_hasslot (q4 k hk)) h6.1 (by rw [q2, q3]; exact h6.2) rfl rfl hdg (fin _ ?_ ?_ ?_)
      · simp [Array.getElem?_setIfInBounds, ha]
      · simp
      · intro q hq
        simp [Array.getElem?_setIfInBounds, Ne.symm hq]
/-- a new object: its fields as they are at first -/
theorem zw_newo (hx : p.tables.exec = Jvm.exec) (hb : c.code = cc) (hts : ∀ x ∈ Ts, x.before args s = true) (hcl : zk_cls w Ts) (hown : s.vm.findClass own = some m.cls) (hK : va_K w.2.2.1 w.2.1 [] s) {idx ci : Nat} {C : String} {T : u_T} {N : Nat} (hc : w.2.1[ci]? = some (C, T, N)) (hclk : (Jvm.Cond.classLink own idx C).before args s = true) (hinst : (Jvm.Cond.instantiable C N).before args s = true) (hini : (Jvm.Cond.initialized C).before args s = true) {fs : List Value}
    (hfs : ∀ j ty, j < N → parseFieldDescriptor (T j).2.2.1 = some ty → defaultValue ty = vp_V fs j) (hcells : cells + 1 ≤ R.cells) (hslots : slots + N ≤ R.slots) (hdg : decode cc pc = .ok (.new idx, 3))
    (kk : ∀ (H1 : Heap), va_at w.2.2.1 w.2.1 (H.size, .inr (ci, fs)) H1 → H1.size = H.size + 1 → (∀ q, q < H.size → H1[q]? = H[q]?) → W p l e R s m args below meth c H1 locs (cells + 1) (slots + N) Q (F0 m (pc + 3) ls (.ref H.size :: rest))) : W p l e R s m args below meth c H locs cells slots Q (F0 m pc ls rest) := by
  have hKn := hK.1 ci _ hc
  obtain ⟨hin, hnm, ty0, hty0⟩ := hcl ci C T N hc
  refine W.newcK hx hb hown hclk hinst hini rfl hdg hcells hslots hKn.2.1 rfl fun H1 kC hkC e1 z1 o1 => ?_
  exact kk H1 ⟨_, hc, (u_born ty0 hts hin hKn hkC e1 hty0).to (fun j hj => hfs j _ hj (hty0 j hj))⟩ z1 o1
/-- arrays of ints, longs, booleans, references: read -/
theorem zw_iald (hx : p.tables.exec = Jvm.exec) (hb : c.code = cc) {a n : Nat} {cA : ClassId} {f : Nat → Int32} (hat : H[a]? = some (vp_cell cA (n, .inl f))) (hA : ArrOfT s cA .int) {i : Int32} (hin : vp_in i n) (hdg : decode cc pc = .ok (.iaload, 1))
    (kk : W p l e R s m args below meth c H locs cells slots Q (F0 m (pc + 1) ls (.int (f i.toNatClampNeg) :: rest))) : W p l e R s m args below meth c H locs cells slots Q (F0 m pc ls (.int i :: .ref a :: rest)) := by
  have hlt : i.toNatClampNeg < n := Nat.not_le.mp fun q => hin (Or.inr q)
  exact W.iald (v := .int (f i.toNatClampNeg)) hx hb hat (hA n (fun j => .int (f j))) (fun q => by cases q) (by show ¬ (i < 0 ∨ (arrV _ _ _).slots.size ≤ _); rw [arrV_size]; exact hin) (by show (arrV _ _ _).slots[_]? = _; rw [arrV_read _ _ hlt]) rfl rfl hdg kk
theorem zw_zald (hx : p.tables.exec = Jvm.exec) (hb : c.code = cc) {a n : Nat} {cA : ClassId} {f : Nat → Int32} (hat : H[a]? = some (vp_cell cA (n, .inl f))) (hA : ArrOfT s cA .boolean) {i : Int32} (hin : vp_in i n) (hdg : decode cc pc = .ok (.baload, 1))
    (kk : W p l e R s m args below meth c H locs cells slots Q (F0 m (pc + 1) ls (.int (f i.toNatClampNeg) :: rest))) : W p l e R s m args below meth c H locs cells slots Q (F0 m pc ls (.int i :: .ref a :: rest)) := by
  have hlt : i.toNatClampNeg < n := Nat.not_le.mp fun q => hin (Or.inr q)
  exact W.zald (v := .int (f i.toNatClampNeg)) hx hb hat (hA n (fun j => .int (f j))) (fun q => by cases q) (by show ¬ (i < 0 ∨ (arrV _ _ _).slots.size ≤ _); rw [arrV_size]; exact hin) (by show (arrV _ _ _).slots[_]? = _; rw [arrV_read _ _ hlt]) rfl rfl hdg kk
theorem zw_lald (hx : p.tables.exec = Jvm.exec) (hb : c.code = cc) {a n : Nat} {cA : ClassId} {f : Nat → Int64} (hat : H[a]? = some (vp_cell cA (n, .inr (.inl f)))) (hA : ArrOfT s cA .long) {i : Int32} (hin : vp_in i n) (hdg : decode cc pc = .ok (.laload, 1))
    (kk : W p l e R s m args below meth c H locs cells slots Q (F0 m (pc + 1) ls (.long (f i.toNatClampNeg) :: rest))) : W p l e R s m args below meth c H locs cells slots Q (F0 m pc ls (.int i :: .ref a :: rest)) := by
  have hlt : i.toNatClampNeg < n := Nat.not_le.mp fun q => hin (Or.inr q)
  exact W.lald (v := .long (f i.toNatClampNeg)) hx hb hat (hA n (fun j => .long (f j))) (fun q => by cases q) (by show ¬ (i < 0 ∨ (arrV _ _ _).slots.size ≤ _); rw [arrV_size]; exact hin) (by show (arrV _ _ _).slots[_]? = _; rw [arrV_read _ _ hlt]) rfl rfl hdg kk
theorem zw_aald (hx : p.tables.exec = Jvm.exec) (hb : c.code = cc) {a n : Nat} {cA : ClassId} {C : String} {f : Nat → Option Nat} (hat : H[a]? = some (vp_cell cA (n, .inr (.inr (.inr (.inr f)))))) (hA : ArrOfT s cA (.object C)) {i : Int32} (hin : vp_in i n) (hdg : decode cc pc = .ok (.aaload, 1))
    (kk : W p l e R s m args below meth c H locs cells slots Q (F0 m (pc + 1) ls (va_rf (f i.toNatClampNeg) :: rest))) : W p l e R s m args below meth c H locs cells slots Q (F0 m pc ls (.int i :: .ref a :: rest)) := by
  have hlt : i.toNatClampNeg < n := Nat.not_le.mp fun q => hin (Or.inr q)
  exact W.aald (v := va_rf (f i.toNatClampNeg)) (ty := .object C) hx hb hat (hA n (fun j => va_rf (f j))) rfl (fun q => by cases q) (by show ¬ (i < 0 ∨ (arrV _ _ _).slots.size ≤ _); rw [arrV_size]; exact hin) (by show (arrV _ _ _).slots[_]? = _; rw [arrV_read _ _ hlt]) rfl rfl hdg kk
/-- .. written -/
theorem zw_iast (hx : p.tables.exec = Jvm.exec) (hb : c.code = cc) {a n : Nat} {cA : ClassId} {f : Nat → Int32} (hat : H[a]? = some (vp_cell cA (n, .inl f))) (hA : ArrOfT s cA .int) {i x : Int32} (hin : vp_in i n) (hdg : decode cc pc = .ok (.iastore, 1))
    (kk : ∀ (H1 : Heap) (j : Nat), H1[a]? = some (vp_cell cA (n, .inl (zk_up f i.toNatClampNeg x))) → H1.size = H.size → (∀ q, q ≠ a → H1[q]? = H[q]?) → W p l e R s m args below meth c H1 (locs ++ [⟨a, j⟩]) cells slots Q (F0 m (pc + 1) ls rest)) : W p l e R s m args below meth c H locs cells slots Q (F0 m pc ls (.int x :: .int i :: .ref a :: rest)) := by
  refine W.iast hx hb hat (hA n (fun j => .int (f j))) (fun q => by cases q) (by show ¬ (i < 0 ∨ (arrV _ _ _).slots.size ≤ _); rw [arrV_size]; exact hin) rfl rfl hdg fun H1 e1 z oq => ?_
  refine kk H1 _ ?_ z oq
  rw [e1, vp_cell_i, vp_cell_i, arrV_store]
  congr 2
  funext q
  by_cases hq : q = i.toNatClampNeg
  · subst hq
    simp [updV, zk_up]
  · simp [updV, zk_up, hq]
theorem zw_zast (hx : p.tables.exec = Jvm.exec) (hb : c.code = cc) {a n : Nat} {cA : ClassId} {f : Nat → Int32} (hat : H[a]? = some (vp_cell cA (n, .inl f))) (hA : ArrOfT s cA .boolean) {i x : Int32} (hin : vp_in i n) (hn : narrow .boolean (.int x) = .int x) (hdg : decode cc pc = .ok (.bastore, 1))
    (kk : ∀ (H1 : Heap) (j : Nat), H1[a]? = some (vp_cell cA (n, .inl (zk_up f i.toNatClampNeg x))) → H1.size = H.size → (∀ q, q ≠ a → H1[q]? = H[q]?) → W p l e R s m args below meth c H1 (locs ++ [⟨a, j⟩]) cells slots Q (F0 m (pc + 1) ls rest)) : W p l e R s m args below meth c H locs cells slots Q (F0 m pc ls (.int x :: .int i :: .ref a :: rest)) := by
  refine W.zast hx hb hat (hA n (fun j => .int (f j))) (fun q => by cases q) (by show ¬ (i < 0 ∨ (arrV _ _ _).slots.size ≤ _); rw [arrV_size]; exact hin) rfl rfl hdg fun H1 e1 z oq => ?_
  refine kk H1 _ ?_ z oq
  rw [e1, hn, vp_cell_i, vp_cell_i, arrV_store]
  congr 2
  funext q
  by_cases hq : q = i.toNatClampNeg
  · subst hq
    simp [updV, zk_up]
  · simp [updV, zk_up, hq]
theorem zw_last (hx : p.tables.exec = Jvm.exec) (hb : c.code = cc) {a n : Nat} {cA : ClassId} {f : Nat → Int64} (hat : H[a]? = some (vp_cell cA (n, .inr (.inl f)))) (hA : ArrOfT s cA .long) {i : Int32} {x : Int64} (hin : vp_in i n) (hdg : decode cc pc = .ok (.lastore, 1))
    (kk : ∀ (H1 : Heap) (j : Nat), H1[a]? = some (vp_cell cA (n, .inr (.inl (zk_up f i.toNatClampNeg x)))) → H1.size = H.size → (∀ q, q ≠ a → H1[q]? = H[q]?) → W p l e R s m args below meth c H1 (locs ++ [⟨a, j⟩]) cells slots Q (F0 m (pc + 1) ls rest)) : W p l e R s m args below meth c H locs cells slots Q (F0 m pc ls (.long x :: .int i :: .ref a :: rest)) := by
  refine W.last hx hb hat (hA n (fun j => .long (f j))) (fun q => by cases q) (by show ¬ (i < 0 ∨ (arrV _ _ _).slots.size ≤ _); rw [arrV_size]; exact hin) rfl rfl hdg fun H1 e1 z oq => ?_
  refine kk H1 _ ?_ z oq
  rw [e1, vp_cell_l, vp_cell_l, arrV_store]
  congr 2
  funext q
  by_cases hq : q = i.toNatClampNeg
  · subst hq
    simp [updV, zk_up]
  · simp [updV, zk_up, hq]
/-- a reference to an object of just the array's class, or null, is stored -/
theorem zw_aast (hx : p.tables.exec = Jvm.exec) (hb : c.code = cc) (hK : va_K w.2.2.1 w.2.1 [] s) {a n ci : Nat} {cA : ClassId} {r : vw_C} {f : Nat → Option Nat} (hc : w.2.1[ci]? = some r) (hat : H[a]? = some (vp_cell cA (n, .inr (.inr (.inr (.inr f)))))) (hA : ArrOfT s cA (.object r.1)) (hRA : va_RA s cA (.object r.1)) {i : Int32} (hin : vp_in i n) {o : Option Nat} (hv : ∀ v, o = some v → ∃ vs, va_at w.2.2.1 w.2.1 (v, .inr (ci, vs)) H) (hdg : decode cc pc = .ok (.aastore, 1))
    (kk : ∀ (H1 : Heap) (j : Nat), H1[a]? = some (vp_cell cA (n, .inr (.inr (.inr (.inr (zk_up f i.toNatClampNeg o)))))) → H1.size = H.size → (∀ q, q ≠ a → H1[q]? = H[q]?) → W p l e R s m args below meth c H1 (locs ++ [⟨a, j⟩]) cells slots Q (F0 m (pc + 1) ls rest)) : W p l e R s m args below meth c H locs cells slots Q (F0 m pc ls (va_rf o :: .int i :: .ref a :: rest)) := by
  have hlt : i.toNatClampNeg < n := Nat.not_le.mp fun q => hin (Or.inr q)
  have h0 : ¬ i < 0 := fun q => hin (Or.inl q)
  have fin : ∀ H1 : Heap, H1[a]? = some ((vp_cell cA (n, .inr (.inr (.inr (.inr f))))).setSlot i.toNatClampNeg (va_rf o)) → H1[a]? = some (vp_cell cA (n, .inr (.inr (.inr (.inr (zk_up f i.toNatClampNeg o)))))) := by
    intro H1 e1
    rw [e1, vp_cell_q, vp_cell_q, arrV_store]
    congr 2
    funext q
    by_cases hq : q = i.toNatClampNeg
    · subst hq
      simp [updV, zk_up]
    · simp [updV, zk_up, hq]
  cases o with
  | none => exact va_WaastN (C := r.1) hx hb hat (hA n (fun j => va_rf (f j))) (fun h => by cases h) (by show ¬ (i < 0 ∨ (arrV _ _ _).slots.size ≤ _); rw [arrV_size]; exact hin) rfl rfl hdg fun H1 e1 z oq => kk H1 _ (fin H1 e1) z oq
  | some v =>
    obtain ⟨vs, r', hr', cellV, g1, g2, g3, -⟩ := hv v rfl
    have hcls := (hK.1 ci r hc).2
    obtain ⟨kA, comp, k1, k2, k3, -⟩ := hRA
    have hcomp : comp = w.2.2.1.1 ci := Option.some.inj (k3.symm.trans hcls.1)
    subst hcomp
    obtain ⟨kC, hkC, -⟩ := hcls.2
    exact W.aast hx hb hat (fun q h => by cases h) (fun h => by cases h) k1 k2 rfl hkC ⟨h0, by show _ < (arrV _ _ _).slots.size; rw [arrV_size]; exact hlt⟩ g1 (fun q h => by rw [g3] at h; cases h) (by rw [g2]; exact hkC) (by rw [g2]; exact va_assign hcls) rfl rfl hdg fun H1 e1 z oq => kk H1 _ (fin H1 e1) z oq
/-- .. its length -/
theorem zw_alen (hx : p.tables.exec = Jvm.exec) (hb : c.code = cc) {a : Nat} {cA : ClassId} {x : vp_A} {ty : FieldType} (hat : H[a]? = some (vp_cell cA x)) (hA : ArrOfT s cA ty) (hdg : decode cc pc = .ok (.arraylength, 1))
    (kk : W p l e R s m args below meth c H locs cells slots Q (F0 m (pc + 1) ls (.int (Int32.ofNat x.1) :: rest))) : W p l e R s m args below meth c H locs cells slots Q (F0 m pc ls (.ref a :: rest)) := by
  obtain ⟨n, f | f | f | f | f⟩ := x
  · exact W.alen (n := Int32.ofNat n) hx hb hat (hA n (fun j => .int (f j))) (by rw [vp_cell_i, arrV_size] <;> rfl) rfl rfl hdg kk
  · exact W.alen (n := Int32.ofNat n) hx hb hat (hA n (fun j => .long (f j))) (by rw [vp_cell_l, arrV_size] <;> rfl) rfl rfl hdg kk
  · exact W.alen (n := Int32.ofNat n) hx hb hat (hA n (fun j => .float (f j))) (by rw [vp_cell_f, arrV_size] <;> rfl) rfl rfl hdg kk
  · exact W.alen (n := Int32.ofNat n) hx hb hat (hA n (fun j => .double (f j))) (by rw [vp_cell_d, arrV_size] <;> rfl) rfl rfl hdg kk
  · exact W.alen (n := Int32.ofNat n) hx hb hat (hA n (fun j => va_rf (f j))) (by rw [vp_cell_q, arrV_size] <;> rfl) rfl rfl hdg kk
/-- a new array of numbers -/
theorem zw_newa (hx : p.tables.exec = Jvm.exec) (hb : c.code = cc) {atype : ArrayType} {ty : FieldType} (hty : newarray.typeOf atype = ty) (harr : (Jvm.Cond.arrayClass ty).before args s = true) {n : Int32} {N : Nat} {a0 : vp_A} (ha : ∀ cA : ClassId, vp_cell cA a0 = arrV cA N (fun _ => defaultValue ty)) (hn : ¬ n < 0) (hN : n.toNatClampNeg = N) (hbytes : N * componentBytes ty ≤ 536870912) (hcells : cells + 1 ≤ R.cells) (hslots : slots + N ≤ R.slots) (hdg : decode cc pc = .ok (.newarray atype, 2))
    (kk : ∀ (H1 : Heap) (cA : ClassId), H1[H.size]? = some (vp_cell cA a0) → H1.size = H.size + 1 → (∀ q, q < H.size → H1[q]? = H[q]?) → ArrOfT s cA ty → W p l e R s m args below meth c H1 locs (cells + 1) (slots + N) Q (F0 m (pc + 2) ls (.ref H.size :: rest))) : W p l e R s m args below meth c H locs cells slots Q (F0 m pc ls (.int n :: rest)) := by
  subst hty
  exact va_newaK hx hb harr rfl hdg rfl hn hN hbytes hcells hslots rfl fun H1 cA e1 z1 o1 hAr _ => kk H1 cA (by rw [ha]; exact e1) z1 o1 hAr
/-- a new array of references -/
theorem zw_newq (hx : p.tables.exec = Jvm.exec) (hb : c.code = cc) {C : String} {idx : Nat} (hown : s.vm.findClass own = some m.cls) (hclk : (Jvm.Cond.classLink own idx C).before args s = true) (hover : (Jvm.Cond.arrayOver (.object C)).before args s = true) {n : Int32} {N : Nat} (hn : ¬ n < 0) (hN : n.toNatClampNeg = N) (hbytes : N * 4 ≤ 536870912) (hcells : cells + 1 ≤ R.cells) (hslots : slots + N ≤ R.slots) (hdg : decode cc pc = .ok (.anewarray idx, 3))
    (kk : ∀ (H1 : Heap) (cA : ClassId), H1[H.size]? = some (vp_cell cA (N, .inr (.inr (.inr (.inr (fun _ => none)))))) → H1.size = H.size + 1 → (∀ q, q < H.size → H1[q]? = H[q]?) → ArrOfT s cA (.object C) → va_RA s cA (.object C) → W p l e R s m args below meth c H1 locs (cells + 1) (slots + N) Q (F0 m (pc + 3) ls (.ref H.size :: rest))) : W p l e R s m args below meth c H locs cells slots Q (F0 m pc ls (.int n :: rest)) := by
  subst hN
  refine W.anew hx hb hown hclk hover rfl hdg rfl hn hbytes hcells hslots fun cA kA comp f1 f2 f3 f4 => ?_
  refine kk _ cA ?_ ?_ ?_ ?_ ⟨kA, comp, f2, f3, f4, f1⟩
  · rw [vp_cell_q, Array.getElem?_push_size]
    exact congrArg some (arrV_new cA n.toNatClampNeg .null)
  · rw [Array.size_push]
  · intro q hq
    rw [Array.getElem?_push, if_neg (Nat.ne_of_lt hq)]
  · exact fun N z => ⟨(fun k h => by cases h), kA, f2, comp, f3⟩
end ZKH
