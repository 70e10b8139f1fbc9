/-! part 10: the stack, conversions, the pool's constants, Object's constructor, Math -/
/-- what a row of the link table says: 0 an int constant, 1 a long; 2 a field (class, place; its kind of type and 16 if it is final, 32 if final and another class's); 3 a class to be made; 4 one for an array of references; 5 an array class; 6 Math's (0 max, 1 min, of ints; 2, 3 of longs); 7 Object's constructor; 8 arraycopy; 9 a text constant (its type) -/
abbrev zk_L : Type := Nat × Nat × Nat × Nat × Int
noncomputable def zk_tyc (ty : FieldType) : Int := match ty with
  | .int => 0
  | .long => 1
  | .object _ => 2
  | .array _ => 2
  | .boolean => 3
  | .byte => 4
  | .char => 5
  | .short => 6
  | _ => 9
noncomputable def zk_dk (ty : FieldType) : Nat := match ty with
  | .long => 1
  | .object _ => 2
  | .array _ => 2
  | _ => 0
noncomputable def zk_aty2 (k : Nat) : FieldType := if k = 2 then .long else zk_aty k
noncomputable def zk_math (k : Nat) : MethodName × ByteArray × Nat × FieldType := match k with
  | 0 => (Lib.Math.max.name, Lib.Math.max.code, 2, .int)
  | 1 => (Lib.Math.min.name, Lib.Math.min.code, 2, .int)
  | 2 => (Lib.MathLoose.max_long.x, Lib.MathLoose.max_long.code, 4, .long)
  | _ => (Lib.MathLoose.min_long.x, Lib.MathLoose.min_long.code, 4, .long)
noncomputable def zk_lkok (w : zk_W) (s : State) (args : Array Value) (own : String) (q : zk_L) : Prop := match q.1 with
  | 0 => (Jvm.Cond.constant own q.2.1 (Int32.ofInt q.2.2.2.2)).before args s = true ∧ zk_rg 0 q.2.2.2.2
  | 1 => (Jvm.Cond.constantLong own q.2.1 (Int64.ofInt q.2.2.2.2)).before args s = true ∧ zk_rg 1 q.2.2.2.2
  | 2 => zk_fl w s args own q.2.1 q.2.2.1 q.2.2.2.1 ∧ ∃ (C : String) (T : u_T) (N : Nat) (ty : FieldType), w.2.1[q.2.2.1]? = some (C, T, N) ∧ parseFieldDescriptor (T q.2.2.2.1).2.2.1 = some ty ∧ zk_tyc ty = q.2.2.2.2 % 16 ∧ (T q.2.2.2.1).2.2.2 = decide (16 ≤ q.2.2.2.2) ∧ (16 ≤ q.2.2.2.2 ∧ q.2.2.2.2 < 32 → (T q.2.2.2.1).1 = own)
  | 3 => ∃ (C : String) (T : u_T), w.2.1[q.2.2.1]? = some (C, T, q.2.2.2.1) ∧ (Jvm.Cond.classLink own q.2.1 C).before args s = true ∧ (Jvm.Cond.instantiable C q.2.2.2.1).before args s = true ∧ (Jvm.Cond.initialized C).before args s = true
  | 4 => ∃ (C : String) (T : u_T) (N : Nat), w.2.1[q.2.2.1]? = some (C, T, N) ∧ (Jvm.Cond.classLink own q.2.1 C).before args s = true ∧ (Jvm.Cond.arrayOver (.object C)).before args s = true
  | 5 => (Jvm.Cond.arrayClass (zk_aty2 q.2.2.1)).before args s = true
  | 6 => (Jvm.Cond.methodLink own q.2.1 (zk_math q.2.2.1).1).before args s = true ∧ (Jvm.Cond.static (zk_math q.2.2.1).1).before args s = true ∧ (Jvm.Cond.initialized "java/lang/Math").before args s = true ∧ (Jvm.Cond.code (zk_math q.2.2.1).1 (zk_math q.2.2.1).2.1 (zk_math q.2.2.1).2.2.1 (some (zk_math q.2.2.1).2.2.2)).before args s = true
  | 7 => (Jvm.Cond.methodLink own q.2.1 objectInit).before args s = true ∧ (Jvm.Cond.instanceMethod objectInit).before args s = true ∧ (Jvm.Cond.code objectInit ⟨#[0xb1]⟩ 1 none).before args s = true
  | 8 => (Jvm.Cond.methodLink own q.2.1 arraycopyName).before args s = true ∧ (Jvm.Cond.native arraycopyName).before args s = true ∧ (Jvm.Cond.static arraycopyName).before args s = true ∧ (Jvm.Cond.initialized "java/lang/System").before args s = true
  | 9 => ∃ (tx : String) (a : Nat), w.2.2.2.2.1 q.2.2.1 a ∧ vk_R own q.2.1 tx a s
  | _ => True
noncomputable def zk_lk (lk : List zk_L) (k idx : Nat) : Option zk_L := lk.find? (fun q => q.1 == k && q.2.1 == idx)
theorem zk_lk_ok {w : zk_W} {s : State} {args : Array Value} {own : String} {lk : List zk_L} (h : ∀ q ∈ lk, zk_lkok w s args own q) {k idx : Nat} {q : zk_L} (hq : zk_lk lk k idx = some q) : q.1 = k ∧ q.2.1 = idx ∧ zk_lkok w s args own q := by
  have h1 := List.find?_some hq
  simp only [Bool.and_eq_true, beq_iff_eq] at h1
  exact ⟨h1.1, h1.2, h q (List.mem_of_find?_eq_some hq)⟩
noncomputable def zk_cs (V : List zk_F) (st : List zk_S) : Nat := (st.map (zk_cat V)).sum
theorem zk_cs_ok {V : List zk_F} {N : List Int} : ∀ {st : List zk_S} {sv : List Value}, zk_all2 (zk_sv V N) st sv → (sv.map fun v => v.category).sum = zk_cs V st
  | [], [], _ => rfl
  | q :: st, v :: sv, h => by
    have h1 : v.category = zk_cat V q := h.1.cat
    have h2 := zk_cs_ok h.2
    unfold zk_cs at h2 ⊢
    simp only [List.map_cons, List.sum_cons]
    rw [h2, h1]
  | [], _ :: _, h => h.elim
  | _ :: _, [], h => h.elim
/-- a new variable that holds q's number -/
noncomputable def zk_lnk (D : List (Nat × Nat × Int)) (q : zk_S) (n : Nat) : List (Nat × Nat × Int) := if 3 ≤ q.1 then (q.1, n, -q.2) :: (n, q.1, q.2) :: D else D
theorem zk_lnk_ok {κ : zk_C} {N : List Int} {P : Nat → Option Nat} {F : Nat → va_E} {H : Heap} {locs : List Loc} {ls : Array Slot} {w : zk_W} {s : State} {u : zk_M} (hG : zk_G w s u κ N P F H locs ls) {q : zk_S} {n : Nat} {k : Int} (h1 : N[q.1]? = some k) (h2 : N[n]? = some (k + q.2)) : zk_G w s u (κ.1, zk_lnk κ.2.1 q n, κ.2.2) N P F H locs ls := by
  unfold zk_lnk
  split
  · exact (hG.dif (q := (n, q.1, q.2)) ⟨k + q.2, k, h2, h1, Int.le_refl _⟩).dif (q := (q.1, n, -q.2)) ⟨k, k + q.2, h1, h2, by dsimp only; omega⟩
  · exact hG
noncomputable def zk_s4 (lk : List zk_L) (rm : Nat × Nat × Nat × Nat) (i : ClassFile.Instr) (len pc : Nat) (κ : zk_C) (st : List zk_S) (cu su : Nat) : Option zk_O := match i with
  | .dup => match st with
    | x :: st' => if len = 1 ∧ zk_cat κ.1 x = 1 then some (pc + 1, κ, x :: x :: st', cu, su) else none
    | _ => none
  | .dup2 => match st with
    | x :: y :: st' => if len = 1 ∧ zk_cat κ.1 x = 1 ∧ zk_cat κ.1 y = 1 then some (pc + 1, κ, x :: y :: x :: y :: st', cu, su) else none
    | _ => none
  | .pop => match st with
    | x :: st' => if len = 1 ∧ zk_cat κ.1 x = 1 then some (pc + 1, κ, st', cu, su) else none
    | _ => none
  | .pop2 => match st with
    | x :: st' => if len = 1 ∧ zk_cat κ.1 x = 2 then some (pc + 1, κ, st', cu, su) else none
    | _ => none
  | .i2l => match st with
    | x :: st' => if len = 1 ∧ zk_kd κ.1 x = 0 then some (pc + 1, (κ.1 ++ [(1, 0, zk_lw κ.1 x, zk_hg κ.1 x)], zk_lnk κ.2.1 x κ.1.length, κ.2.2), (κ.1.length, 0) :: st', cu, su) else none
    | _ => none
  | .l2i => match st with
    | x :: st' => if len = 1 ∧ zk_kd κ.1 x = 1 then some (pc + 1, (κ.1 ++ [(0, 0, (zk_clip (zk_lw κ.1 x) (zk_hg κ.1 x)).1, (zk_clip (zk_lw κ.1 x) (zk_hg κ.1 x)).2)], (if zk_m31 ≤ zk_lw κ.1 x ∧ zk_hg κ.1 x ≤ zk_p31 then zk_lnk κ.2.1 x κ.1.length else κ.2.1), κ.2.2), (κ.1.length, 0) :: st', cu, su) else none
    | _ => none
  | .lshl => match st with
    | y :: x :: st' => if len = 1 ∧ zk_kd κ.1 x = 1 ∧ zk_kd κ.1 y = 0 then some (pc + 1, (κ.1 ++ [(1, 0, -9223372036854775808, 9223372036854775807)], κ.2), (κ.1.length, 0) :: st', cu, su) else none
    | _ => none
  | .ldc idx => match zk_lk lk 0 idx with
    | some q => if len = 2 then some (pc + 2, (κ.1 ++ [(0, 0, q.2.2.2.2, q.2.2.2.2)], κ.2), (κ.1.length, 0) :: st, cu, su) else none
    | none => none
  | .ldc_w idx => match zk_lk lk 0 idx with
    | some q => if len = 3 then some (pc + 3, (κ.1 ++ [(0, 0, q.2.2.2.2, q.2.2.2.2)], κ.2), (κ.1.length, 0) :: st, cu, su) else none
    | none => none
  | .ldc2_w idx => match zk_lk lk 1 idx with
    | some q => if len = 3 then some (pc + 3, (κ.1 ++ [(1, 0, q.2.2.2.2, q.2.2.2.2)], κ.2), (κ.1.length, 0) :: st, cu, su) else none
    | none => none
  | .invokespecial idx => match zk_lk lk 7 idx, st with
    | some _, x :: st' => if len = 3 ∧ 3 ≤ zk_kd κ.1 x ∧ zk_kd κ.1 x < 99 ∧ x.2 = 0 ∧ 1 ≤ rm.1 ∧ zk_cs κ.1 st' + 12 ≤ rm.2.1 then some (pc + 3, κ, st', cu, su) else none
    | _, _ => none
  | .invokestatic idx => match zk_lk lk 6 idx, st with
    | some q, y :: x :: st' => if len = 3 ∧ 1 ≤ rm.1 ∧ zk_cs κ.1 st' + 15 ≤ rm.2.1 ∧ cu ≤ rm.2.2.1 ∧ su ≤ rm.2.2.2 then
        (if q.2.2.1 < 2 then (if zk_kd κ.1 x = 0 ∧ zk_kd κ.1 y = 0 then some (pc + 3, (κ.1 ++ [(0, 0, (if q.2.2.1 = 0 then max (zk_lw κ.1 x) (zk_lw κ.1 y) else min (zk_lw κ.1 x) (zk_lw κ.1 y)), (if q.2.2.1 = 0 then max (zk_hg κ.1 x) (zk_hg κ.1 y) else min (zk_hg κ.1 x) (zk_hg κ.1 y)))], κ.2), (κ.1.length, 0) :: st', cu, su) else none)
         else (if zk_kd κ.1 x = 1 ∧ zk_kd κ.1 y = 1 then some (pc + 3, (κ.1 ++ [(1, 0, (if q.2.2.1 = 2 then max (zk_lw κ.1 x) (zk_lw κ.1 y) else min (zk_lw κ.1 x) (zk_lw κ.1 y)), (if q.2.2.1 = 2 then max (zk_hg κ.1 x) (zk_hg κ.1 y) else min (zk_hg κ.1 x) (zk_hg κ.1 y)))], κ.2), (κ.1.length, 0) :: st', cu, su) else none)) else none
    | _, _ => none
  | _ => none
section ZK10
variable {p : Program} {l : Launch} {e : Env} {R : Room} {s : State} {m : MethodId} {args : Array Value} {below : List Frame} {meth : Method} {c : Code} {Q : State → Prop}
variable {cc : ByteArray} {w : zk_W} {u : zk_M} {Ts : List Jvm.Cond} {own : String}
theorem zk_l2i_in {n a b : Int} (hr : zk_rg 1 n) (h1 : a ≤ n) (h2 : n ≤ b) : (zk_clip a b).1 ≤ (Int64.ofInt n).toInt32.toInt ∧ (Int64.ofInt n).toInt32.toInt ≤ (zk_clip a b).2 := by
  refine zk_clip_in h1 h2 (fun h => ?_)
  rw [Int64.toInt_toInt32, zk_i64 hr]
  obtain ⟨g1, g2⟩ := h
  rw [Int.bmod_eq_of_le (by omega) (by omega)]
theorem zk_s4_ok (hx : p.tables.exec = Jvm.exec) (hb : c.code = cc) (hml : c.maxLocals = u.2.2.2.2.2.1) (hown : s.vm.findClass own = some m.cls) {lk : List zk_L} (hlk : ∀ q ∈ lk, zk_lkok w s args own q) {rm : Nat × Nat × Nat × Nat} (hR : rm.1 ≤ R.frames ∧ rm.2.1 ≤ R.locals ∧ rm.2.2.1 ≤ R.cells ∧ rm.2.2.2 ≤ R.slots) {i : ClassFile.Instr} {len pc : Nat} {κ : zk_C} {st : List zk_S} {cu su : Nat} {o : zk_O} (hs : zk_s4 lk rm i len pc κ st cu su = some o) (hdg : decode cc pc = .ok (i, len)) (kk : zk_J p l e R s m args below meth c Q w u o.2.1 o.2.2.1 o.2.2.2.1 o.2.2.2.2 o.1) : zk_J p l e R s m args below meth c Q w u κ st cu su pc := by
  intro N P F H locs ls sv hG hS
  have hV := hG.1
  unfold zk_s4 at hs
  split at hs
  · split at hs
    · rename_i x st'
      split at hs
      · rename_i hc
        obtain ⟨rfl, h1⟩ := hc
        cases hs
        match sv, hS with
        | vx :: sv', hS => exact lv_dup hx hb hdg (hS.1.cat.trans h1) (kk N P F H locs ls _ hG ⟨hS.1, hS⟩)
      · cases hs
    · cases hs
  · split at hs
    · rename_i x y st'
      split at hs
      · rename_i hc
        obtain ⟨rfl, h1, h2⟩ := hc
        cases hs
        match sv, hS with
        | vx :: vy :: sv', hS => exact lv_dup2_11 hx hb hdg (hS.1.cat.trans h1) (hS.2.1.cat.trans h2) (kk N P F H locs ls _ hG ⟨hS.1, hS.2.1, hS⟩)
      · cases hs
    · cases hs
  · split at hs
    · rename_i x st'
      split at hs
      · rename_i hc
        obtain ⟨rfl, h1⟩ := hc
        cases hs
        match sv, hS with
        | vx :: sv', hS => exact lv_pop hx hb hdg (hS.1.cat.trans h1) (kk N P F H locs ls _ hG hS.2)
      · cases hs
    · cases hs
  · split at hs
    · rename_i x st'
      split at hs
      · rename_i hc
        obtain ⟨rfl, h1⟩ := hc
        cases hs
        match sv, hS with
        | vx :: sv', hS => exact lv_pop2_2 hx hb hdg (hS.1.cat.trans h1) (kk N P F H locs ls _ hG hS.2)
      · cases hs
    · cases hs
  · split at hs
    · rename_i x st'
      split at hs
      · rename_i hc
        obtain ⟨rfl, h1⟩ := hc
        cases hs
        match sv, hS with
        | vx :: sv', hS =>
          obtain ⟨a, rfl, ra, la, ha, ka, na, ea⟩ := hS.1.int hV h1
          have f1 : zk_ok P (1, 0, zk_lw κ.1 x, zk_hg κ.1 x) a := ⟨la, ha, ⟨by have := ra.1; omega, by have := ra.2; omega⟩⟩
          refine lv_i2l (v := Int64.ofInt a) hx hb hdg ?_ (kk _ P F H locs ls _ (zk_lnk_ok (hG.push f1) (zk_get_snoc na) (by rw [zk_all2_len hV, ← ea]; exact zk_get_last)) ⟨zk_sv_last hV f1, zk_sv_mono (zk_le.snoc _ _) hS.2⟩)
          rw [← Int64.toInt_inj, Int32.toInt_toInt64, zk_i32 ra, zk_i64 f1.rg]
      · cases hs
    · cases hs
  · split at hs
    · rename_i x st'
      split at hs
      · rename_i hc
        obtain ⟨rfl, h1⟩ := hc
        cases hs
        match sv, hS with
        | vx :: sv', hS =>
          obtain ⟨a, rfl, ra, la, ha, ka, na, ea⟩ := hS.1.long hV h1
          obtain ⟨f1, f2⟩ := zk_fresh32 (P := P) (zk_l2i_in ra la ha)
          have hl2 : zk_m31 ≤ zk_lw κ.1 x ∧ zk_hg κ.1 x ≤ zk_p31 → (Int64.ofInt a).toInt32.toInt = a := fun hc => by
            obtain ⟨z1, z2⟩ := hc
            unfold zk_m31 at z1
            unfold zk_p31 at z2
            have e1 : (zk_clip a a).1 = a ∧ (zk_clip a a).2 = a := by
              unfold zk_clip
              rw [if_pos ⟨by unfold zk_m31; omega, by unfold zk_p31; omega⟩]
              exact ⟨rfl, rfl⟩
            have e2 := zk_l2i_in ra (Int.le_refl a) (Int.le_refl a)
            omega
          refine lv_l2i hx hb hdg rfl (kk (N ++ [(Int64.ofInt a).toInt32.toInt]) P F H locs ls _ ?_ ⟨?_, zk_sv_mono (zk_le.snoc _ _) hS.2⟩)
          · split
            · rename_i hc
              exact zk_lnk_ok (hG.push f1) (zk_get_snoc na) (by rw [zk_all2_len hV, ← ea, hl2 hc]; exact zk_get_last)
            · exact hG.push f1
          · rw [f2]
            exact zk_sv_last hV f1
      · cases hs
    · cases hs
  · split at hs
    · rename_i y x st'
      split at hs
      · rename_i hc
        obtain ⟨rfl, h1, h2⟩ := hc
        cases hs
        match sv, hS with
        | vy :: vx :: sv', hS =>
          obtain ⟨a, rfl, ra, la, ha, -⟩ := hS.2.1.long hV h1
          obtain ⟨b, rfl, rb, lb, hb', -⟩ := hS.1.int hV h2
          obtain ⟨f1, f2⟩ := zk_fresh64 (P := P) (v := Int64.ofInt a <<< ((Int32.ofInt b).toInt64 &&& 63))
          refine lv_lshl hx hb hdg rfl (kk _ P F H locs ls _ (hG.push f1) ⟨?_, zk_sv_mono (zk_le.snoc _ _) hS.2.2⟩)
          rw [f2]
          exact zk_sv_last hV f1
      · cases hs
    · cases hs
  · rename_i idx
    split at hs
    · rename_i q hq
      split at hs
      · rename_i hc
        subst hc
        cases hs
        obtain ⟨k, j, a, b, v⟩ := q
        obtain ⟨e1, e2, e3⟩ := zk_lk_ok hlk hq
        dsimp only at e1 e2
        subst e1; subst e2
        have f1 : zk_ok P (0, 0, v, v) v := ⟨Int.le_refl _, Int.le_refl _, e3.2⟩
        exact lv_ldc hx hb hown e3.1 hdg (kk _ P F H locs ls _ (hG.push f1) ⟨zk_sv_last hV f1, zk_sv_mono (zk_le.snoc _ _) hS⟩)
      · cases hs
    · cases hs
  · rename_i idx
    split at hs
    · rename_i q hq
      split at hs
      · rename_i hc
        subst hc
        cases hs
        obtain ⟨k, j, a, b, v⟩ := q
        obtain ⟨e1, e2, e3⟩ := zk_lk_ok hlk hq
        dsimp only at e1 e2
        subst e1; subst e2
        have f1 : zk_ok P (0, 0, v, v) v := ⟨Int.le_refl _, Int.le_refl _, e3.2⟩
        exact lv_ldcw hx hb hown e3.1 hdg (kk _ P F H locs ls _ (hG.push f1) ⟨zk_sv_last hV f1, zk_sv_mono (zk_le.snoc _ _) hS⟩)
      · cases hs
    · cases hs
  · rename_i idx
    split at hs
    · rename_i q hq
      split at hs
      · rename_i hc
        subst hc
        cases hs
        obtain ⟨k, j, a, b, v⟩ := q
        obtain ⟨e1, e2, e3⟩ := zk_lk_ok hlk hq
        dsimp only at e1 e2
        subst e1; subst e2
        have f1 : zk_ok P (1, 0, v, v) v := ⟨Int.le_refl _, Int.le_refl _, e3.2⟩
        exact lv_ldc2 hx hb hown e3.1 hdg (kk _ P F H locs ls _ (hG.push f1) ⟨zk_sv_last hV f1, zk_sv_mono (zk_le.snoc _ _) hS⟩)
      · cases hs
    · cases hs
  · rename_i idx
    split at hs
    · rename_i q x st' hq
      split at hs
      · rename_i hc
        obtain ⟨rfl, h1, h2, h3, h4, h5⟩ := hc
        cases hs
        obtain ⟨k, j, a, b, v⟩ := q
        obtain ⟨e1, e2, e3⟩ := zk_lk_ok hlk hq
        dsimp only at e1 e2
        subst e1; subst e2
        match sv, hS with
        | vx :: sv', hS =>
          obtain ⟨-, n, na, ev⟩ := hS.1.ref (by omega) h2
          obtain ⟨f, fe1, fe2⟩ := zk_all2_getR hV na
          have hn : 0 ≤ n := by
            unfold zk_kd at h1
            rw [fe1] at h1
            obtain ⟨fk, fr⟩ := f
            match fk, h1, fe2 with
            | k + 3, _, fe2 => exact fe2
          rw [h3, Int.add_zero, if_neg (by omega)] at ev
          subst ev
          refine W.objInit hx hb hown e3.1 e3.2.1 e3.2.2 rfl ?_ rfl hdg (Nat.le_trans h4 hR.1) ?_ ?_
          · obtain ⟨lv, g1, -⟩ := hG.2.2.2.2.2.1
            rw [hml]
            exact g1.1
          · have := zk_cs_ok hS.2
            show 2 * 0 + _ + 12 ≤ R.locals
            rw [this]
            have := hR.2.1
            omega
          · exact kk N P F H locs ls _ hG hS.2
      · cases hs
    · cases hs
  · rename_i idx
    split at hs
    · rename_i q y x st' hq
      split at hs
      · rename_i hc
        obtain ⟨rfl, h1, h2, h3, h4⟩ := hc
        obtain ⟨k, j, a, b, v⟩ := q
        obtain ⟨e1, e2, e3⟩ := zk_lk_ok hlk hq
        dsimp only at e1 e2
        subst e1; subst e2
        dsimp only at hs
        have hls : c.maxLocals = ls.size := by
          obtain ⟨lv, g1, -⟩ := hG.2.2.2.2.2.1
          rw [hml]
          exact g1.1.symm
        have r1 := hR.1
        have r2 := hR.2.1
        have r3 := hR.2.2.1
        have r4 := hR.2.2.2
        match sv, hS with
        | vy :: vx :: sv', hS =>
          have hcs := zk_cs_ok hS.2.2
          match a, e3, hs with
          | 0, e3, hs =>
            rw [if_pos (by omega)] at hs
            split at hs
            · rename_i hc
              obtain ⟨k1, k2⟩ := hc
              cases hs
              obtain ⟨a, rfl, ra, la, ha, -⟩ := hS.2.1.int hV k1
              obtain ⟨b, rfl, rb, lb, hb', -⟩ := hS.1.int hV k2
              have hm : (if Int32.ofInt a < Int32.ofInt b then Int32.ofInt b else Int32.ofInt a) = Int32.ofInt (max a b) := by
                by_cases h : a < b
                · rw [if_pos ((zk_lt32 ra rb).mpr h)]; congr 1; omega
                · rw [if_neg (fun z => h ((zk_lt32 ra rb).mp z))]; congr 1; omega
              have f1 : zk_ok P (0, 0, max (zk_lw κ.1 x) (zk_lw κ.1 y), max (zk_hg κ.1 x) (zk_hg κ.1 y)) (max a b) := ⟨by dsimp only; omega, by dsimp only; omega, by have := ra.1; have := rb.1; have := ra.2; have := rb.2; constructor <;> omega⟩
              refine va_mmax hx hb hls hown e3.1 e3.2.1 e3.2.2.1 e3.2.2.2 (by omega) (by omega) (by omega) (by omega) hdg ?_
              rw [hm]
              exact kk _ P F H locs ls _ (hG.push f1) ⟨zk_sv_last hV f1, zk_sv_mono (zk_le.snoc _ _) hS.2.2⟩
            · cases hs
          | 1, e3, hs =>
            rw [if_pos (by omega)] at hs
            split at hs
            · rename_i hc
              obtain ⟨k1, k2⟩ := hc
              cases hs
              obtain ⟨a, rfl, ra, la, ha, -⟩ := hS.2.1.int hV k1
              obtain ⟨b, rfl, rb, lb, hb', -⟩ := hS.1.int hV k2
              have hm : (if Int32.ofInt b < Int32.ofInt a then Int32.ofInt b else Int32.ofInt a) = Int32.ofInt (min a b) := by
                by_cases h : b < a
                · rw [if_pos ((zk_lt32 rb ra).mpr h)]; congr 1; omega
                · rw [if_neg (fun z => h ((zk_lt32 rb ra).mp z))]; congr 1; omega
              have f1 : zk_ok P (0, 0, min (zk_lw κ.1 x) (zk_lw κ.1 y), min (zk_hg κ.1 x) (zk_hg κ.1 y)) (min a b) := ⟨by dsimp only; omega, by dsimp only; omega, by have := ra.1; have := rb.1; have := ra.2; have := rb.2; constructor <;> omega⟩
              refine va_mmin hx hb hls hown e3.1 e3.2.1 e3.2.2.1 e3.2.2.2 (by omega) (by omega) (by omega) (by omega) hdg ?_
              rw [hm]
              exact kk _ P F H locs ls _ (hG.push f1) ⟨zk_sv_last hV f1, zk_sv_mono (zk_le.snoc _ _) hS.2.2⟩
            · cases hs
          | 2, e3, hs =>
            rw [if_neg (by omega)] at hs
            split at hs
            · rename_i hc
              obtain ⟨k1, k2⟩ := hc
              cases hs
              obtain ⟨a, rfl, ra, la, ha, -⟩ := hS.2.1.long hV k1
              obtain ⟨b, rfl, rb, lb, hb', -⟩ := hS.1.long hV k2
              have hm : (if Int64.ofInt b < Int64.ofInt a then Int64.ofInt a else Int64.ofInt b) = Int64.ofInt (max a b) := by
                by_cases h : b < a
                · rw [if_pos ((zk_lt64 rb ra).mpr h)]; congr 1; omega
                · rw [if_neg (fun z => h ((zk_lt64 rb ra).mp z))]; congr 1; omega
              have f1 : zk_ok P (1, 0, max (zk_lw κ.1 x) (zk_lw κ.1 y), max (zk_hg κ.1 x) (zk_hg κ.1 y)) (max a b) := ⟨by dsimp only; omega, by dsimp only; omega, by have := ra.1; have := rb.1; have := ra.2; have := rb.2; constructor <;> omega⟩
              refine va_mmax_long hx hb hls hown e3.1 e3.2.1 e3.2.2.1 e3.2.2.2 (by omega) (by omega) (by omega) (by omega) hdg ?_
              rw [hm]
              exact kk _ P F H locs ls _ (hG.push f1) ⟨zk_sv_last hV f1, zk_sv_mono (zk_le.snoc _ _) hS.2.2⟩
            · cases hs
          | a + 3, e3, hs =>
            have e9 : ¬ a + 3 = 2 := by omega
            have e8 : ¬ a + 3 < 2 := by omega
            rw [if_neg e8] at hs
            simp only [e9, if_false] at hs
            split at hs
            · rename_i hc
              obtain ⟨k1, k2⟩ := hc
              cases hs
              obtain ⟨a, rfl, ra, la, ha, -⟩ := hS.2.1.long hV k1
              obtain ⟨b, rfl, rb, lb, hb', -⟩ := hS.1.long hV k2
              have f1 : zk_ok P (1, 0, min (zk_lw κ.1 x) (zk_lw κ.1 y), min (zk_hg κ.1 x) (zk_hg κ.1 y)) (min a b) := ⟨by dsimp only; omega, by dsimp only; omega, by have := ra.1; have := rb.1; have := ra.2; have := rb.2; constructor <;> omega⟩
              refine va_mmin_long hx hb hls hown e3.1 e3.2.1 e3.2.2.1 e3.2.2.2 (by omega) (by omega) (by omega) (by omega) hdg ?_
              have hm : ∀ v, v = Int64.ofInt (min a b) → W p l e R s m args below meth c H locs cu su Q (F0 m (pc + 3) ls (.long v :: sv')) := by
                intro v hv
                subst hv
                exact kk _ P F H locs ls _ (hG.push f1) ⟨zk_sv_last hV f1, zk_sv_mono (zk_le.snoc _ _) hS.2.2⟩
              apply hm
              by_cases h : a < b
              · first | (rw [if_pos ((zk_lt64 ra rb).mpr h)]; congr 1; omega) | (rw [if_neg (fun z => absurd ((zk_lt64 rb ra).mp z) (by omega))]; congr 1; omega)
              · by_cases h' : b < a
                · first | (rw [if_neg (fun z => h ((zk_lt64 ra rb).mp z))]; congr 1; omega) | (rw [if_pos ((zk_lt64 rb ra).mpr h')]; congr 1; omega)
                · have : a = b := by omega
                  subst this
                  rw [ite_self]
                  congr 1
                  omega
            · cases hs
      · cases hs
    · cases hs
  · cases hs
end ZK10
