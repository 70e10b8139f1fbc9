/-! part 4: groups of instructions -/
section ZKW
variable {p : Program} {l : Launch} {e : Env} {R : Room} {s : State} {m : MethodId} {args : Array Value} {below : List Frame} {meth : Method} {c : Code} {H : Heap} {locs : List Loc} {cells slots : Nat} {Q : State → Prop}
variable {cc : ByteArray} {pc : Nat} {ls : Array Slot} {rest : List Value}
/-- loads: kind, which local, length -/
noncomputable def zk_ldK (i : ClassFile.Instr) : Option (Nat × Nat × Nat) := match i with
  | .iload k => some (0, k, 2)
  | .iload_n n => some (0, n.val, 1)
  | .lload k => some (1, k, 2)
  | .lload_n n => some (1, n.val, 1)
  | .aload k => some (2, k, 2)
  | .aload_n n => some (2, n.val, 1)
  | _ => none
noncomputable def zk_vk (k : Nat) (v : Value) : Prop := match k with
  | 0 => ∃ x, v = .int x
  | 1 => ∃ x, v = .long x
  | _ => v = .null ∨ ∃ a, v = .ref a
theorem zw_load (hx : p.tables.exec = Jvm.exec) (hb : c.code = cc) {i : ClassFile.Instr} {k n len : Nat} (hi : zk_ldK i = some (k, n, len)) {v : Value} (hdg : decode cc pc = .ok (i, len)) (hl : ls[n]? = some (.val v)) (hv : zk_vk k v)
    (kk : W p l e R s m args below meth c H locs cells slots Q (F0 m (pc + len) ls (v :: rest))) : W p l e R s m args below meth c H locs cells slots Q (F0 m pc ls rest) := by
  cases i <;> simp only [zk_ldK, Option.some.injEq, Prod.mk.injEq, reduceCtorEq] at hi
  case iload j =>
    obtain ⟨rfl, rfl, rfl⟩ := hi
    obtain ⟨x, rfl⟩ := hv
    exact lv_iload hx hb hdg hl kk
  case iload_n j =>
    obtain ⟨rfl, rfl, rfl⟩ := hi
    obtain ⟨x, rfl⟩ := hv
    exact lv_iload_n hx hb hdg rfl hl kk
  case lload j =>
    obtain ⟨rfl, rfl, rfl⟩ := hi
    obtain ⟨x, rfl⟩ := hv
    exact lv_lload hx hb hdg hl kk
  case lload_n j =>
    obtain ⟨rfl, rfl, rfl⟩ := hi
    obtain ⟨x, rfl⟩ := hv
    exact lv_lload_n hx hb hdg rfl hl kk
  case aload j =>
    obtain ⟨rfl, rfl, rfl⟩ := hi
    rcases hv with rfl | ⟨a, rfl⟩
    · exact lv_aloadN hx hb hdg hl kk
    · exact lv_aload hx hb hdg hl kk
  case aload_n j =>
    obtain ⟨rfl, rfl, rfl⟩ := hi
    rcases hv with rfl | ⟨a, rfl⟩
    · exact lv_aload_nN hx hb hdg rfl hl kk
    · exact lv_aload_n hx hb hdg rfl hl kk
/-- stores -/
noncomputable def zk_stK (i : ClassFile.Instr) : Option (Nat × Nat × Nat) := match i with
  | .istore k => some (0, k, 2)
  | .istore_n n => some (0, n.val, 1)
  | .lstore k => some (1, k, 2)
  | .lstore_n n => some (1, n.val, 1)
  | .astore k => some (2, k, 2)
  | .astore_n n => some (2, n.val, 1)
  | _ => none
/-- which locals stay behind a store at i -/
noncomputable def zk_st1 (k i : Nat) (j cat : Nat) : Bool := if k = 1 then !(j == i) && (!(j == i + 1) && !(j + 1 == i && cat == 2)) else !(j == i) && !(j + 1 == i && cat == 2)
noncomputable def zk_ck (k i nL : Nat) : Prop := if k = 1 then i + 1 < nL else i < nL
theorem zw_store (hx : p.tables.exec = Jvm.exec) (hb : c.code = cc) {i : ClassFile.Instr} {k n len : Nat} (hi : zk_stK i = some (k, n, len)) {v : Value} {nL : Nat} {lv : List (Nat × Value)} (hdg : decode cc pc = .ok (i, len)) (h : lv_has ls nL lv) (hn : zk_ck k n nL) (hv : zk_vk k v)
    (kk : ∀ ls' : Array Slot, lv_has ls' nL ((n, v) :: lv.filter (fun q => zk_st1 k n q.1 q.2.category)) → W p l e R s m args below meth c H locs cells slots Q (F0 m (pc + len) ls' rest)) : W p l e R s m args below meth c H locs cells slots Q (F0 m pc ls (v :: rest)) := by
  cases i <;> simp only [zk_stK, Option.some.injEq, Prod.mk.injEq, reduceCtorEq] at hi
  case istore j =>
    obtain ⟨rfl, rfl, rfl⟩ := hi
    obtain ⟨x, rfl⟩ := hv
    exact lv_istore hx hb hdg h hn rfl kk
  case istore_n j =>
    obtain ⟨rfl, rfl, rfl⟩ := hi
    obtain ⟨x, rfl⟩ := hv
    exact lv_istore_n hx hb hdg rfl h hn rfl kk
  case lstore j =>
    obtain ⟨rfl, rfl, rfl⟩ := hi
    obtain ⟨x, rfl⟩ := hv
    exact lv_lstore hx hb hdg h hn rfl kk
  case lstore_n j =>
    obtain ⟨rfl, rfl, rfl⟩ := hi
    obtain ⟨x, rfl⟩ := hv
    exact lv_lstore_n hx hb hdg rfl h hn rfl kk
  case astore j =>
    obtain ⟨rfl, rfl, rfl⟩ := hi
    rcases hv with rfl | ⟨a, rfl⟩
    · exact lv_astoreN hx hb hdg h hn rfl kk
    · exact lv_astore hx hb hdg h hn rfl kk
  case astore_n j =>
    obtain ⟨rfl, rfl, rfl⟩ := hi
    rcases hv with rfl | ⟨a, rfl⟩
    · exact lv_astore_nN hx hb hdg rfl h hn rfl kk
    · exact lv_astore_n hx hb hdg rfl h hn rfl kk
/-- constants: kind, number, length -/
noncomputable def zk_cnK (i : ClassFile.Instr) : Option (Nat × Int × Nat) := match i with
  | .iconst n => some (0, n, 1)
  | .bipush n => if -128 ≤ n ∧ n ≤ 127 then some (0, n, 2) else none
  | .sipush n => if -32768 ≤ n ∧ n ≤ 32767 then some (0, n, 3) else none
  | .lconst n => some (1, (n.val : Int), 1)
  | .aconst_null => some (2, -1, 1)
  | _ => none
theorem zw_const (hx : p.tables.exec = Jvm.exec) (hb : c.code = cc) {i : ClassFile.Instr} {k len : Nat} {n : Int} (hi : zk_cnK i = some (k, n, len)) (hdg : decode cc pc = .ok (i, len))
    (kk : W p l e R s m args below meth c H locs cells slots Q (F0 m (pc + len) ls (zk_mk k n :: rest))) : W p l e R s m args below meth c H locs cells slots Q (F0 m pc ls rest) := by
  cases i <;> simp only [zk_cnK, Option.some.injEq, Prod.mk.injEq, reduceCtorEq] at hi
  case iconst j =>
    obtain ⟨rfl, rfl, rfl⟩ := hi
    exact lv_iconst hx hb hdg rfl kk
  case bipush j =>
    split at hi
    · rename_i hr
      simp only [Option.some.injEq, Prod.mk.injEq] at hi
      obtain ⟨rfl, rfl, rfl⟩ := hi
      refine lv_bipush (v := Int32.ofInt j) hx hb hdg ?_ kk
      rw [← Int32.toInt_inj, Int8.toInt_toInt32, Int8.toInt_ofInt_of_le (by omega) (by omega), Int32.toInt_ofInt_of_le (by omega) (by omega)]
    · cases hi
  case sipush j =>
    split at hi
    · rename_i hr
      simp only [Option.some.injEq, Prod.mk.injEq] at hi
      obtain ⟨rfl, rfl, rfl⟩ := hi
      refine lv_sipush (v := Int32.ofInt j) hx hb hdg ?_ kk
      rw [← Int32.toInt_inj, Int16.toInt_toInt32, Int16.toInt_ofInt_of_le (by omega) (by omega), Int32.toInt_ofInt_of_le (by omega) (by omega)]
    · cases hi
  case lconst j =>
    obtain ⟨rfl, rfl, rfl⟩ := hi
    exact lv_lconst (v := Int64.ofInt (j.val : Int)) hx hb hdg (by first | rfl | (match j with | 0 => rfl | 1 => rfl)) kk
  case aconst_null =>
    obtain ⟨rfl, rfl, rfl⟩ := hi
    exact lv_null hx hb hdg kk
/-- ints: two make one -/
noncomputable def zk_bnK (i : ClassFile.Instr) : Option Nat := match i with
  | .iadd => some 0
  | .isub => some 1
  | .imul => some 2
  | .iand => some 3
  | .ior => some 4
  | .ixor => some 5
  | .ishl => some 6
  | .ishr => some 7
  | .iushr => some 8
  | .idiv => some 9
  | .irem => some 10
  | _ => none
noncomputable def zk_bn (o : Nat) (x y : Int32) : Int32 := match o with
  | 0 => x + y
  | 1 => x - y
  | 2 => x * y
  | 3 => x &&& y
  | 4 => x ||| y
  | 5 => x ^^^ y
  | 6 => x <<< (y &&& 31)
  | 7 => x >>> (y &&& 31)
  | 8 => (x.toUInt32 >>> (y.toUInt32 &&& Int32.toUInt32 31)).toInt32
  | 9 => x / y
  | _ => x - x / y * y
theorem zw_bin (hx : p.tables.exec = Jvm.exec) (hb : c.code = cc) {i : ClassFile.Instr} {o : Nat} (hi : zk_bnK i = some o) (hdg : decode cc pc = .ok (i, 1)) {x y : Int32} (hne : 9 ≤ o → ¬ y = 0)
    (kk : W p l e R s m args below meth c H locs cells slots Q (F0 m (pc + 1) ls (.int (zk_bn o x y) :: rest))) : W p l e R s m args below meth c H locs cells slots Q (F0 m pc ls (.int y :: .int x :: rest)) := by
  cases i <;> simp only [zk_bnK, Option.some.injEq, reduceCtorEq] at hi <;> subst hi
  case iadd => exact lv_iadd hx hb hdg kk
  case isub => exact lv_isub hx hb hdg kk
  case imul => exact lv_imul hx hb hdg kk
  case iand => exact lv_iand hx hb hdg kk
  case ior => exact lv_ior hx hb hdg kk
  case ixor => exact lv_ixor hx hb hdg kk
  case ishl => exact lv_ishl hx hb hdg kk
  case ishr => exact lv_ishr hx hb hdg kk
  case iushr => exact lv_iushr hx hb hdg rfl kk
  case idiv => exact lv_idiv hx hb hdg (hne (by decide)) kk
  case irem => exact lv_irem hx hb hdg (hne (by decide)) kk
/-- ints: one makes one -/
noncomputable def zk_unK (i : ClassFile.Instr) : Option Nat := match i with
  | .ineg => some 0
  | .i2b => some 1
  | .i2c => some 2
  | .i2s => some 3
  | _ => none
noncomputable def zk_un (o : Nat) (x : Int32) : Int32 := match o with
  | 0 => -x
  | 1 => x.toInt8.toInt32
  | 2 => (x.toUInt32 % 65536).toInt32
  | _ => x.toInt16.toInt32
theorem zw_un (hx : p.tables.exec = Jvm.exec) (hb : c.code = cc) {i : ClassFile.Instr} {o : Nat} (hi : zk_unK i = some o) (hdg : decode cc pc = .ok (i, 1)) {x : Int32}
    (kk : W p l e R s m args below meth c H locs cells slots Q (F0 m (pc + 1) ls (.int (zk_un o x) :: rest))) : W p l e R s m args below meth c H locs cells slots Q (F0 m pc ls (.int x :: rest)) := by
  cases i <;> simp only [zk_unK, Option.some.injEq, reduceCtorEq] at hi <;> subst hi
  case ineg => exact lv_ineg hx hb hdg kk
  case i2b => exact lv_i2b hx hb hdg rfl kk
  case i2c => exact lv_i2c hx hb hdg rfl kk
  case i2s => exact lv_i2s hx hb hdg rfl kk
/-- longs: two make one -/
noncomputable def zk_lbK (i : ClassFile.Instr) : Option Nat := match i with
  | .ladd => some 0
  | .lsub => some 1
  | .lmul => some 2
  | .land => some 3
  | .lor => some 4
  | .lxor => some 5
  | .ldiv => some 9
  | .lrem => some 10
  | _ => none
noncomputable def zk_lb (o : Nat) (x y : Int64) : Int64 := match o with
  | 0 => x + y
  | 1 => x - y
  | 2 => x * y
  | 3 => x &&& y
  | 4 => x ||| y
  | 5 => x ^^^ y
  | 9 => x / y
  | _ => x - x / y * y
theorem zw_lbin (hx : p.tables.exec = Jvm.exec) (hb : c.code = cc) {i : ClassFile.Instr} {o : Nat} (hi : zk_lbK i = some o) (hdg : decode cc pc = .ok (i, 1)) {x y : Int64} (hne : 9 ≤ o → ¬ y = 0)
    (kk : W p l e R s m args below meth c H locs cells slots Q (F0 m (pc + 1) ls (.long (zk_lb o x y) :: rest))) : W p l e R s m args below meth c H locs cells slots Q (F0 m pc ls (.long y :: .long x :: rest)) := by
  cases i <;> simp only [zk_lbK, Option.some.injEq, reduceCtorEq] at hi <;> subst hi
  case ladd => exact lv_ladd hx hb hdg kk
  case lsub => exact lv_lsub hx hb hdg kk
  case lmul => exact lv_lmul hx hb hdg kk
  case land => exact lv_land hx hb hdg kk
  case lor => exact lv_lor hx hb hdg kk
  case lxor => exact lv_lxor hx hb hdg kk
  case ldiv => exact lv_ldiv hx hb hdg (hne (by decide)) kk
  case lrem => exact lv_lrem hx hb hdg (hne (by decide)) kk
/-- comparisons of numbers -/
noncomputable def zk_cmp (k : ClassFile.Cond) (a b : Int) : Prop := match k with
  | .eq => a = b
  | .ne => ¬ a = b
  | .lt => a < b
  | .ge => b ≤ a
  | .gt => b < a
  | .le => a ≤ b
theorem zw_icmp (hx : p.tables.exec = Jvm.exec) (hb : c.code = cc) {k : ClassFile.Cond} {off : Int} {tgt : Nat} (hdg : decode cc pc = .ok (.if_icmp k off, 3)) (ht : (pc : Int) + off = (tgt : Int)) {a b : Int} (ha : zk_rg 0 a) (hb' : zk_rg 0 b)
    (kt : zk_cmp k a b → W p l e R s m args below meth c H locs cells slots Q (F0 m tgt ls rest)) (kf : ¬ zk_cmp k a b → W p l e R s m args below meth c H locs cells slots Q (F0 m (pc + 3) ls rest)) : W p l e R s m args below meth c H locs cells slots Q (F0 m pc ls (.int (Int32.ofInt b) :: .int (Int32.ofInt a) :: rest)) := by
  cases k
  case eq => exact lv_icmp_eq hx hb hdg ht (fun q => kt ((zk_eq32 ha hb').mp q)) (fun q => kf (fun z => q ((zk_eq32 ha hb').mpr z)))
  case ne => exact lv_icmp_ne hx hb hdg ht (fun q => kt (fun z => q ((zk_eq32 ha hb').mpr z))) (fun q => kf (fun z => z ((zk_eq32 ha hb').mp q)))
  case lt => exact lv_icmp_lt hx hb hdg ht (fun q => kt ((zk_lt32 ha hb').mp q)) (fun q => kf (fun z => q ((zk_lt32 ha hb').mpr z)))
  case ge => exact lv_icmp_ge hx hb hdg ht (fun q => kt ((zk_le32 hb' ha).mp q)) (fun q => kf (fun z => q ((zk_le32 hb' ha).mpr z)))
  case gt => exact lv_icmp_gt hx hb hdg ht (fun q => kt ((zk_lt32 hb' ha).mp q)) (fun q => kf (fun z => q ((zk_lt32 hb' ha).mpr z)))
  case le => exact lv_icmp_le hx hb hdg ht (fun q => kt ((zk_le32 ha hb').mp q)) (fun q => kf (fun z => q ((zk_le32 ha hb').mpr z)))
theorem zk_z32 : Int32.ofInt 0 = 0 := by decide
theorem zw_if (hx : p.tables.exec = Jvm.exec) (hb : c.code = cc) {k : ClassFile.Cond} {off : Int} {tgt : Nat} (hdg : decode cc pc = .ok (.ifCond k off, 3)) (ht : (pc : Int) + off = (tgt : Int)) {a : Int} (ha : zk_rg 0 a)
    (kt : zk_cmp k a 0 → W p l e R s m args below meth c H locs cells slots Q (F0 m tgt ls rest)) (kf : ¬ zk_cmp k a 0 → W p l e R s m args below meth c H locs cells slots Q (F0 m (pc + 3) ls rest)) : W p l e R s m args below meth c H locs cells slots Q (F0 m pc ls (.int (Int32.ofInt a) :: rest)) := by
  have hb' : zk_rg 0 0 := by constructor <;> decide
  cases k
  case eq => exact lv_if_eq hx hb hdg ht (fun q => kt ((zk_eq32 ha hb').mp (q.trans zk_z32.symm))) (fun q => kf (fun z => q (zk_z32 ▸ (zk_eq32 ha hb').mpr z)))
  case ne => exact lv_if_ne hx hb hdg ht (fun q => kt (fun z => q (zk_z32 ▸ (zk_eq32 ha hb').mpr z))) (fun q => kf (fun z => z ((zk_eq32 ha hb').mp (q.trans zk_z32.symm))))
  case lt => exact lv_if_lt hx hb hdg ht (fun q => kt ((zk_lt32 ha hb').mp (by rw [zk_z32]; exact q))) (fun q => kf (fun z => q (by have h9 := (zk_lt32 ha hb').mpr z; rw [zk_z32] at h9; exact h9)))
  case ge => exact lv_if_ge hx hb hdg ht (fun q => kt ((zk_le32 hb' ha).mp (by rw [zk_z32]; exact q))) (fun q => kf (fun z => q (by have h9 := (zk_le32 hb' ha).mpr z; rw [zk_z32] at h9; exact h9)))
  case gt => exact lv_if_gt hx hb hdg ht (fun q => kt ((zk_lt32 hb' ha).mp (by rw [zk_z32]; exact q))) (fun q => kf (fun z => q (by have h9 := (zk_lt32 hb' ha).mpr z; rw [zk_z32] at h9; exact h9)))
  case le => exact lv_if_le hx hb hdg ht (fun q => kt ((zk_le32 ha hb').mp (by rw [zk_z32]; exact q))) (fun q => kf (fun z => q (by have h9 := (zk_le32 ha hb').mpr z; rw [zk_z32] at h9; exact h9)))
/-- lcmp and the branch behind it -/
theorem zw_lcmp (hx : p.tables.exec = Jvm.exec) (hb : c.code = cc) {k : ClassFile.Cond} {off : Int} {tgt : Nat} (hdg : decode cc pc = .ok (.lcmp, 1)) (hdg2 : decode cc (pc + 1) = .ok (.ifCond k off, 3)) (ht : ((pc + 1 : Nat) : Int) + off = (tgt : Int)) {a b : Int} (ha : zk_rg 1 a) (hb' : zk_rg 1 b)
    (kt : zk_cmp k a b → W p l e R s m args below meth c H locs cells slots Q (F0 m tgt ls rest)) (kf : ¬ zk_cmp k a b → W p l e R s m args below meth c H locs cells slots Q (F0 m (pc + 4) ls rest)) : W p l e R s m args below meth c H locs cells slots Q (F0 m pc ls (.long (Int64.ofInt b) :: .long (Int64.ofInt a) :: rest)) := by
  refine W.lcmp hx hb hdg ?_
  have e : ∃ n : Int, lg_cmp (Int64.ofInt a) (Int64.ofInt b) = Int32.ofInt n ∧ zk_rg 0 n ∧ (zk_cmp k n 0 ↔ zk_cmp k a b) := by
    unfold lg_cmp
    have h1 : (Int64.ofInt a > Int64.ofInt b) ↔ b < a := zk_lt64 hb' ha
    have h2 : (Int64.ofInt a = Int64.ofInt b) ↔ a = b := zk_eq64 ha hb'
    by_cases c1 : b < a
    · rw [if_pos (h1.mpr c1)]
      exact ⟨1, by decide, ⟨by decide, by decide⟩, by cases k <;> simp only [zk_cmp] <;> omega⟩
    · rw [if_neg (fun z => c1 (h1.mp z))]
      by_cases c2 : a = b
      · rw [if_pos (h2.mpr c2)]
        exact ⟨0, by decide, ⟨by decide, by decide⟩, by subst c2; cases k <;> simp [zk_cmp]⟩
      · rw [if_neg (fun z => c2 (h2.mp z))]
        exact ⟨-1, by decide, ⟨by decide, by decide⟩, by cases k <;> simp only [zk_cmp] <;> omega⟩
  obtain ⟨n, e1, e2, e3⟩ := e
  rw [e1]
  exact zw_if hx hb hdg2 ht e2 (fun q => kt (e3.mp q)) (fun q => kf (fun z => q (e3.mpr z)))
end ZKW
