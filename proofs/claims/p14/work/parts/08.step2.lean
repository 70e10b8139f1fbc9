/-! part 8: what a comparison tells; branches, switches -/
/-- q's value is at most r's and d -/
noncomputable def zk_asm1 (κ : zk_C) (q r : zk_S) (d : Int) : Option zk_C := match κ.1[q.1]?, κ.1[r.1]? with
  | some f, some g =>
    if q.1 = r.1 then (if q.2 ≤ r.2 + d then some κ else none)
    else if g.2.2.2 + r.2 + d - q.2 < f.2.2.1 then none
    else some ((κ.1.set q.1 (f.1, f.2.1, f.2.2.1, min f.2.2.2 (g.2.2.2 + r.2 + d - q.2))).set r.1 (g.1, g.2.1, max g.2.2.1 (f.2.2.1 + q.2 - d - r.2), g.2.2.2),
      (if 3 ≤ q.1 ∧ 3 ≤ r.1 then (q.1, r.1, r.2 + d - q.2) :: κ.2.1 else κ.2.1), κ.2.2)
  | _, _ => none
noncomputable def zk_ol {α : Type} (o : Option α) : List α := match o with
  | some x => [x]
  | none => []
noncomputable def zk_asm (κ : zk_C) (k : ClassFile.Cond) (q r : zk_S) (sp : Bool) : List zk_C := match k with
  | .eq => match zk_asm1 κ q r 0 with
    | some κ1 => zk_ol (zk_asm1 κ1 r q 0)
    | none => []
  | .ne => match zk_asm1 κ q r (-1), zk_asm1 κ r q (-1) with
    | some x, some y => if sp then [x, y] else [κ]
    | some x, none => [x]
    | none, some y => [y]
    | none, none => []
  | .lt => zk_ol (zk_asm1 κ q r (-1))
  | .ge => zk_ol (zk_asm1 κ r q 0)
  | .gt => zk_ol (zk_asm1 κ r q (-1))
  | .le => zk_ol (zk_asm1 κ q r 0)
noncomputable def zk_neg (k : ClassFile.Cond) : ClassFile.Cond := match k with
  | .eq => .ne
  | .ne => .eq
  | .lt => .ge
  | .ge => .lt
  | .gt => .le
  | .le => .gt
theorem zk_neg_ok {k : ClassFile.Cond} {a b : Int} (h : ¬ zk_cmp k a b) : zk_cmp (zk_neg k) a b := by
  cases k <;> simp only [zk_cmp, zk_neg] at h ⊢ <;> omega
noncomputable def zk_tgt (pc : Nat) (off : Int) : Option Nat := if 0 ≤ (pc : Int) + off then some ((pc : Int) + off).toNat else none
theorem zk_tgt_ok {pc t : Nat} {off : Int} (h : zk_tgt pc off = some t) : (pc : Int) + off = (t : Int) := by
  unfold zk_tgt at h
  split at h
  · cases h
    omega
  · cases h
/-- a reference that isn't null -/
noncomputable def zk_nn (κ : zk_C) (x : zk_S) : Option zk_C := match κ.1[x.1]? with
  | some f => if f.1 = 2 then (if f.2.2.2 < 0 then none else some (κ.1.set x.1 (2, f.2.1, 0, f.2.2.2), κ.2)) else some κ
  | none => none
noncomputable def zk_nu (κ : zk_C) (x : zk_S) : Option zk_C := match κ.1[x.1]? with
  | some f => if f.1 = 2 then (if 0 ≤ f.2.2.1 then none else some (κ.1.set x.1 (2, f.2.1, -1, -1), κ.2)) else none
  | none => none
noncomputable def zk_ts (κ : zk_C) (x : zk_S) (st : List zk_S) (cu su pc : Nat) (k0 : Int) (t : Option Nat) : List zk_O := match t with
  | some t => (zk_asm κ .eq x (0, k0) false).map (fun κ' => (t, κ', st, cu, su))
  | none => []
noncomputable def zk_s2 (sp : Bool) (nx : Option (ClassFile.Instr × Nat)) (i : ClassFile.Instr) (len pc : Nat) (κ : zk_C) (st : List zk_S) (cu su : Nat) : Option (List zk_O) := match i with
  | .goto off => match zk_tgt pc off with
    | some t => if len = 3 then some [(t, κ, st, cu, su)] else none
    | none => none
  | .if_icmp k off => match zk_tgt pc off, st with
    | some t, y :: x :: st' => if len = 3 ∧ zk_kd κ.1 x = 0 ∧ zk_kd κ.1 y = 0 then some ((zk_asm κ k x y sp).map (fun κ' => (t, κ', st', cu, su)) ++ (zk_asm κ (zk_neg k) x y sp).map (fun κ' => (pc + 3, κ', st', cu, su))) else none
    | _, _ => none
  | .ifCond k off => match zk_tgt pc off, st with
    | some t, x :: st' => if len = 3 ∧ zk_kd κ.1 x = 0 ∧ κ.1[0]? = some (0, 0, 0, 0) then some ((zk_asm κ k x (0, 0) sp).map (fun κ' => (t, κ', st', cu, su)) ++ (zk_asm κ (zk_neg k) x (0, 0) sp).map (fun κ' => (pc + 3, κ', st', cu, su))) else none
    | _, _ => none
  | .lcmp => match nx with
    | some (.ifCond k off, 3) => match zk_tgt (pc + 1) off, st with
      | some t, y :: x :: st' => if len = 1 ∧ zk_kd κ.1 x = 1 ∧ zk_kd κ.1 y = 1 then some ((zk_asm κ k x y sp).map (fun κ' => (t, κ', st', cu, su)) ++ (zk_asm κ (zk_neg k) x y sp).map (fun κ' => (pc + 4, κ', st', cu, su))) else none
      | _, _ => none
    | _ => none
  | .ifnonnull off => match zk_tgt pc off, st with
    | some t, x :: st' => if len = 3 ∧ x.2 = 0 ∧ 2 ≤ zk_kd κ.1 x ∧ zk_kd κ.1 x < 99 then some ((zk_ol (zk_nn κ x)).map (fun κ' => (t, κ', st', cu, su)) ++ (zk_ol (zk_nu κ x)).map (fun κ' => (pc + 3, κ', st', cu, su))) else none
    | _, _ => none
  | .ifnull off => match zk_tgt pc off, st with
    | some t, x :: st' => if len = 3 ∧ x.2 = 0 ∧ 2 ≤ zk_kd κ.1 x ∧ zk_kd κ.1 x < 99 then some ((zk_ol (zk_nu κ x)).map (fun κ' => (t, κ', st', cu, su)) ++ (zk_ol (zk_nn κ x)).map (fun κ' => (pc + 3, κ', st', cu, su))) else none
    | _, _ => none
  | .tableswitch d lo hi offs => match zk_tgt pc d, st with
    | some t, x :: st' => if zk_kd κ.1 x = 0 ∧ κ.1[0]? = some (0, 0, 0, 0) ∧ (offs.toList.length : Int) = hi - lo + 1 ∧ offs.toList.all (fun o => (zk_tgt pc o).isSome) = true then
        some ((zk_asm κ .lt x (0, lo) sp).map (fun κ' => (t, κ', st', cu, su)) ++ (zk_asm κ .gt x (0, hi) sp).map (fun κ' => (t, κ', st', cu, su)) ++ (offs.toList.zipIdx).flatMap (fun z => zk_ts κ x st' cu su pc (lo + z.2) (zk_tgt pc z.1))) else none
    | _, _ => none
  | .lookupswitch d ps => match zk_tgt pc d, st with
    | some t, x :: st' => if zk_kd κ.1 x = 0 ∧ κ.1[0]? = some (0, 0, 0, 0) ∧ (ps.toList.zip (ps.toList.drop 1)).all (fun (a, next) => a.1 < next.1) = true ∧ ps.toList.all (fun o => (zk_tgt pc o.2).isSome) = true then
        some ((t, κ, st', cu, su) :: ps.toList.flatMap (fun z => zk_ts κ x st' cu su pc z.1 (zk_tgt pc z.2))) else none
    | _, _ => none
  | _ => none
section ZK8
variable {p : Program} {l : Launch} {e : Env} {R : Room} {s : State} {m : MethodId} {args : Array Value} {below : List Frame} {meth : Method} {c : Code} {Q : State → Prop}
variable {cc : ByteArray} {w : zk_W} {u : zk_M} {Ts : List Jvm.Cond} {own : String}
theorem zk_set_kd {V : List zk_F} {x : Nat} {f f' : zk_F} (hf : V[x]? = some f) (hk : f'.1 = f.1) (z : zk_S) : zk_kd (V.set x f') z = zk_kd V z := by
  unfold zk_kd
  by_cases e : z.1 = x
  · have hl : x < V.length := (List.getElem?_eq_some_iff.mp hf).1
    rw [e, List.getElem?_set_self hl, hf]
    exact hk
  · rw [List.getElem?_set_ne (Ne.symm e)]
theorem zk_asm1_ok {κ : zk_C} {N : List Int} {P : Nat → Option Nat} {F : Nat → va_E} {H : Heap} {locs : List Loc} {ls : Array Slot} (hG : zk_G w s u κ N P F H locs ls) {q r : zk_S} {d a b : Int} (hk : zk_kd κ.1 q = zk_kd κ.1 r) (hk2 : zk_kd κ.1 q < 2) (ha : N[q.1]? = some a) (hb : N[r.1]? = some b) (hle : a + q.2 ≤ b + r.2 + d) :
    ∃ κ', zk_asm1 κ q r d = some κ' ∧ zk_G w s u κ' N P F H locs ls ∧ zk_le κ.1 N κ'.1 N ∧ ∀ z, zk_kd κ'.1 z = zk_kd κ.1 z := by
  obtain ⟨f, e1, e2⟩ := zk_all2_getR hG.1 ha
  obtain ⟨g, e3, e4⟩ := zk_all2_getR hG.1 hb
  have kf : f.1 < 2 := by unfold zk_kd at hk2; rw [e1] at hk2; exact hk2
  have kg : g.1 = f.1 := by unfold zk_kd at hk; rw [e1, e3] at hk; exact hk.symm
  have i1 := e2.iv kf
  have i2 := e4.iv (by omega)
  unfold zk_asm1
  rw [e1, e3]
  dsimp only
  by_cases hqr : q.1 = r.1
  · rw [if_pos hqr]
    rw [hqr, hb] at ha
    cases ha
    rw [if_pos (by omega)]
    exact ⟨κ, rfl, hG, zk_le.rf, fun _ => rfl⟩
  · rw [if_neg hqr, if_neg (by omega)]
    obtain ⟨V, D, rst⟩ := κ
    dsimp only at *
    have G1 : zk_G w s u (V.set q.1 (f.1, f.2.1, f.2.2.1, min f.2.2.2 (g.2.2.2 + r.2 + d - q.2)), D, rst) N P F H locs ls := by
      refine zk_G.set hG e1 (Or.inl rfl) (fun n hn hok => ?_)
      rw [ha] at hn
      cases hn
      obtain ⟨fk, ft, fl, fh⟩ := f
      match fk, kf, hok with
      | 0, _, hok => exact ⟨hok.1, by show _ ≤ min _ _; have := hok.2.1; dsimp only at *; omega, hok.2.2⟩
      | 1, _, hok => exact ⟨hok.1, by show _ ≤ min _ _; have := hok.2.1; dsimp only at *; omega, hok.2.2⟩
    have L1 : zk_le V N (V.set q.1 (f.1, f.2.1, f.2.2.1, min f.2.2.2 (g.2.2.2 + r.2 + d - q.2))) N := zk_le.set e1 (Or.inl rfl)
    have e3' : (V.set q.1 (f.1, f.2.1, f.2.2.1, min f.2.2.2 (g.2.2.2 + r.2 + d - q.2)))[r.1]? = some g := by
      rw [List.getElem?_set_ne hqr]
      exact e3
    have G2 : zk_G w s u ((V.set q.1 (f.1, f.2.1, f.2.2.1, min f.2.2.2 (g.2.2.2 + r.2 + d - q.2))).set r.1 (g.1, g.2.1, max g.2.2.1 (f.2.2.1 + q.2 - d - r.2), g.2.2.2), D, rst) N P F H locs ls := by
      refine zk_G.set G1 e3' (Or.inl rfl) (fun n hn hok => ?_)
      rw [hb] at hn
      cases hn
      obtain ⟨gk, gt, gl, gh⟩ := g
      match gk, kg, hok with
      | 0, _, hok => exact ⟨by show max _ _ ≤ _; have := hok.1; dsimp only at *; omega, hok.2.1, hok.2.2⟩
      | 1, _, hok => exact ⟨by show max _ _ ≤ _; have := hok.1; dsimp only at *; omega, hok.2.1, hok.2.2⟩
      | k + 2, kg, _ => exact absurd kf (by rw [← kg]; show ¬ k + 2 < 2; omega)
    have L2 := zk_le.trans L1 (zk_le.set (N := N) e3' (f' := (g.1, g.2.1, max g.2.2.1 (f.2.2.1 + q.2 - d - r.2), g.2.2.2)) (Or.inl rfl))
    refine ⟨_, rfl, ?_, L2, fun z => ?_⟩
    · by_cases h3 : 3 ≤ q.1 ∧ 3 ≤ r.1
      · rw [if_pos h3]
        exact zk_G.dif G2 ⟨a, b, ha, hb, by dsimp only; omega⟩
      · rw [if_neg h3]
        exact G2
    · exact Eq.trans (zk_set_kd e3' (f' := (g.1, g.2.1, max g.2.2.1 (f.2.2.1 + q.2 - d - r.2), g.2.2.2)) rfl z) (zk_set_kd e1 (f' := (f.1, f.2.1, f.2.2.1, min f.2.2.2 (g.2.2.2 + r.2 + d - q.2))) rfl z)
theorem zk_asm_ok {κ : zk_C} {N : List Int} {P : Nat → Option Nat} {F : Nat → va_E} {H : Heap} {locs : List Loc} {ls : Array Slot} (hG : zk_G w s u κ N P F H locs ls) {q r : zk_S} {k : ClassFile.Cond} {sp : Bool} {a b : Int} (hk : zk_kd κ.1 q = zk_kd κ.1 r) (hk2 : zk_kd κ.1 q < 2) (ha : N[q.1]? = some a) (hb : N[r.1]? = some b) (hc : zk_cmp k (a + q.2) (b + r.2)) :
    ∃ κ' ∈ zk_asm κ k q r sp, zk_G w s u κ' N P F H locs ls ∧ zk_le κ.1 N κ'.1 N := by
  have one : ∀ {q r : zk_S} {d a b : Int}, zk_kd κ.1 q = zk_kd κ.1 r → zk_kd κ.1 q < 2 → N[q.1]? = some a → N[r.1]? = some b → a + q.2 ≤ b + r.2 + d → ∃ κ' ∈ zk_ol (zk_asm1 κ q r d), zk_G w s u κ' N P F H locs ls ∧ zk_le κ.1 N κ'.1 N := by
    intro q r d a b h1 h2 h3 h4 h5
    obtain ⟨κ', z1, z2, z3, -⟩ := zk_asm1_ok hG h1 h2 h3 h4 h5
    rw [z1]
    exact ⟨κ', List.mem_singleton.mpr rfl, z2, z3⟩
  have hkr : zk_kd κ.1 r < 2 := by omega
  cases k
  case eq =>
    have hc : a + q.2 = b + r.2 := hc
    obtain ⟨κ1, z1, z2, z3, z4⟩ := zk_asm1_ok (d := 0) hG hk hk2 ha hb (by omega)
    obtain ⟨κ2, y1, y2, y3, y4⟩ := zk_asm1_ok (d := 0) z2 (q := r) (r := q) (by rw [z4, z4]; exact hk.symm) (by rw [z4]; exact hkr) hb ha (by omega)
    refine ⟨κ2, ?_, y2, z3.trans y3⟩
    simp only [zk_asm]
    rw [z1]
    dsimp only
    rw [y1]
    exact List.mem_singleton.mpr rfl
  case ne =>
    have hc : ¬ a + q.2 = b + r.2 := hc
    simp only [zk_asm]
    by_cases hlt : a + q.2 ≤ b + r.2 + -1
    · obtain ⟨κ1, z1, z2, z3, z4⟩ := zk_asm1_ok (d := -1) hG hk hk2 ha hb hlt
      rw [z1]
      cases zk_asm1 κ r q (-1) with
      | none => exact ⟨κ1, List.mem_singleton.mpr rfl, z2, z3⟩
      | some y =>
        cases sp
        · exact ⟨κ, List.mem_singleton.mpr rfl, hG, zk_le.rf⟩
        · exact ⟨κ1, List.mem_cons_self, z2, z3⟩
    · obtain ⟨κ1, z1, z2, z3, z4⟩ := zk_asm1_ok (d := -1) hG (q := r) (r := q) hk.symm hkr hb ha (by omega)
      rw [z1]
      cases zk_asm1 κ q r (-1) with
      | none => exact ⟨κ1, List.mem_singleton.mpr rfl, z2, z3⟩
      | some y =>
        cases sp
        · exact ⟨κ, List.mem_singleton.mpr rfl, hG, zk_le.rf⟩
        · exact ⟨κ1, List.mem_cons_of_mem _ List.mem_cons_self, z2, z3⟩
  case lt =>
    have hc : a + q.2 < b + r.2 := hc
    exact one hk hk2 ha hb (by omega)
  case ge =>
    have hc : b + r.2 ≤ a + q.2 := hc
    exact one hk.symm hkr hb ha (by omega)
  case gt =>
    have hc : b + r.2 < a + q.2 := hc
    exact one hk.symm hkr hb ha (by omega)
  case le =>
    have hc : a + q.2 ≤ b + r.2 := hc
    exact one hk hk2 ha hb (by omega)
theorem zk_nn_ok {κ : zk_C} {N : List Int} {P : Nat → Option Nat} {F : Nat → va_E} {H : Heap} {locs : List Loc} {ls : Array Slot} (hG : zk_G w s u κ N P F H locs ls) {x : zk_S} {n : Int} (hk : 2 ≤ zk_kd κ.1 x) (hk2 : zk_kd κ.1 x < 99) (ha : N[x.1]? = some n) (hn : 0 ≤ n) : ∃ κ', zk_nn κ x = some κ' ∧ zk_G w s u κ' N P F H locs ls ∧ zk_le κ.1 N κ'.1 N := by
  obtain ⟨f, e1, e2⟩ := zk_all2_getR hG.1 ha
  unfold zk_nn
  rw [e1]
  dsimp only
  by_cases h2 : f.1 = 2
  · rw [if_pos h2]
    obtain ⟨fk, ft, fl, fh⟩ := f
    dsimp only at h2
    subst h2
    have e2 : fl ≤ n ∧ -1 ≤ n ∧ (fh < 0 → n < 0) ∧ (0 ≤ n → P n.toNat = some ft) := e2
    have h3 : ¬ fh < 0 := fun q => absurd (e2.2.2.1 q) (by omega)
    rw [if_neg h3]
    refine ⟨_, rfl, zk_G.set hG e1 (Or.inl rfl) (fun k hk' hok => ?_), zk_le.set e1 (Or.inl rfl)⟩
    rw [ha] at hk'
    cases hk'
    exact ⟨hn, e2.2.1, e2.2.2.1, e2.2.2.2⟩
  · rw [if_neg h2]
    exact ⟨κ, rfl, hG, zk_le.rf⟩
theorem zk_nu_ok {κ : zk_C} {N : List Int} {P : Nat → Option Nat} {F : Nat → va_E} {H : Heap} {locs : List Loc} {ls : Array Slot} (hG : zk_G w s u κ N P F H locs ls) {x : zk_S} {n : Int} (hk : 2 ≤ zk_kd κ.1 x) (hk2 : zk_kd κ.1 x < 99) (ha : N[x.1]? = some n) (hn : n < 0) : ∃ κ', zk_nu κ x = some κ' ∧ zk_G w s u κ' N P F H locs ls ∧ zk_le κ.1 N κ'.1 N := by
  obtain ⟨f, e1, e2⟩ := zk_all2_getR hG.1 ha
  have hkf : 2 ≤ f.1 := by unfold zk_kd at hk; rw [e1] at hk; exact hk
  unfold zk_nu
  rw [e1]
  dsimp only
  obtain ⟨fk, ft, fl, fh⟩ := f
  match fk, hkf with
  | 2, _ =>
    have e2 : fl ≤ n ∧ -1 ≤ n ∧ (fh < 0 → n < 0) ∧ (0 ≤ n → P n.toNat = some ft) := e2
    rw [if_pos rfl, if_neg (show ¬ 0 ≤ fl by omega)]
    refine ⟨_, rfl, zk_G.set hG e1 (Or.inl rfl) (fun k hk' hok => ?_), zk_le.set e1 (Or.inl rfl)⟩
    rw [ha] at hk'
    cases hk'
    exact ⟨by show (-1 : Int) ≤ n; omega, e2.2.1, fun _ => hn, fun q => absurd q (by omega)⟩
  | k + 3, _ =>
    have e2 : 0 ≤ n := e2
    omega
end ZK8
