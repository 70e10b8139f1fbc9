/-! part 7: steps on locals and numbers -/
noncomputable def zk_J (p : Program) (l : Launch) (e : Env) (R : Room) (s : State) (m : MethodId) (args : Array Value) (below : List Frame) (meth : Method) (c : Code) (Q : State → Prop) (w : zk_W) (u : zk_M) (κ : zk_C) (st : List zk_S) (cu su pc : Nat) : Prop :=
  ∀ (N : List Int) (P : Nat → Option Nat) (F : Nat → va_E) (H : Heap) (locs : List Loc) (ls : Array Slot) (sv : List Value), zk_G w s u κ N P F H locs ls → zk_all2 (zk_sv κ.1 N) st sv → W p l e R s m args below meth c H locs cu su Q (F0 m pc ls sv)
abbrev zk_O : Type := Nat × zk_C × List zk_S × Nat × Nat
noncomputable def zk_kok (k kd : Nat) : Bool := if k < 2 then kd == k else decide (2 ≤ kd) && decide (kd < 99)
noncomputable def zk_cat (V : List zk_F) (q : zk_S) : Nat := if zk_kd V q = 1 then 2 else 1
/-- the result of two ints -/
noncomputable def zk_bnR (V : List zk_F) (o : Nat) (x y : zk_S) : List zk_F × zk_S :=
  if o = 0 ∧ y.1 = 0 ∧ zk_m31 ≤ zk_lw V x + y.2 ∧ zk_hg V x + y.2 ≤ zk_p31 then (V, (x.1, x.2 + y.2))
  else if o = 0 ∧ x.1 = 0 ∧ zk_m31 ≤ zk_lw V y + x.2 ∧ zk_hg V y + x.2 ≤ zk_p31 then (V, (y.1, y.2 + x.2))
  else if o = 1 ∧ y.1 = 0 ∧ zk_m31 ≤ zk_lw V x - y.2 ∧ zk_hg V x - y.2 ≤ zk_p31 then (V, (x.1, x.2 - y.2))
  else if o = 0 ∧ zk_lw V y = zk_hg V y ∧ zk_m31 ≤ zk_lw V x + zk_lw V y ∧ zk_hg V x + zk_lw V y ≤ zk_p31 then (V, (x.1, x.2 + zk_lw V y))
  else if o = 0 ∧ zk_lw V x = zk_hg V x ∧ zk_m31 ≤ zk_lw V y + zk_lw V x ∧ zk_hg V y + zk_lw V x ≤ zk_p31 then (V, (y.1, y.2 + zk_lw V x))
  else if o = 1 ∧ zk_lw V y = zk_hg V y ∧ zk_m31 ≤ zk_lw V x - zk_lw V y ∧ zk_hg V x - zk_lw V y ≤ zk_p31 then (V, (x.1, x.2 - zk_lw V y))
  else (V ++ [(0, 0, zk_bnI o (zk_lw V x) (zk_hg V x) (zk_lw V y) (zk_hg V y))], (V.length, 0))
/-- the result of two longs -/
noncomputable def zk_lbR (V : List zk_F) (o : Nat) (x y : zk_S) : List zk_F × zk_S :=
  if o = 0 ∧ y.1 = 1 ∧ V[1]? = some (1, 0, 0, 0) ∧ zk_m63 ≤ zk_lw V x + y.2 ∧ zk_hg V x + y.2 ≤ zk_p63 then (V, (x.1, x.2 + y.2))
  else if o = 1 ∧ y.1 = 1 ∧ V[1]? = some (1, 0, 0, 0) ∧ zk_m63 ≤ zk_lw V x - y.2 ∧ zk_hg V x - y.2 ≤ zk_p63 then (V, (x.1, x.2 - y.2))
  else (V ++ [(1, 0, zk_lbI o (zk_lw V x) (zk_hg V x) (zk_lw V y) (zk_hg V y))], (V.length, 0))
noncomputable def zk_ckb (k n nL : Nat) : Bool := if k = 1 then decide (n + 1 < nL) else decide (n < nL)
theorem zk_ckb_ok {k n nL : Nat} (h : zk_ckb k n nL = true) : zk_ck k n nL := by
  unfold zk_ckb at h
  unfold zk_ck
  split
  · rename_i e
    rw [if_pos e] at h
    exact of_decide_eq_true h
  · rename_i e
    rw [if_neg e] at h
    exact of_decide_eq_true h
noncomputable def zk_cv (k : Nat) (n : Int) : Int := if k = 2 then 0 else n
noncomputable def zk_cb (k : Nat) : Int := if k = 2 then -1 else 0
noncomputable def zk_s1 (nL : Nat) (i : ClassFile.Instr) (len pc : Nat) (κ : zk_C) (st : List zk_S) (cu su : Nat) : Option zk_O :=
  match zk_ldK i with
  | some (k, n, ln) => match κ.2.2.2.2.1.find? (fun q => q.1 == n) with
    | some q => if ln = len ∧ zk_kok k (zk_kd κ.1 q.2) = true then some (pc + len, κ, q.2 :: st, cu, su) else none
    | none => none
  | none => match zk_stK i with
    | some (k, n, ln) => match st with
      | q :: st' => if ln = len ∧ zk_kok k (zk_kd κ.1 q) = true ∧ zk_ckb k n nL = true then some (pc + len, (κ.1, κ.2.1, κ.2.2.1, κ.2.2.2.1, (n, q) :: κ.2.2.2.2.1.filter (fun r => zk_st1 k n r.1 (zk_cat κ.1 r.2)), κ.2.2.2.2.2), st', cu, su) else none
      | [] => none
    | none => match zk_cnK i with
      | some (k, n, ln) => if ln = len ∧ κ.1[k]? = some (k, 0, zk_cb k, zk_cb k) ∧ k ≤ 2 ∧ (k < 2 → zk_m31 ≤ n ∧ n ≤ zk_p31) ∧ (k = 2 → n = -1) then some (pc + len, κ, (k, zk_cv k n) :: st, cu, su) else none
      | none => match zk_bnK i with
        | some o => match st with
          | y :: x :: st' => if len = 1 ∧ zk_kd κ.1 x = 0 ∧ zk_kd κ.1 y = 0 ∧ κ.1[0]? = some (0, 0, 0, 0) ∧ (9 ≤ o → 1 ≤ zk_lw κ.1 y ∨ zk_hg κ.1 y ≤ -1) then some (pc + 1, ((zk_bnR κ.1 o x y).1, κ.2), (zk_bnR κ.1 o x y).2 :: st', cu, su) else none
          | _ => none
        | none => match zk_unK i with
          | some o => match st with
            | x :: st' => if len = 1 ∧ zk_kd κ.1 x = 0 then some (pc + 1, (κ.1 ++ [(0, 0, zk_unI o (zk_lw κ.1 x) (zk_hg κ.1 x))], κ.2), (κ.1.length, 0) :: st', cu, su) else none
            | _ => none
          | none => match zk_lbK i with
            | some o => match st with
              | y :: x :: st' => if len = 1 ∧ zk_kd κ.1 x = 1 ∧ zk_kd κ.1 y = 1 ∧ (9 ≤ o → 1 ≤ zk_lw κ.1 y ∨ zk_hg κ.1 y ≤ -1) then some (pc + 1, ((zk_lbR κ.1 o x y).1, κ.2), (zk_lbR κ.1 o x y).2 :: st', cu, su) else none
              | _ => none
            | none => none
section ZK7
variable {p : Program} {l : Launch} {e : Env} {R : Room} {s : State} {m : MethodId} {args : Array Value} {below : List Frame} {meth : Method} {c : Code} {Q : State → Prop}
variable {cc : ByteArray} {w : zk_W} {u : zk_M} {Ts : List Jvm.Cond} {own : String}
theorem zk_ld_ok {V : List zk_F} {N : List Int} {ls : Array Slot} {nL : Nat} {L : List (Nat × zk_S)} (h : zk_lo V N ls nL L) {q : Nat × zk_S} (hq : q ∈ L) : ∃ v, ls[q.1]? = some (.val v) ∧ zk_sv V N q.2 v := by
  obtain ⟨lv, h1, h2⟩ := h
  obtain ⟨i, hi⟩ := List.getElem?_of_mem hq
  obtain ⟨r, e1, e2, e3⟩ := zk_all2_get h2 hi
  exact ⟨r.2, by rw [e2]; exact h1.2.2 r (List.mem_of_getElem? e1), e3⟩
theorem zk_kok_v {P : Nat → Option Nat} {V : List zk_F} {N : List Int} (h : zk_all2 (zk_ok P) V N) {k : Nat} {q : zk_S} {v : Value} (hv : zk_sv V N q v) (hk : zk_kok k (zk_kd V q) = true) : zk_vk k v := by
  match k with
  | 0 =>
    obtain ⟨n, e, -⟩ := hv.int h (by simpa [zk_kok] using hk)
    exact ⟨_, e⟩
  | 1 =>
    obtain ⟨n, e, -⟩ := hv.long h (by simpa [zk_kok] using hk)
    exact ⟨_, e⟩
  | k + 2 =>
    have e9 : ¬ k + 2 < 2 := by omega
    have h2 : 2 ≤ zk_kd V q ∧ zk_kd V q < 99 := by simpa [zk_kok, e9] using hk
    exact (hv.ref h2.1 h2.2).1
theorem zk_const_ok {P : Nat → Option Nat} {V : List zk_F} {N : List Int} (h : zk_all2 (zk_ok P) V N) {k : Nat} {n : Int} (hk : V[k]? = some (k, 0, zk_cb k, zk_cb k)) (hk2 : k ≤ 2) (hr : k < 2 → zk_m31 ≤ n ∧ n ≤ zk_p31) (hn : k = 2 → n = -1) : zk_sv V N (k, zk_cv k n) (zk_mk k n) := by
  obtain ⟨i, e1, e2⟩ := zk_all2_get h hk
  unfold zk_m31 zk_p31 at hr
  unfold zk_cb at hk e2
  unfold zk_cv
  match k, hk2 with
  | 0, _ =>
    have h3 := (zk_ok.iv e2 (by decide))
    have hi : i = 0 := by have := h3.1; have := h3.2; simp at *; omega
    subst hi
    have := hr (by decide)
    exact ⟨_, 0, hk, e1, by simp [zk_rg]; omega, by simp⟩
  | 1, _ =>
    have h3 := (zk_ok.iv e2 (by decide))
    have hi : i = 0 := by have := h3.1; have := h3.2; simp at *; omega
    subst hi
    have := hr (by decide)
    exact ⟨_, 0, hk, e1, by simp [zk_rg]; omega, by simp⟩
  | 2, _ =>
    have h3 : (-1 : Int) ≤ i ∧ -1 ≤ i ∧ ((-1 : Int) < 0 → i < 0) ∧ _ := e2
    have hi : i = -1 := by have := h3.1; have := h3.2.2.1 (by decide); omega
    subst hi
    rw [hn rfl]
    exact ⟨_, -1, hk, e1, trivial, by simp⟩
theorem zk_c0 {P : Nat → Option Nat} {V : List zk_F} {N : List Int} (h : zk_all2 (zk_ok P) V N) (hk : V[0]? = some (0, 0, 0, 0)) : N[0]? = some 0 := by
  obtain ⟨i, e1, e2⟩ := zk_all2_get h hk
  have h3 := (zk_ok.iv e2 (by decide))
  have hi : i = 0 := by have := h3.1; have := h3.2; simp at *; omega
  rw [e1, hi]
theorem zk_fresh32 {P : Nat → Option Nat} {lo hi : Int} {v : Int32} (h : lo ≤ v.toInt ∧ v.toInt ≤ hi) : zk_ok P (0, 0, lo, hi) v.toInt ∧ Value.int v = zk_mk 0 v.toInt :=
  ⟨⟨h.1, h.2, (zk_to32 v).1⟩, congrArg Value.int (zk_to32 v).2⟩
theorem zk_fresh64 {P : Nat → Option Nat} {v : Int64} : zk_ok P (1, 0, -9223372036854775808, 9223372036854775807) v.toInt ∧ Value.long v = zk_mk 1 v.toInt :=
  ⟨⟨(zk_to64 v).1.1, (zk_to64 v).1.2, (zk_to64 v).1⟩, congrArg Value.long (zk_to64 v).2⟩
theorem zk_bnR_ok {P : Nat → Option Nat} {V : List zk_F} {N : List Int} (h : zk_all2 (zk_ok P) V N) (h0 : V[0]? = some (0, 0, 0, 0)) {o : Nat} {x y : zk_S} {vx vy : Value} (hx : zk_sv V N x vx) (hy : zk_sv V N y vy) (kx : zk_kd V x = 0) (ky : zk_kd V y = 0) :
    ∃ a b : Int, vx = .int (Int32.ofInt a) ∧ vy = .int (Int32.ofInt b) ∧ zk_rg 0 b ∧ zk_lw V y ≤ b ∧ b ≤ zk_hg V y ∧ ∃ N', zk_all2 (zk_ok P) (zk_bnR V o x y).1 N' ∧ zk_le V N (zk_bnR V o x y).1 N' ∧ zk_sv (zk_bnR V o x y).1 N' (zk_bnR V o x y).2 (.int (zk_bn o (Int32.ofInt a) (Int32.ofInt b))) := by
  obtain ⟨a, e1, ra, la, ha, ka, na, ea⟩ := hx.int h kx
  obtain ⟨b, e2, rb, lb, hb, kb, nb, eb⟩ := hy.int h ky
  refine ⟨a, b, e1, e2, rb, lb, hb, ?_⟩
  have n0 := zk_c0 h h0
  obtain ⟨fx, nx, x1, x2, x3, x4⟩ := hx
  obtain ⟨fy, ny, y1, y2, y3, y4⟩ := hy
  have kx' : fx.1 = 0 := by unfold zk_kd at kx; rw [x1] at kx; exact kx
  have ky' : fy.1 = 0 := by unfold zk_kd at ky; rw [y1] at ky; exact ky
  cases x2.symm.trans na
  cases y2.symm.trans nb
  unfold zk_bnR
  unfold zk_m31 zk_p31
  split
  · rename_i hc
    obtain ⟨rfl, c1, c2, c3⟩ := hc
    rw [c1, n0] at nb
    cases nb
    refine ⟨N, h, zk_le.rf, fx, ka, x1, x2, ?_, ?_⟩
    · rw [kx']; exact ⟨by dsimp only; omega, by dsimp only; omega⟩
    · rw [kx']
      show Value.int (Int32.ofInt a + Int32.ofInt b) = .int (Int32.ofInt (ka + (x.2 + y.2)))
      rw [← Int32.ofInt_add]
      congr 2
      omega
  · split
    · rename_i hc
      obtain ⟨rfl, c1, c2, c3⟩ := hc
      rw [c1, n0] at na
      cases na
      refine ⟨N, h, zk_le.rf, fy, kb, y1, y2, ?_, ?_⟩
      · rw [ky']; exact ⟨by dsimp only; omega, by dsimp only; omega⟩
      · rw [ky']
        show Value.int (Int32.ofInt a + Int32.ofInt b) = .int (Int32.ofInt (kb + (y.2 + x.2)))
        rw [← Int32.ofInt_add]
        congr 2
        omega
    · split
      · rename_i hc
        obtain ⟨rfl, c1, c2, c3⟩ := hc
        rw [c1, n0] at nb
        cases nb
        refine ⟨N, h, zk_le.rf, fx, ka, x1, x2, ?_, ?_⟩
        · rw [kx']; exact ⟨by dsimp only; omega, by dsimp only; omega⟩
        · rw [kx']
          show Value.int (Int32.ofInt a - Int32.ofInt b) = .int (Int32.ofInt (ka + (x.2 - y.2)))
          rw [← Int32.ofInt_sub]
          congr 2
          omega
      · split
        · rename_i hc
          obtain ⟨rfl, c1, c2, c3⟩ := hc
          have e9 : b = zk_lw V y := by omega
          refine ⟨N, h, zk_le.rf, fx, ka, x1, x2, ?_, ?_⟩
          · rw [kx']; exact ⟨by dsimp only; omega, by dsimp only; omega⟩
          · rw [kx']
            show Value.int (Int32.ofInt a + Int32.ofInt b) = .int (Int32.ofInt (ka + (x.2 + zk_lw V y)))
            rw [← Int32.ofInt_add]
            congr 2
            omega
        · split
          · rename_i hc
            obtain ⟨rfl, c1, c2, c3⟩ := hc
            have e9 : a = zk_lw V x := by omega
            refine ⟨N, h, zk_le.rf, fy, kb, y1, y2, ?_, ?_⟩
            · rw [ky']; exact ⟨by dsimp only; omega, by dsimp only; omega⟩
            · rw [ky']
              show Value.int (Int32.ofInt a + Int32.ofInt b) = .int (Int32.ofInt (kb + (y.2 + zk_lw V x)))
              rw [← Int32.ofInt_add]
              congr 2
              omega
          · split
            · rename_i hc
              obtain ⟨rfl, c1, c2, c3⟩ := hc
              have e9 : b = zk_lw V y := by omega
              refine ⟨N, h, zk_le.rf, fx, ka, x1, x2, ?_, ?_⟩
              · rw [kx']; exact ⟨by dsimp only; omega, by dsimp only; omega⟩
              · rw [kx']
                show Value.int (Int32.ofInt a - Int32.ofInt b) = .int (Int32.ofInt (ka + (x.2 - zk_lw V y)))
                rw [← Int32.ofInt_sub]
                congr 2
                omega
            · obtain ⟨f1, f2⟩ := zk_fresh32 (P := P) (zk_bn_in (o := o) ra rb la ha lb hb)
              refine ⟨N ++ [_], zk_all2_snoc f1 h, zk_le.snoc _ _, ?_⟩
              rw [f2]
              exact zk_sv_last h f1
theorem zk_fresh64r {P : Nat → Option Nat} {lo hi : Int} {v : Int64} (h : lo ≤ v.toInt ∧ v.toInt ≤ hi) : zk_ok P (1, 0, lo, hi) v.toInt ∧ Value.long v = zk_mk 1 v.toInt :=
  ⟨⟨h.1, h.2, (zk_to64 v).1⟩, congrArg Value.long (zk_to64 v).2⟩
theorem zk_c1 {P : Nat → Option Nat} {V : List zk_F} {N : List Int} (h : zk_all2 (zk_ok P) V N) (hk : V[1]? = some (1, 0, 0, 0)) : N[1]? = some 0 := by
  obtain ⟨n, e1, e2⟩ := zk_all2_get h hk
  have e2 : (0 : Int) ≤ n ∧ n ≤ 0 ∧ _ := e2
  rw [e1]
  congr 1
  omega
theorem zk_lbR_ok {P : Nat → Option Nat} {V : List zk_F} {N : List Int} (h : zk_all2 (zk_ok P) V N) {o : Nat} {x y : zk_S} {vx vy : Value} (hx : zk_sv V N x vx) (hy : zk_sv V N y vy) (kx : zk_kd V x = 1) (ky : zk_kd V y = 1) :
    ∃ a b : Int, vx = .long (Int64.ofInt a) ∧ vy = .long (Int64.ofInt b) ∧ zk_rg 1 b ∧ zk_lw V y ≤ b ∧ b ≤ zk_hg V y ∧ ∃ N', zk_all2 (zk_ok P) (zk_lbR V o x y).1 N' ∧ zk_le V N (zk_lbR V o x y).1 N' ∧ zk_sv (zk_lbR V o x y).1 N' (zk_lbR V o x y).2 (.long (zk_lb o (Int64.ofInt a) (Int64.ofInt b))) := by
  obtain ⟨a, e1, ra, la, ha, ka, na, ea⟩ := hx.long h kx
  obtain ⟨b, e2, rb, lb, hb, kb, nb, eb⟩ := hy.long h ky
  refine ⟨a, b, e1, e2, rb, lb, hb, ?_⟩
  obtain ⟨fx, nx, x1, x2, x3, x4⟩ := hx
  have kx' : fx.1 = 1 := by unfold zk_kd at kx; rw [x1] at kx; exact kx
  cases x2.symm.trans na
  unfold zk_lbR
  unfold zk_m63 zk_p63
  split
  · rename_i hc
    obtain ⟨rfl, c1, c0, c2, c3⟩ := hc
    rw [c1, zk_c1 h c0] at nb
    cases nb
    refine ⟨N, h, zk_le.rf, fx, ka, x1, x2, ?_, ?_⟩
    · rw [kx']; exact ⟨by dsimp only; omega, by dsimp only; omega⟩
    · rw [kx']
      show Value.long (Int64.ofInt a + Int64.ofInt b) = .long (Int64.ofInt (ka + (x.2 + y.2)))
      rw [← Int64.ofInt_add]
      congr 2
      omega
  · split
    · rename_i hc
      obtain ⟨rfl, c1, c0, c2, c3⟩ := hc
      rw [c1, zk_c1 h c0] at nb
      cases nb
      refine ⟨N, h, zk_le.rf, fx, ka, x1, x2, ?_, ?_⟩
      · rw [kx']; exact ⟨by dsimp only; omega, by dsimp only; omega⟩
      · rw [kx']
        show Value.long (Int64.ofInt a - Int64.ofInt b) = .long (Int64.ofInt (ka + (x.2 - y.2)))
        rw [← Int64.ofInt_sub]
        congr 2
        omega
    · obtain ⟨f1, f2⟩ := zk_fresh64r (P := P) (zk_lb_in (o := o) la ha lb hb)
      refine ⟨_, zk_all2_snoc f1 h, zk_le.snoc _ _, ?_⟩
      rw [f2]
      exact zk_sv_last h f1
/-- pushing what a variable holds -/
theorem zk_sv_mono {V V' : List zk_F} {N N' : List Int} {st : List zk_S} {sv : List Value} (hl : zk_le V N V' N') (h : zk_all2 (zk_sv V N) st sv) : zk_all2 (zk_sv V' N') st sv := zk_all2_imp (fun _ _ q => hl.2 _ _ q) h
theorem zk_s1_ok (hx : p.tables.exec = Jvm.exec) (hb : c.code = cc) {i : ClassFile.Instr} {len pc : Nat} {κ : zk_C} {st : List zk_S} {cu su : Nat} {o : zk_O} (hs : zk_s1 u.2.2.2.2.2.1 i len pc κ st cu su = some o) (hdg : decode cc pc = .ok (i, len)) (kk : zk_J p l e R s m args below meth c Q w u o.2.1 o.2.2.1 o.2.2.2.1 o.2.2.2.2 o.1) : zk_J p l e R s m args below meth c Q w u κ st cu su pc := by
  intro N P F H locs ls sv hG hS
  have hV := hG.1
  unfold zk_s1 at hs
  split at hs
  · rename_i k n ln hi
    split at hs
    · rename_i q hq
      split at hs
      · rename_i hc
        obtain ⟨rfl, hk⟩ := hc
        cases hs
        have hm := List.mem_of_find?_eq_some hq
        have hn : q.1 = n := by simpa using List.find?_some hq
        obtain ⟨v, e1, e2⟩ := zk_ld_ok hG.2.2.2.2.2.1 hm
        rw [hn] at e1
        exact zw_load hx hb hi hdg e1 (zk_kok_v hV e2 hk) (kk N P F H locs ls (v :: sv) hG ⟨e2, hS⟩)
      · cases hs
    · cases hs
  · split at hs
    · rename_i k n ln hi
      split at hs
      · rename_i q st'
        split at hs
        · rename_i hc
          obtain ⟨rfl, hk, hn⟩ := hc
          cases hs
          match sv, hS with
          | v :: sv', hS =>
            obtain ⟨g1, g2, g3, g4, g5, ⟨lv, g6, g7⟩, g8⟩ := hG
            refine zw_store hx hb hi hdg g6 (zk_ckb_ok hn) (zk_kok_v hV hS.1 hk) (fun ls' hl => kk N P F H locs ls' sv' ⟨g1, g2, g3, g4, g5, ⟨_, hl, ⟨rfl, hS.1⟩, zk_all2_filter (fun a b hab => ?_) g7⟩, g8⟩ hS.2)
            obtain ⟨h1, h2⟩ := hab
            rw [h1]
            unfold zk_cat
            rw [← h2.cat]
        · cases hs
      · cases hs
    · split at hs
      · rename_i k n ln hi
        split at hs
        · rename_i hc
          obtain ⟨rfl, h1, h2, h3, h4⟩ := hc
          cases hs
          exact zw_const hx hb hi hdg (kk N P F H locs ls _ hG ⟨zk_const_ok hV h1 h2 h3 h4, hS⟩)
        · cases hs
      · split at hs
        · rename_i o' hi
          split at hs
          · rename_i y x st'
            split at hs
            · rename_i hc
              obtain ⟨rfl, h1, h2, h3, h4⟩ := hc
              cases hs
              match sv, hS with
              | vy :: vx :: sv', hS =>
                obtain ⟨a, b, rfl, rfl, rb, lb, hb', N', n1, n2, n3⟩ := zk_bnR_ok (o := o') hV h3 hS.2.1 hS.1 h1 h2
                refine zw_bin hx hb hi hdg (fun h9 => ?_) (kk N' P F H locs ls _ (hG.le n2 n1) ⟨n3, zk_sv_mono n2 hS.2.2⟩)
                have h8 := h4 h9
                intro hz
                have e0 := zk_i32 rb
                rw [hz] at e0
                have : (0 : Int32).toInt = 0 := by decide
                omega
            · cases hs
          · cases hs
        · split at hs
          · rename_i o' hi
            split at hs
            · rename_i x st'
              split at hs
              · rename_i hc
                obtain ⟨rfl, h1⟩ := hc
                cases hs
                match sv, hS with
                | vx :: sv', hS =>
                  obtain ⟨a, rfl, ra, la, ha, -⟩ := hS.1.int hV h1
                  obtain ⟨f1, f2⟩ := zk_fresh32 (P := P) (zk_un_in (o := o') ra la ha)
                  refine zw_un hx hb hi hdg (kk _ P F H locs ls _ (hG.push f1) ⟨?_, zk_sv_mono (zk_le.snoc _ _) hS.2⟩)
                  rw [f2]
                  exact zk_sv_last hV f1
              · cases hs
            · cases hs
          · split at hs
            · rename_i o' hi
              split at hs
              · rename_i y x st'
                split at hs
                · rename_i hc
                  obtain ⟨rfl, h1, h2, h4⟩ := hc
                  cases hs
                  match sv, hS with
                  | vy :: vx :: sv', hS =>
                    obtain ⟨a, b, rfl, rfl, rb, lb, hb', N', g1, g2, g3⟩ := zk_lbR_ok (o := o') hV hS.2.1 hS.1 h1 h2
                    refine zw_lbin hx hb hi hdg (fun h9 => ?_) (kk _ P F H locs ls _ (hG.le g2 g1) ⟨g3, zk_sv_mono g2 hS.2.2⟩)
                    have h8 := h4 h9
                    intro hz
                    have e0 := zk_i64 rb
                    rw [hz] at e0
                    have : (0 : Int64).toInt = 0 := by decide
                    omega
                · cases hs
              · cases hs
            · cases hs
end ZK7
