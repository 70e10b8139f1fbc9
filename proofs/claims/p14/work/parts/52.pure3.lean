/-! part 52: the rules: calls, ends; a method gone through so keeps its contract -/
noncomputable def zp_A (φ : (Nat → Option Nat) → (Nat → Nat → Int) → List Int → Prop) : zk_Q := fun P F ps => φ P (zp_n F) ps
noncomputable def zp_B (ψ : (Nat → Option Nat) → (Nat → Nat → Int) → List Int → (Nat → Option Nat) → (Nat → Nat → Int) → Int → Prop) : zk_B := fun P F ps P' F' rn => ψ P (zp_n F) ps P' (zp_n F') rn
noncomputable def zp_tA : (Nat → Option Nat) → (Nat → Nat → Int) → List Int → Prop := fun _ _ _ => True
noncomputable def zp_tB : (Nat → Option Nat) → (Nat → Nat → Int) → List Int → (Nat → Option Nat) → (Nat → Nat → Int) → Int → Prop := fun _ _ _ _ _ _ => True
/-- a contract by the checker, as one of these -/
theorem zp_plain {l : Launch} {w : zk_W} {K : zk_K} (h : zh_K l w K) : zk_metX l w zt_dv zt_TB K (zp_A zp_tA) (zp_B zp_tB) ∧ zk_cok w zt_TB K := h
noncomputable def zp_rc (K : zk_K) : Bool := zk_Kk K == 0 || (zk_Kk K == 1 && (match (zk_Kp K)[0]? with
  | some f => f.1 == 2 && decide (0 ≤ f.2.2.1) && (match zt_types[f.2.1]? with
    | some T => T.1 == 0 && T.2.1 == zk_Kc K && decide (zk_Kc K ≠ 999)
    | none => false)
  | none => false))
noncomputable def zp_cb (eff : List (Nat × Nat × Nat)) (rm : Nat × Nat × Nat × Nat) (K : zk_K) (how : Nat) : Bool := zp_rc K && (zk_hk how == zk_Kk K && (decide ((zk_Kr K).1 + 1 ≤ rm.1) && (decide (8 + (K.2.2.1 + 11) + (zk_Kr K).2.1 ≤ rm.2.1) && (decide ((zk_Kr K).2.2.1 = 0) && (decide ((zk_Kr K).2.2.2 = 0) && (zk_Ke K).all (fun e => e.2.2 == 0 && eff.any (fun q => q.1 == e.1 && zk_cov q.2.1 e.2.1 && q.2.2 == 0)))))))
noncomputable def zp_as (K : zk_K) (ps : List Int) : List (Nat × Int) := (List.zipWith (fun (f : zk_F) n => (f.1, n)) (zk_Kp K) ps).reverse
noncomputable def zp_cs (S : List (Nat × Int)) : Nat := (S.map (fun q => if q.1 = 1 then 2 else 1)).sum
section ZP52
variable {p : Program} {l : Launch} {e : Env} {R : Room} {s : State} {m : MethodId} {args : Array Value} {below : List Frame} {meth : Method} {c : Code} {Q : State → Prop}
variable {cc : ByteArray} {w : zk_W} {u : zk_M} {Ts : List Jvm.Cond} {own : String}
variable {pc : Nat} {L : List (Nat × Nat × Int)} {S : List (Nat × Int)} {P : Nat → Option Nat} {G : Nat → Nat → Int}
theorem zp_call (hx : p.tables.exec = Jvm.exec) (hb : c.code = cc) {E : zk_Ev} (hE : zk_ctx l R s m args meth c w u zt_TB own zt_TB zt_mn E) (hw : w.1 = zt_types) {eff : List (Nat × Nat × Nat)} (heff : u.2.2.2.1 = eff) {rm : Nat × Nat × Nat × Nat} (hrm : zk_Kr (zk_ev E) = rm) {K : zk_K} {φ : (Nat → Option Nat) → (Nat → Nat → Int) → List Int → Prop} {ψ : (Nat → Option Nat) → (Nat → Nat → Int) → List Int → (Nat → Option Nat) → (Nat → Nat → Int) → Int → Prop} (hKX : zk_metX l w zt_dv zt_TB K (zp_A φ) (zp_B ψ) ∧ zk_cok w zt_TB K) (hdv : E.2.2.1 = zt_dv) {how idx mi j : Nat} (hlc : E.2.2.2.2.2.1[j]? = some (how, idx, mi)) (hmn : K.1 = zt_mn mi) (hcb : zp_cb eff rm K how = true) (hdg : decode cc pc = .ok (zk_ins how idx, 3)) {S0 : List (Nat × Int)} (ps : List Int) (hS : zp_as K ps ++ S = S0) (hok : zk_all2 (zk_ok P) (zk_Kp K) ps) (hcs : zp_cs S ≤ 8) (hA : φ P G ps)
    (kk : ∀ al ∈ zk_Ka K, ∀ (rn : Int) (P' : Nat → Option Nat) (G' : Nat → Nat → Int), (∀ a t, P a = some t → P' a = some t) → zp_fr (zk_Ke K) ps P G G' → (∀ f, al.1 = some f → zk_ok P' f rn ∧ f.1 ≤ 2) → (∀ q ∈ al.2, zk_num ps rn q.1 ≤ zk_num ps rn q.2.1 + q.2.2) → ψ P G ps P' G' rn → zp_J p l e R s m args below meth c Q w u [] (pc + 3) L (match al.1 with
      | some f => (f.1, rn) :: S
      | none => S) P' G') : zp_J p l e R s m args below meth c Q w u [] pc L S0 P G := by
  obtain ⟨⟨e1, e2, e3⟩, e4, e5, e6, e7, e8, e9, e10, e11, e12, e13, e14, e15, e16, e17, e18, e19, y1, y2, y3⟩ := hE
  unfold zp_cb at hcb
  simp only [Bool.and_eq_true, decide_eq_true_eq, beq_iff_eq] at hcb
  obtain ⟨c1, c2, c3, c4, c5, c6, c7⟩ := hcb
  subst hS
  intro F H locs ls hF hI hL hkL hkS
  obtain ⟨i1, i2, i3, i4, i5⟩ := hI
  have hwt := i1.strong
  obtain ⟨hM, hC⟩ := hKX
  have hk2 : zk_Kk K ≠ 2 := by
    unfold zp_rc at c1
    simp only [Bool.and_eq_true, Bool.or_eq_true, beq_iff_eq] at c1
    rcases c1 with c1 | ⟨c1, -⟩ <;> omega
  have hlcq := e17 _ (List.mem_of_getElem? hlc)
  dsimp only at hlcq
  rw [← hmn] at hlcq
  have hgood : GoodIn zt_TB (Jvm.Cond.code K.1 K.2.1 K.2.2.1 K.2.2.2.1 :: zt_TB) := by
    intro x hx'
    rcases List.mem_cons.mp hx' with rfl | hx'
    · exact e14 _ hC.2.2.2.2.1
    · exact e14 x hx'
  have hbH : w.2.2.2.1 ≤ H.size := Nat.le_trans e9 i4.1
  have hpre : ∀ U : State, U.heap = H → s.WarmedH U.vm → zk_pre w zt_dv K P F ps H.size U := fun U hU hWm =>
    ⟨by rw [hU], hbH, by rw [hU]; exact hwt.moved hWm.alike, va_K.moved hWm.alike e7, fun hk => absurd hk hk2, y1.1 s U hWm (fun q hq => by rw [hU]; exact i4.2.1 q (Nat.lt_of_lt_of_le hq e9) (Nat.not_le.mpr hq)) y2, fun t a h => i2 a t (y3 t a h)⟩
  have hrc : zk_Kk K = 1 → ∃ b : Nat, ps[0]? = some (b : Int) ∧ (∃ f, (zk_Kp K)[0]? = some f ∧ 2 ≤ f.1) ∧ ∃ cell : Cell, H[b]? = some cell ∧ cell.vm.isStatics = false ∧ s.vm.findClass K.1.cls = some cell.cls := by
    intro hk
    unfold zp_rc at c1
    simp only [Bool.and_eq_true, Bool.or_eq_true, beq_iff_eq] at c1
    rcases c1 with c1 | ⟨-, c1⟩
    · omega
    · split at c1
      · rename_i f hf
        simp only [Bool.and_eq_true, beq_iff_eq, decide_eq_true_eq] at c1
        obtain ⟨⟨z1, z2⟩, z3⟩ := c1
        split at z3
        · rename_i T hT
          simp only [Bool.and_eq_true, beq_iff_eq, decide_eq_true_eq] at z3
          obtain ⟨⟨z3, z4⟩, z5⟩ := z3
          obtain ⟨n, n1, n2⟩ := zk_all2_get hok hf
          obtain ⟨fk, ft, fl, fh⟩ := f
          dsimp only at z1 z2 hT
          subst z1
          have n2 : fl ≤ n ∧ -1 ≤ n ∧ (fh < 0 → n < 0) ∧ (0 ≤ n → P n.toNat = some ft) := n2
          have hp := n2.2.2.2 (by omega)
          obtain ⟨fs, o1, o2, o3, o4⟩ := zk_obj hwt hp (by rw [hw]; exact hT) z3
          rw [z4] at o3
          refine ⟨n.toNat, by rw [n1]; congr 1; omega, ⟨_, hf, Nat.le_refl _⟩, ?_⟩
          rcases hC.2.2.2.2.2.1 (by omega) with ⟨-, T0, N0, hcl⟩ | ⟨h9, -⟩
          · exact va_recv e7 (zk_P1 o3) hcl (q0 := 0) rfl
          · exact absurd h9 z5
        · cases z3
      · cases c1
  have hlen := zk_all2_len hok
  have hstk : ((zp_as K ps ++ S).map (fun q => zk_mk q.1 q.2)) = (zk_avs (zk_Kp K) ps).reverse ++ S.map (fun q => zk_mk q.1 q.2) := by
    unfold zp_as zk_avs
    rw [List.map_append, List.map_reverse, List.map_zipWith]
  have hcat : ((S.map (fun q => zk_mk q.1 q.2)).map fun v => v.category).sum ≤ 8 := by
    rw [List.map_map]
    have : (S.map ((fun v => v.category) ∘ fun q => zk_mk q.1 q.2)) = S.map (fun q => if q.1 = 1 then 2 else 1) := List.map_congr_left (fun q _ => zk_mk_cat)
    rw [this]
    exact hcs
  rw [hdv] at e11
  rw [hrm] at e13
  have hrun := zk_run hx hb y1 (locs := locs) (cu := 0) (su := 0) (pc := pc) (ls := ls) (rest := S.map (fun q => zk_mk q.1 q.2)) (e := e) (below := below) (meth := meth) e1 e6 e4 hM hC hgood hlcq c2 hok (show φ P (zp_n F) ps by rw [hF]; exact hA) hpre hrc (fun h => absurd h hk2) hL.1 hcat (R := R) ⟨by have := e13.1; omega, by have := e13.2.1; omega⟩ ⟨by omega, by omega⟩ hdg
  rw [hstk]
  intro T hT X
  obtain ⟨v, st₀, t, T', Lc, h0, X', hLc, f1', f2', hpost, st'⟩ := hrun T hT X
  obtain ⟨al, al1, rn, P', F', f1, f2, f3, f4, f5, f6, f7, f8, f9, g1, g2, hBB⟩ := hpost
  rw [h0] at f8 f9 g1
  have hvm : t.vm.Alike s.vm := by
    have := X'.warmed.alike
    rw [f2'] at this
    exact this.symm
  rw [← f1'] at f4 f8 f9 g1
  have hwt' : zk_wt w s P' F' T'.heap := f4.moved hvm
  rw [c5, c6] at X'
  have hI' : zp_I w s u [] P' F' T'.heap (locs ++ Lc) := by
    refine ⟨zp_wt.of hwt', fun a t h => f6 a t (i2 a t h), fun a t h => (i3 a t h).trans ((f7 a t (i2 a t h)).mono (fun k hk => ?_)), ⟨Nat.le_trans i4.1 f8, fun q g1 g2 => ?_, fun q hq => ?_⟩, fun q z1 z2 => ?_⟩
    · obtain ⟨q, q1, q2, q3, q4⟩ := hk
      have h7 := List.all_eq_true.mp c7 q q1
      simp only [Bool.and_eq_true, beq_iff_eq] at h7
      obtain ⟨h71, h72⟩ := h7
      obtain ⟨q', r1, r2⟩ := List.any_eq_true.mp h72
      simp only [Bool.and_eq_true, beq_iff_eq] at r2
      exact ⟨q', by rw [heff]; exact r1, r2.1.1.trans q2, zk_cov_ok r2.1.2 q3, Or.inl r2.2⟩
    · rw [f9 q (Nat.lt_of_lt_of_le g1 i4.1) (Nat.not_le.mp g2)]
      exact i4.2.1 q g1 g2
    · rcases List.mem_append.mp hq with g | g
      · exact i4.2.2 q g
      · exact hLc q g
    · obtain ⟨y1, y2⟩ := i5 q z1 z2
      obtain ⟨y3, y4⟩ := g1 q (Nat.lt_of_lt_of_le z1 i4.1) y1 (fun h => hk2 h.1)
      exact ⟨y3, y4.trans y2⟩
  have hfr := zp_ef_fr f7
  rw [hF] at hfr
  have hψ : ψ P G ps P' (zp_n F') rn := by
    have h := hBB
    unfold zp_B at h
    rw [hF] at h
    exact h
  have hkS' := fun q h => hkS q (List.mem_append_right _ h)
  have K2 := kk al al1 rn P' (zp_n F') f6 hfr f2 f3 hψ
  cases hal : al.1 with
  | some f =>
    rw [hal] at f1 K2
    have f1 : v = some (zk_mk f.1 rn) := by cases f1; rfl
    subst f1
    obtain ⟨k1, k2⟩ := f2 f hal
    obtain ⟨t2, a1, b1'⟩ := K2 F' T'.heap _ ls rfl hI' hL hkL (List.forall_mem_cons.mpr ⟨zp_ok_k k1 k2, hkS'⟩) T' rfl X'
    exact ⟨t2, st' t2 a1, b1'⟩
  | none =>
    rw [hal] at f1 K2
    have f1 : v = none := by cases f1; rfl
    subst f1
    obtain ⟨t2, a1, b1'⟩ := K2 F' T'.heap _ ls rfl hI' hL hkL hkS' T' rfl X'
    exact ⟨t2, st' t2 a1, b1'⟩
theorem zp_toG {F : Nat → va_E} {H : Heap} {locs : List Loc} {ls : Array Slot} (hI : zp_I w s u [] P F H locs) (hL : lv_has ls u.2.2.2.2.2.1 (L.map (fun q => (q.1, zk_mk q.2.1 q.2.2)))) (h5 : u.2.2.2.2.1 = []) : zk_G w s u (zk_V0, [], [], [], [], [], []) [0, 0, -1] P F H locs ls := by
  obtain ⟨i1, i2, i3, i4, i5⟩ := hI
  refine ⟨⟨⟨by decide, by decide, by decide, by decide⟩, ⟨by decide, by decide, by decide, by decide⟩, ⟨by decide, by decide, fun _ => by decide, fun h => absurd h (by decide)⟩, trivial⟩, fun q h => absurd h List.not_mem_nil, fun q h => absurd h List.not_mem_nil, trivial, i1.strong, ⟨[], ⟨hL.1, hL.2.1, fun q h => absurd h List.not_mem_nil⟩, trivial⟩, i2, i3, i4, fun q h => absurd h List.not_mem_nil, fun q h => absurd h List.not_mem_nil, fun i n h => ?_, i5⟩
  rw [h5] at h
  simp at h
theorem zp_vret (hx : p.tables.exec = Jvm.exec) (hb : c.code = cc) {E : zk_Ev} (hE : zk_ctx l R s m args meth c w u zt_TB own zt_TB zt_mn E) {ψ : (Nat → Option Nat) → (Nat → Nat → Int) → List Int → (Nat → Option Nat) → (Nat → Nat → Int) → Int → Prop} (hQ : Q = MQ below (fun _ st o t => zk_postX w (zk_ev E) (zp_B ψ) u.1 u.2.1 u.2.2.1 st t o) args s (zk_Kr (zk_ev E)).2.2.1 (zk_Kr (zk_ev E)).2.2.2 (fun q => w.2.2.2.1 ≤ q)) (h5 : u.2.2.2.2.1 = []) (hret : (zk_ev E).2.2.2.1 = none) (hk2 : zk_Kk (zk_ev E) ≠ 2) (hdg : decode cc pc = .ok (.return_, 1)) {j : Nat} (hal : (zk_Ka (zk_ev E))[j]? = some (none, [])) (hB : ψ u.1 (zp_n u.2.1) u.2.2.1 P G 0) : zp_J p l e R s m args below meth c Q w u [] pc L [] P G := by
  obtain ⟨⟨e1, e2, e3⟩, e4, e5, e6, e7, e8, e9, e10, e11, e12, e13, e14, e15, e16, e17, e18, e19, y1, y2, y3⟩ := hE
  intro F H locs ls hF hI hL hkL hkS
  have hG := zp_toG hI hL h5
  have hB2 : zp_B ψ u.1 u.2.1 u.2.2.1 P F 0 := by unfold zp_B; rw [hF]; exact hB
  refine W.widen (Nat.zero_le (zk_Kr (zk_ev E)).2.2.1) (Nat.zero_le (zk_Kr (zk_ev E)).2.2.2) ?_
  rw [hQ]
  have fin : ∀ t : State, t.heap = H → s.WarmedH t.vm → zk_postX w (zk_ev E) (zp_B ψ) u.1 u.2.1 u.2.2.1 s t (.returned none) := fun t ht hW => zk_fin (al := (none, [])) (rn := 0) (X0 := fun _ => True) e8 e7 e3 e19 hG (by unfold zk_rct; rw [if_neg hk2]) (List.mem_of_getElem? hal) (fun f h => by cases h) (fun q h => absurd h List.not_mem_nil) (Or.inl ⟨hk2, hB2⟩) t ht hW
  have hr := e18.2.1
  rw [hret] at hr
  exact W.vret hx hb hr (fun t ht hW => fin t ht hW) hI.2.2.2.1.2.2 hdg e18.1
theorem zp_iret (hx : p.tables.exec = Jvm.exec) (hb : c.code = cc) {E : zk_Ev} (hE : zk_ctx l R s m args meth c w u zt_TB own zt_TB zt_mn E) {ψ : (Nat → Option Nat) → (Nat → Nat → Int) → List Int → (Nat → Option Nat) → (Nat → Nat → Int) → Int → Prop} (hQ : Q = MQ below (fun _ st o t => zk_postX w (zk_ev E) (zp_B ψ) u.1 u.2.1 u.2.2.1 st t o) args s (zk_Kr (zk_ev E)).2.2.1 (zk_Kr (zk_ev E)).2.2.2 (fun q => w.2.2.2.1 ≤ q)) (h5 : u.2.2.2.2.1 = []) (hret : (zk_ev E).2.2.2.1 = some .int) (hk2 : zk_Kk (zk_ev E) ≠ 2) (hdg : decode cc pc = .ok (.ireturn, 1)) {j x : Nat} {lo hi n : Int} (hal : (zk_Ka (zk_ev E))[j]? = some (some (0, x, lo, hi), [])) (hn : zk_ok P (0, x, lo, hi) n) (hB : ψ u.1 (zp_n u.2.1) u.2.2.1 P G n) : zp_J p l e R s m args below meth c Q w u [] pc L [(0, n)] P G := by
  obtain ⟨⟨e1, e2, e3⟩, e4, e5, e6, e7, e8, e9, e10, e11, e12, e13, e14, e15, e16, e17, e18, e19, y1, y2, y3⟩ := hE
  intro F H locs ls hF hI hL hkL hkS
  have hG := zp_toG hI hL h5
  have hB2 : zp_B ψ u.1 u.2.1 u.2.2.1 P F n := by unfold zp_B; rw [hF]; exact hB
  refine W.widen (Nat.zero_le (zk_Kr (zk_ev E)).2.2.1) (Nat.zero_le (zk_Kr (zk_ev E)).2.2.2) ?_
  rw [hQ]
  have fin : ∀ t : State, t.heap = H → s.WarmedH t.vm → zk_postX w (zk_ev E) (zp_B ψ) u.1 u.2.1 u.2.2.1 s t (.returned (some (.int (Int32.ofInt n)))) := fun t ht hW => zk_fin (al := (some (0, x, lo, hi), [])) (rn := n) (X0 := fun _ => True) e8 e7 e3 e19 hG (by unfold zk_rct; rw [if_neg hk2]) (List.mem_of_getElem? hal) (fun f h => by cases h; exact ⟨hn, Nat.zero_le _⟩) (fun q h => absurd h List.not_mem_nil) (Or.inl ⟨hk2, hB2⟩) t ht hW
  have hr := e18.2.1
  rw [hret] at hr
  exact W.iret hx hb hr (fun t ht hW => fin t ht hW) hI.2.2.2.1.2.2 hdg e18.1
theorem zp_zret (hx : p.tables.exec = Jvm.exec) (hb : c.code = cc) {E : zk_Ev} (hE : zk_ctx l R s m args meth c w u zt_TB own zt_TB zt_mn E) {ψ : (Nat → Option Nat) → (Nat → Nat → Int) → List Int → (Nat → Option Nat) → (Nat → Nat → Int) → Int → Prop} (hQ : Q = MQ below (fun _ st o t => zk_postX w (zk_ev E) (zp_B ψ) u.1 u.2.1 u.2.2.1 st t o) args s (zk_Kr (zk_ev E)).2.2.1 (zk_Kr (zk_ev E)).2.2.2 (fun q => w.2.2.2.1 ≤ q)) (h5 : u.2.2.2.2.1 = []) (hret : (zk_ev E).2.2.2.1 = some .boolean) (hk2 : zk_Kk (zk_ev E) ≠ 2) (hdg : decode cc pc = .ok (.ireturn, 1)) {j x : Nat} {n : Int} (hal : (zk_Ka (zk_ev E))[j]? = some (some (0, x, 0, 1), [])) (hn : zk_ok P (0, x, 0, 1) n) (hB : ψ u.1 (zp_n u.2.1) u.2.2.1 P G n) : zp_J p l e R s m args below meth c Q w u [] pc L [(0, n)] P G := by
  obtain ⟨⟨e1, e2, e3⟩, e4, e5, e6, e7, e8, e9, e10, e11, e12, e13, e14, e15, e16, e17, e18, e19, y1, y2, y3⟩ := hE
  intro F H locs ls hF hI hL hkL hkS
  have hG := zp_toG hI hL h5
  have hB2 : zp_B ψ u.1 u.2.1 u.2.2.1 P F n := by unfold zp_B; rw [hF]; exact hB
  refine W.widen (Nat.zero_le (zk_Kr (zk_ev E)).2.2.1) (Nat.zero_le (zk_Kr (zk_ev E)).2.2.2) ?_
  rw [hQ]
  have fin : ∀ t : State, t.heap = H → s.WarmedH t.vm → zk_postX w (zk_ev E) (zp_B ψ) u.1 u.2.1 u.2.2.1 s t (.returned (some (.int (Int32.ofInt n)))) := fun t ht hW => zk_fin (al := (some (0, x, 0, 1), [])) (rn := n) (X0 := fun _ => True) e8 e7 e3 e19 hG (by unfold zk_rct; rw [if_neg hk2]) (List.mem_of_getElem? hal) (fun f h => by cases h; exact ⟨hn, Nat.zero_le _⟩) (fun q h => absurd h List.not_mem_nil) (Or.inl ⟨hk2, hB2⟩) t ht hW
  have hr := e18.2.1
  rw [hret] at hr
  have h01 : n = 0 ∨ n = 1 := by
    have h1 : (0 : Int) ≤ n := hn.1
    have h2 : n ≤ 1 := hn.2.1
    omega
  exact W.zret hx hb hr (by rcases h01 with rfl | rfl <;> decide) (fun t ht hW => fin t ht hW) hI.2.2.2.1.2.2 hdg e18.1
end ZP52
