/-! part g0: longs exactly; a switch; an end with a long -/
theorem zg_lo : Int64.minValue.toInt = -9223372036854775808 := by decide
theorem zg_hi : Int64.maxValue.toInt = 9223372036854775807 := by decide
theorem zg_nz {b : Int} (h : zk_rg 1 b) (h0 : b ≠ 0) : ¬ Int64.ofInt b = 0 := fun e => by
  have h1 := zk_i64 h
  rw [e] at h1
  exact h0 h1.symm
theorem zg_div {a b : Int} (ha : zk_rg 1 a) (hb : zk_rg 1 b) : Int64.ofInt a / Int64.ofInt b = Int64.ofInt (a.tdiv b) := (Int64.ofInt_tdiv (by rw [zg_lo]; exact ha.1) (by rw [zg_hi]; exact ha.2) (by rw [zg_lo]; exact hb.1) (by rw [zg_hi]; exact hb.2)).symm
section ZG0
variable {p : Program} {l : Launch} {e : Env} {R : Room} {s : State} {m : MethodId} {args : Array Value} {below : List Frame} {meth : Method} {c : Code} {Q : State → Prop}
variable {cc : ByteArray} {w : zk_W} {u : zk_M} {Ts : List Jvm.Cond} {own : String}
variable {xs : List Nat} {pc : Nat} {L : List (Nat × Nat × Int)} {S : List (Nat × Int)} {P : Nat → Option Nat} {G : Nat → Nat → Int}
theorem zp_laddx (hx : p.tables.exec = Jvm.exec) (hb : c.code = cc) {a b n : Int} (hdg : decode cc pc = .ok (.ladd, 1)) (hn : a + b = n) (hr : zk_rg 1 n) (kk : zp_J p l e R s m args below meth c Q w u xs (pc + 1) L ((1, n) :: S) P G) : zp_J p l e R s m args below meth c Q w u xs pc L ((1, b) :: (1, a) :: S) P G := by
  subst hn
  intro F H locs ls hF hI hL hkL hkS
  refine zw_lbin (o := 0) hx hb rfl hdg (fun h => absurd h (by decide)) ?_
  have e : zk_lb 0 (Int64.ofInt a) (Int64.ofInt b) = Int64.ofInt (a + b) := by show Int64.ofInt a + Int64.ofInt b = _; rw [← Int64.ofInt_add]
  rw [e]
  exact kk F H locs ls hF hI hL hkL (List.forall_mem_cons.mpr ⟨zp_k1 hr, (zp_tl (zp_tl hkS).2).2⟩)
theorem zp_lmulx (hx : p.tables.exec = Jvm.exec) (hb : c.code = cc) {a b n : Int} (hdg : decode cc pc = .ok (.lmul, 1)) (hn : a * b = n) (hr : zk_rg 1 n) (kk : zp_J p l e R s m args below meth c Q w u xs (pc + 1) L ((1, n) :: S) P G) : zp_J p l e R s m args below meth c Q w u xs pc L ((1, b) :: (1, a) :: S) P G := by
  subst hn
  intro F H locs ls hF hI hL hkL hkS
  refine zw_lbin (o := 2) hx hb rfl hdg (fun h => absurd h (by decide)) ?_
  have e : zk_lb 2 (Int64.ofInt a) (Int64.ofInt b) = Int64.ofInt (a * b) := by show Int64.ofInt a * Int64.ofInt b = _; rw [← Int64.ofInt_mul]
  rw [e]
  exact kk F H locs ls hF hI hL hkL (List.forall_mem_cons.mpr ⟨zp_k1 hr, (zp_tl (zp_tl hkS).2).2⟩)
theorem zp_ldivx (hx : p.tables.exec = Jvm.exec) (hb : c.code = cc) {a b n : Int} (hdg : decode cc pc = .ok (.ldiv, 1)) (h0 : b ≠ 0) (hn : a.tdiv b = n) (hr : zk_rg 1 n) (kk : zp_J p l e R s m args below meth c Q w u xs (pc + 1) L ((1, n) :: S) P G) : zp_J p l e R s m args below meth c Q w u xs pc L ((1, b) :: (1, a) :: S) P G := by
  subst hn
  intro F H locs ls hF hI hL hkL hkS
  have rb : zk_rg 1 b := (zp_tl hkS).1.2.1
  have ra : zk_rg 1 a := (zp_tl (zp_tl hkS).2).1.2.1
  refine zw_lbin (o := 9) hx hb rfl hdg (fun _ => zg_nz rb h0) ?_
  have e : zk_lb 9 (Int64.ofInt a) (Int64.ofInt b) = Int64.ofInt (a.tdiv b) := zg_div ra rb
  rw [e]
  exact kk F H locs ls hF hI hL hkL (List.forall_mem_cons.mpr ⟨zp_k1 hr, (zp_tl (zp_tl hkS).2).2⟩)
theorem zp_lremx (hx : p.tables.exec = Jvm.exec) (hb : c.code = cc) {a b n : Int} (hdg : decode cc pc = .ok (.lrem, 1)) (h0 : b ≠ 0) (hn : a.tmod b = n) (hr : zk_rg 1 n) (kk : zp_J p l e R s m args below meth c Q w u xs (pc + 1) L ((1, n) :: S) P G) : zp_J p l e R s m args below meth c Q w u xs pc L ((1, b) :: (1, a) :: S) P G := by
  subst hn
  intro F H locs ls hF hI hL hkL hkS
  have rb : zk_rg 1 b := (zp_tl hkS).1.2.1
  have ra : zk_rg 1 a := (zp_tl (zp_tl hkS).2).1.2.1
  refine zw_lbin (o := 10) hx hb rfl hdg (fun _ => zg_nz rb h0) ?_
  have e : zk_lb 10 (Int64.ofInt a) (Int64.ofInt b) = Int64.ofInt (a.tmod b) := by
    show Int64.ofInt a - Int64.ofInt a / Int64.ofInt b * Int64.ofInt b = _
    rw [zg_div ra rb, ← Int64.ofInt_mul, ← Int64.ofInt_sub, Int.tmod_def, Int.mul_comm b]
  rw [e]
  exact kk F H locs ls hF hI hL hkL (List.forall_mem_cons.mpr ⟨zp_k1 hr, (zp_tl (zp_tl hkS).2).2⟩)
/-- a switch: within its bounds, outside -/
theorem zp_tin (hx : p.tables.exec = Jvm.exec) (hb : c.code = cc) {d lo hi v off : Int} {offs : Array Int} {len tgt : Nat} (hdg : decode cc pc = .ok (.tableswitch d lo hi offs, len)) (h1 : lo ≤ v) (h2 : v ≤ hi) (ho : offs[(v - lo).toNat]? = some off) (ht : (pc : Int) + off = (tgt : Int)) (kk : zp_J p l e R s m args below meth c Q w u xs tgt L S P G) : zp_J p l e R s m args below meth c Q w u xs pc L ((0, v) :: S) P G := by
  intro F H locs ls hF hI hL hkL hkS
  have rv : zk_rg 0 v := (zp_tl hkS).1.2.1
  have ev : (Int32.ofInt v).toInt = v := zk_i32 rv
  exact lv_tableIn hx hb hdg (by rw [ev]; omega) (by rw [ev]; omega) (by rw [ev]; exact ho) ht (kk F H locs ls hF hI hL hkL (zp_tl hkS).2)
theorem zp_tout (hx : p.tables.exec = Jvm.exec) (hb : c.code = cc) {d lo hi v : Int} {offs : Array Int} {len tgt : Nat} (hdg : decode cc pc = .ok (.tableswitch d lo hi offs, len)) (h : v < lo ∨ hi < v) (ht : (pc : Int) + d = (tgt : Int)) (kk : zp_J p l e R s m args below meth c Q w u xs tgt L S P G) : zp_J p l e R s m args below meth c Q w u xs pc L ((0, v) :: S) P G := by
  intro F H locs ls hF hI hL hkL hkS
  have rv : zk_rg 0 v := (zp_tl hkS).1.2.1
  have ev : (Int32.ofInt v).toInt = v := zk_i32 rv
  exact lv_tableOut hx hb hdg (by rw [ev]; exact h) ht (kk F H locs ls hF hI hL hkL (zp_tl hkS).2)
/-- an array's length, where it is known as a number -/
theorem zp_alenN (hx : p.tables.exec = Jvm.exec) (hb : c.code = cc) (hw : w.1 = zt_types) {a t N : Nat} (hdg : decode cc pc = .ok (.arraylength, 1)) (hp : P a = some t) (hT : ∃ T, zt_types[t]? = some T ∧ T.1 = 1 ∧ T.2.2.1 ≤ 1000000) (hN : G a 1000 = (N : Int)) (kk : zp_J p l e R s m args below meth c Q w u xs (pc + 1) L ((0, (N : Int)) :: S) P G) : zp_J p l e R s m args below meth c Q w u xs pc L ((2, (a : Int)) :: S) P G := by
  obtain ⟨T, h1, h2, h3⟩ := hT
  intro F H locs ls hF hI hL hkL hkS
  rw [← hw] at h1
  obtain ⟨cA, n, f, o1, o2, o3, o4, o5, o6, o7⟩ := zp_iarr hI.1 hp h1 (Or.inl h2)
  have hn : (n : Int) = (N : Int) := by
    rw [← hN, ← hF]
    unfold zp_n
    rw [o1]
    show (n : Int) = (Int32.ofNat n).toInt
    rw [zk_n32 (by omega), zk_i32 ⟨by omega, by omega⟩]
  have hn : n = N := by omega
  subst hn
  show W p l e R s m args below meth c H locs 0 0 Q (F0 m pc ls (zk_mk 2 (a : Int) :: S.map (fun q => zk_mk q.1 q.2)))
  rw [zp_ref]
  have hr : zk_rg 0 (n : Int) := ⟨by omega, by omega⟩
  exact zw_alen hx hb o6 (by rw [h2] at o4; exact o4) hdg (kk F H locs ls hF hI hL hkL (List.forall_mem_cons.mpr ⟨zp_k0 hr, (zp_tl hkS).2⟩))
/-- an array's number, the length known as a number -/
theorem zp_ialdN (hx : p.tables.exec = Jvm.exec) (hb : c.code = cc) (hw : w.1 = zt_types) {a t j N len x : Nat} {i v lo hi : Int} (hdg : decode cc pc = .ok (.iaload, 1)) (ha : zp_ia 1 t = some (len, 0, x, lo, hi)) (hm : ∃ T, zt_types[t]? = some T ∧ T.2.2.1 ≤ 1000000) (hN : G a 1000 = (N : Int)) (hp : P a = some t) (hi' : i = (j : Int)) (hj : j < N) (hv : G a (2000 + j) = v) (kk : zk_ok P (0, x, lo, hi) v → zp_J p l e R s m args below meth c Q w u xs (pc + 1) L ((0, v) :: S) P G) : zp_J p l e R s m args below meth c Q w u xs pc L ((0, i) :: (2, (a : Int)) :: S) P G := by
  obtain ⟨T, hT, h1, t3, t4⟩ := zp_ia_ok ha
  obtain ⟨T', hT', hmx⟩ := hm
  cases hT.symm.trans hT'
  have hk0 : (zk_fj T j).1 = 0 := by rw [t4]
  rw [← t4 j] at kk
  intro F H locs ls hF hI hL hkL hkS
  rw [← hw] at hT
  obtain ⟨cA, n, f, o1, o2, o3, o4, o5, o6, o7⟩ := zp_iarr hI.1 hp hT (Or.inl h1)
  have hn : (n : Int) = (N : Int) := by
    rw [← hN, ← hF]
    unfold zp_n
    rw [o1]
    show (n : Int) = (Int32.ofNat n).toInt
    rw [zk_n32 (by omega), zk_i32 ⟨by omega, by omega⟩]
  have hjn : j < n := by omega
  obtain ⟨z, z1, z2⟩ := o5 j hjn
  obtain ⟨k1, k2⟩ := zp_tl hkS
  obtain ⟨i1, i2⟩ := zp_ix (n := n) hi' hjn k1.2.1
  have ez : v = z := by
    rw [← hv, ← hF]
    unfold zp_n
    rw [o1, zk_rd_i hjn, z2]
    exact zp_num_mk z1 (by omega)
  show W p l e R s m args below meth c H locs 0 0 Q (F0 m pc ls (.int (Int32.ofInt i) :: zk_mk 2 (a : Int) :: S.map (fun q => zk_mk q.1 q.2)))
  rw [zp_ref]
  refine zw_iald hx hb o6 (by rw [h1] at o4; exact o4) i1 hdg ?_
  rw [i2, z2, hk0, ← ez]
  rw [← ez] at z1
  exact kk z1 F H locs ls hF hI hL hkL (List.forall_mem_cons.mpr ⟨by have := zp_ok_k z1 (by omega); rw [hk0] at this; exact this, (zp_tl k2).2⟩)
/-- is it null -/
theorem zp_nnr (hx : p.tables.exec = Jvm.exec) (hb : c.code = cc) {off : Int} {tgt r : Nat} (hdg : decode cc pc = .ok (.ifnonnull off, 3)) (ht : (pc : Int) + off = (tgt : Int)) (kk : zp_J p l e R s m args below meth c Q w u xs tgt L S P G) : zp_J p l e R s m args below meth c Q w u xs pc L ((2, (r : Int)) :: S) P G := by
  intro F H locs ls hF hI hL hkL hkS
  show W p l e R s m args below meth c H locs 0 0 Q (F0 m pc ls (zk_mk 2 (r : Int) :: S.map (fun q => zk_mk q.1 q.2)))
  rw [zp_ref]
  exact lv_ifnonnull hx hb hdg ht (kk F H locs ls hF hI hL hkL (zp_tl hkS).2)
theorem zp_nnn (hx : p.tables.exec = Jvm.exec) (hb : c.code = cc) {off n : Int} (hn : n < 0) (hdg : decode cc pc = .ok (.ifnonnull off, 3)) (kk : zp_J p l e R s m args below meth c Q w u xs (pc + 3) L S P G) : zp_J p l e R s m args below meth c Q w u xs pc L ((2, n) :: S) P G := by
  intro F H locs ls hF hI hL hkL hkS
  show W p l e R s m args below meth c H locs 0 0 Q (F0 m pc ls (zk_mk 2 n :: S.map (fun q => zk_mk q.1 q.2)))
  rw [show zk_mk 2 n = Value.null from if_pos hn]
  exact lv_ifnonnullN hx hb hdg (kk F H locs ls hF hI hL hkL (zp_tl hkS).2)
theorem zp_lret (hx : p.tables.exec = Jvm.exec) (hb : c.code = cc) {own : String} {E : zk_Ev} (hE : zk_ctx l R s m args meth c w u zt_TB own zt_TB zt_mn E) {ψ : (Nat → Option Nat) → (Nat → Nat → Int) → List Int → (Nat → Option Nat) → (Nat → Nat → Int) → Int → Prop} (hQ : Q = MQ below (fun _ st o t => zk_postX w (zk_ev E) (zp_B ψ) u.1 u.2.1 u.2.2.1 st t o) args s (zk_Kr (zk_ev E)).2.2.1 (zk_Kr (zk_ev E)).2.2.2 (fun q => w.2.2.2.1 ≤ q)) (h5 : u.2.2.2.2.1 = []) (hret : (zk_ev E).2.2.2.1 = some .long) (hk2 : zk_Kk (zk_ev E) ≠ 2) (hdg : decode cc pc = .ok (.lreturn, 1)) {j x : Nat} {lo hi n : Int} (hal : (zk_Ka (zk_ev E))[j]? = some (some (1, x, lo, hi), [])) (hn : zk_ok P (1, x, lo, hi) n) (hB : ψ u.1 (zp_n u.2.1) u.2.2.1 P G n) : zp_J p l e R s m args below meth c Q w u [] pc L [(1, n)] P G := by
  obtain ⟨⟨e1, e2, e3⟩, e4, e5, e6, e7, e8, e9, e10, e11, e12, e13, e14, e15, e16, e17, e18, e19, y1, y2, y3⟩ := hE
  intro F H locs ls hF hI hL hkL hkS
  have hG := zp_toG hI hL h5
  have hB2 : zp_B ψ u.1 u.2.1 u.2.2.1 P F n := by unfold zp_B; rw [hF]; exact hB
  refine W.widen (Nat.zero_le (zk_Kr (zk_ev E)).2.2.1) (Nat.zero_le (zk_Kr (zk_ev E)).2.2.2) ?_
  rw [hQ]
  have fin : ∀ t : State, t.heap = H → s.WarmedH t.vm → zk_postX w (zk_ev E) (zp_B ψ) u.1 u.2.1 u.2.2.1 s t (.returned (some (.long (Int64.ofInt n)))) := fun t ht hW => zk_fin (al := (some (1, x, lo, hi), [])) (rn := n) (X0 := fun _ => True) e8 e7 e3 e19 hG (by unfold zk_rct; rw [if_neg hk2]) (List.mem_of_getElem? hal) (fun f h => by cases h; exact ⟨hn, (show (1 : Nat) ≤ 2 by decide)⟩) (fun q h => absurd h List.not_mem_nil) (Or.inl ⟨hk2, hB2⟩) t ht hW
  have hr := e18.2.1
  rw [hret] at hr
  exact W.lret hx hb hr (fun t ht hW => fin t ht hW) hI.2.2.2.1.2.2 hdg e18.1
theorem zp_lasi (hx : p.tables.exec = Jvm.exec) (hb : c.code = cc) (hw : w.1 = zt_types) {eff : List (Nat × Nat × Nat)} (heff : u.2.2.2.1 = eff) {a t j len x : Nat} {i v lo hi : Int} (hdg : decode cc pc = .ok (.lastore, 1)) (ha : zp_ia 2 t = some (len, 1, x, lo, hi)) (hp : P a = some t) (hi' : i = (j : Int)) (hj : j < len) (hvv : lo ≤ v ∧ v ≤ hi) (hb2 : (decide (len ≤ 1000000000) && zp_eb eff t 1001) = true) (kk : zp_J p l e R s m args below meth c Q w u xs (pc + 1) L S P (zp_set G a (2000 + j) v)) : zp_J p l e R s m args below meth c Q w u xs pc L ((1, v) :: (0, i) :: (2, (a : Int)) :: S) P G := by
  obtain ⟨T, hT, h1, t3, t4⟩ := zp_ia_ok ha
  rw [Bool.and_eq_true, decide_eq_true_eq] at hb2
  intro F H locs ls hF hI hL hkL hkS
  rw [← hw] at hT
  obtain ⟨cA, n, f, o1, o2, o3, o4, o5, o6, o7⟩ := zp_larr hI.1 hp hT h1
  obtain ⟨k1, k2⟩ := zp_tl hkS
  obtain ⟨k3, k4⟩ := zp_tl k2
  obtain ⟨i1, i2⟩ := zp_ix (n := n) hi' (by omega) k3.2.1
  show W p l e R s m args below meth c H locs 0 0 Q (F0 m pc ls (.long (Int64.ofInt v) :: .int (Int32.ofInt i) :: zk_mk 2 (a : Int) :: S.map (fun q => zk_mk q.1 q.2)))
  rw [zp_ref]
  refine zw_last hx hb o6 o4 i1 hdg (fun H1 jj e1 hz hk => ?_)
  rw [i2] at e1
  refine kk _ H1 _ ls (zp_up_nl hF o1 (by omega) k1.2.1) (zp_wr hI hp hT (pk := fun k => k = 2000 + j) ?_ (show va_at _ _ (a, .inl (cA, n, .inr (.inl (zk_up f j (Int64.ofInt v))))) H1 from e1) hz hk ?_ (fun k hk2 => ?_) (Or.inr trivial)) hL hkL (zp_tl k4).2
  · unfold zk_el
    rw [h1]
    refine ⟨cA, n, _, rfl, o2, o3, o4, fun i' hi' => ?_⟩
    by_cases hij : i' = j
    · subst hij
      rw [zk_up_self, t4]
      exact ⟨v, ⟨hvv.1, hvv.2, k1.2.1⟩, rfl⟩
    · rw [zk_up_ne hij]
      exact o5 i' hi'
  · rw [o1]
    refine ⟨rfl, rfl, fun i' hi' hP => ?_⟩
    show some (Value.long (f i')) = some (.long (zk_up f j _ i'))
    rw [zk_up_ne (fun e => hP (by rw [e]))]
  · subst hk2
    rw [heff]
    exact zp_eb_ok hb2.2 (zp_1001 (by omega))
end ZG0
theorem zg_mulr {a b : Int} (h1 : -2147483648 ≤ a) (h2 : a ≤ 2147483648) (h3 : -2147483648 ≤ b) (h4 : b ≤ 2147483648) : zk_rg 1 (a * b) := by
  have ha : a.natAbs ≤ 2147483648 := by omega
  have hb : b.natAbs ≤ 2147483648 := by omega
  have h : (a * b).natAbs ≤ 2147483648 * 2147483648 := by rw [Int.natAbs_mul]; exact Nat.mul_le_mul ha hb
  constructor
  · show -9223372036854775808 ≤ a * b
    omega
  · show a * b ≤ 9223372036854775807
    omega
theorem zg_divr {a b : Int} (h1 : -2147483648 ≤ a) (h2 : a ≤ 2147483648) : -2147483648 ≤ a.tdiv b ∧ a.tdiv b ≤ 2147483648 := by
  have h := Int.natAbs_tdiv_le_natAbs a b
  omega
theorem zg_modr {a b : Int} (h1 : -2147483648 ≤ a) (h2 : a ≤ 2147483648) : -2147483648 ≤ a.tmod b ∧ a.tmod b ≤ 2147483648 := by
  have h : (a.tmod b).natAbs ≤ a.natAbs := by rw [Int.natAbs_tmod]; exact Nat.mod_le _ _
  omega
