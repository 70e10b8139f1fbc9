/-! part 18: the call's step holds -/
noncomputable def zk_s8 (lk : List zk_L) (i : ClassFile.Instr) (len pc : Nat) (κ : zk_C) (st : List zk_S) (cu su : Nat) : Option zk_O := match i with
  | .ldc idx => match zk_lk lk 9 idx with
    | some q => if len = 2 then some (pc + 2, (κ.1 ++ [(2, q.2.2.1, 0, 0)], κ.2), (κ.1.length, 0) :: st, cu, su) else none
    | none => none
  | _ => none
noncomputable def zk_s9 (ty : List zk_T) (eff : List (Nat × Nat × Nat)) (i : ClassFile.Instr) (len pc : Nat) (κ : zk_C) (st : List zk_S) (cu su : Nat) : Option zk_O := match i, st with
  | .aastore, qv :: qi :: qa :: st' => match zk_typ ty κ qa with
    | some (t, T) => match ty[(zk_f0 T).2.1]? with
      | some T2 => if len = 1 ∧ T.1 = 3 ∧ T2.1 = 0 ∧ zk_ix κ qi qa T = true ∧ zk_fits κ.1 qv (zk_f0 T) = true ∧ (zk_f0 T).1 = 2 ∧ zk_mayb eff κ t 1001 qa.1 = true ∧ T.2.2.1 ≤ 2147483647 then some (pc + 1, (κ.1, κ.2.1, κ.2.2.1.filter (zk_keep κ.1 t 2000 1000000000000), κ.2.2.2), st', cu, su) else none
      | none => none
    | none => none
  | _, _ => none
noncomputable def zk_s10 (nL : Nat) (i : ClassFile.Instr) (len pc : Nat) (κ : zk_C) (st : List zk_S) (cu su : Nat) : Option zk_O := match i with
  | .iinc n k => match κ.2.2.2.2.1.find? (fun q => q.1 == n) with
    | some q => if len = 3 ∧ zk_kd κ.1 q.2 = 0 ∧ κ.1[0]? = some (0, 0, 0, 0) ∧ n < nL ∧ zk_m31 ≤ k ∧ k ≤ zk_p31 then some (pc + 3, ((zk_bnR κ.1 0 q.2 (0, k)).1, κ.2.1, κ.2.2.1, κ.2.2.2.1, (n, (zk_bnR κ.1 0 q.2 (0, k)).2) :: κ.2.2.2.2.1.filter (fun r => zk_st1 0 n r.1 (zk_cat κ.1 r.2)), κ.2.2.2.2.2), st, cu, su) else none
    | none => none
  | _ => none
/-- what stands at js and behind it fits at jd and behind it -/
noncomputable def zk_cpj (Ts Td : zk_T) : Nat → Nat → Nat → Bool
  | 0, _, _ => true
  | n + 1, js, jd => (zk_fj Ts js).1 == 0 && (zk_fj Td jd).1 == 0 && decide ((zk_fj Td jd).2.2.1 ≤ (zk_fj Ts js).2.2.1) && decide ((zk_fj Ts js).2.2.2 ≤ (zk_fj Td jd).2.2.2) && zk_cpj Ts Td n (js + 1) (jd + 1)
/-- note 8: a number of an array goes to another array, to the same place but for a distance -/
noncomputable def zk_s11 (ty : List zk_T) (eff : List (Nat × Nat × Nat)) (an : Nat) (nx : Option (ClassFile.Instr × Nat)) (i : ClassFile.Instr) (len pc : Nat) (κ : zk_C) (st : List zk_S) (cu su : Nat) : Option zk_O := if an = 8 then (match i, nx, st with
  | .iaload, some (.iastore, 1), qi :: qa :: qj :: qb :: st' => match zk_typ ty κ qa, zk_typ ty κ qb with
    | some (_, Ts), some (t, Td) => if len = 1 ∧ Ts.1 = 1 ∧ Td.1 = 1 ∧ zk_ix κ qi qa Ts = true ∧ zk_ix κ qj qb Td = true ∧ qi.1 = qj.1 ∧ zk_cpj Ts Td ((zk_hg κ.1 qi - zk_lw κ.1 qi).toNat + 1) (zk_lw κ.1 qi).toNat (zk_lw κ.1 qj).toNat = true ∧ zk_mayb eff κ t (zk_ac (zk_lw κ.1 qj) (zk_hi κ.1 qj Td)) qb.1 = true ∧ zk_spb t (zk_hi κ.1 qj Td) = true then
        some (pc + 2, (κ.1, κ.2.1, κ.2.2.1.filter (zk_keep κ.1 t (2000 + (zk_lw κ.1 qj).toNat) (2000 + (zk_hi κ.1 qj Td).toNat)), κ.2.2.2), st', cu, su) else none
    | _, _ => none
  | _, _, _ => none) else none
section ZK18
variable {p : Program} {l : Launch} {e : Env} {R : Room} {s : State} {m : MethodId} {args : Array Value} {below : List Frame} {meth : Method} {c : Code} {Q : State → Prop}
variable {cc : ByteArray} {w : zk_W} {u : zk_M} {Ts : List Jvm.Cond} {own : String}
theorem zk_hnum {av : List zk_S} {ps : List Int} {N : List Int} (h0 : N[0]? = some 0) (hav : zk_all2 (fun (q : zk_S) (n : Int) => ∃ k, N[q.1]? = some k ∧ n = k + q.2) av ps) {r : zk_S} {rn : Int} (hr : ∃ k, N[r.1]? = some k ∧ rn = k + r.2) (j : Nat) : ∃ k, N[(zk_asr av r j).1]? = some k ∧ zk_num ps rn j = k + (zk_asr av r j).2 := by
  have hlen := zk_all2_len hav
  unfold zk_asr zk_num
  by_cases h9 : j = 99
  · rw [if_pos h9, if_pos h9]
    exact ⟨0, h0, rfl⟩
  · rw [if_neg h9, if_neg h9]
    by_cases hl : j = av.length
    · rw [if_pos hl, if_pos (by omega)]
      exact hr
    · rw [if_neg hl, if_neg (by omega), List.getD_eq_getElem?_getD, List.getD_eq_getElem?_getD]
      cases hq : av[j]? with
      | some q =>
        obtain ⟨n, e1, k, e2, e3⟩ := zk_all2_get hav hq
        rw [e1]
        exact ⟨k, e2, e3⟩
      | none =>
        have : ps[j]? = none := by
          rw [List.getElem?_eq_none_iff] at hq ⊢
          omega
        rw [this]
        exact ⟨0, h0, rfl⟩
theorem zk_dval_fs {V : List zk_F} {N : List Int} {P : Nat → Option Nat} (hV : zk_all2 (zk_ok P) V N) (h0 : V[0]? = some (0, 0, 0, 0)) (h1 : V[1]? = some (1, 0, 0, 0)) (h2 : V[2]? = some (2, 0, -1, -1)) : ∀ {ds : List zk_S} {fs : List Value}, ds.all (fun q => decide (q.1 ≤ 2) && q.2 == 0) = true → zk_all2 (zk_sv V N) ds fs → fs = ds.map zk_dval
  | [], [], _, _ => rfl
  | q :: ds, v :: fs, hd, hv => by
    simp only [List.all_cons, Bool.and_eq_true, decide_eq_true_eq, beq_iff_eq] at hd
    obtain ⟨⟨d1, d2⟩, d3⟩ := hd
    have ih := zk_dval_fs hV h0 h1 h2 (ds := ds) (fs := fs) (by simpa using d3) hv.2
    obtain ⟨f, n, g1, g2, g3, g4⟩ := hv.1
    obtain ⟨qk, qc⟩ := q
    dsimp only at d1 d2 g1 g2 g4
    subst d2
    rw [Int.add_zero] at g4
    obtain ⟨n', e1, e2⟩ := zk_all2_get hV g1
    cases g2.symm.trans e1
    have hq : qk = 0 ∨ qk = 1 ∨ qk = 2 := by omega
    rw [List.map_cons, ih]
    congr 1
    rw [g4]
    rcases hq with rfl | rfl | rfl
    · cases h0.symm.trans g1
      have iv := e2.iv (by decide)
      dsimp only at iv
      have : n = 0 := by omega
      rw [this]
      rfl
    · cases h1.symm.trans g1
      have iv := e2.iv (by decide)
      dsimp only at iv
      have : n = 0 := by omega
      rw [this]
      rfl
    · cases h2.symm.trans g1
      have e2 : (-1 : Int) ≤ n ∧ -1 ≤ n ∧ ((-1 : Int) < 0 → n < 0) ∧ _ := e2
      have := e2.2.2.1 (by decide)
      have : n = -1 := by omega
      rw [this]
      rfl
  | [], _ :: _, _, hv => hv.elim
  | _ :: _, [], _, hv => hv.elim
theorem zk_s7X_ok (hx : p.tables.exec = Jvm.exec) (hb : c.code = cc) (hsb : zk_stab w) (hZ : w.2.2.2.2.2 s) (htx : ∀ t a, w.2.2.2.2.1 t a → u.1 a = some t) (hml : c.maxLocals = u.2.2.2.2.2.1) (hts : ∀ x ∈ Ts, x.before args s = true) (hown : s.vm.findClass own = some m.cls) (hK : va_K w.2.2.1 w.2.1 [] s) {ty : List zk_T} (hw : w.1 = ty) (hbs : w.2.2.2.1 ≤ s.heap.size) {dv : List (List zk_S)} {TB : List Jvm.Cond} (hTB : GoodIn Ts TB) {KS : List zk_K} {an : Nat} {A : zk_Q} {B : zk_B} (hKS : ∀ K : zk_K, KS[an]? = some K → zk_metX l w dv TB K A B ∧ zk_cok w TB K) {km : List Nat} {mn : Nat → MethodName} (hkm : ∀ (j : Nat) (K : zk_K) (k : Nat), KS[j]? = some K → km[j]? = some k → K.1 = mn k) {lc : List (Nat × Nat × Nat)} (hlc : ∀ q ∈ lc, zk_lc s args own q.1 q.2.1 (mn q.2.2)) {rm : Nat × Nat × Nat × Nat} (hR : rm.1 ≤ R.frames ∧ rm.2.1 ≤ R.locals ∧ rm.2.2.1 ≤ R.cells ∧ rm.2.2.2 ≤ R.slots) {i : ClassFile.Instr} {len pc : Nat} {κ : zk_C} {st : List zk_S} {cu su : Nat} {outs : List zk_O} (hs : zk_s7 ty dv KS km lc u.2.2.2.1 rm an i len pc κ st cu su = some outs) (hdg : decode cc pc = .ok (i, len)) {N : List Int} {P : Nat → Option Nat} {F : Nat → va_E} {H : Heap} {locs : List Loc} {ls : Array Slot} {sv : List Value} (hG : zk_G w s u κ N P F H locs ls) (hS : zk_all2 (zk_sv κ.1 N) st sv) (hA : ∀ (K : zk_K) (ps : List Int), KS[an]? = some K → zk_all2 (fun (q : zk_S) (n : Int) => ∃ k, N[q.1]? = some k ∧ n = k + q.2) (st.take (zk_Kp K).length).reverse ps → A P F ps)
    (kk : ∀ o ∈ outs, ∀ (N' : List Int) (P' : Nat → Option Nat) (F' : Nat → va_E) (H' : Heap) (locs' : List Loc) (ls' : Array Slot) (sv' : List Value) (K : zk_K) (ps : List Int) (rn : Int), KS[an]? = some K → zk_all2 (fun (q : zk_S) (n : Int) => ∃ k, N[q.1]? = some k ∧ n = k + q.2) (st.take (zk_Kp K).length).reverse ps → B P F ps P' F' rn → (N' = N ∨ N' = N ++ [rn]) → zk_G w s u o.2.1 N' P' F' H' locs' ls' → zk_all2 (zk_sv o.2.1.1 N') o.2.2.1 sv' → W p l e R s m args below meth c H' locs' o.2.2.2.1 o.2.2.2.2 Q (F0 m o.1 ls' sv')) : W p l e R s m args below meth c H locs cu su Q (F0 m pc ls sv) := by
  have hV := hG.1
  unfold zk_s7 at hs
  split at hs
  · rename_i h idx K hhi hKj
    split at hs
    · rename_i q hq
      split at hs
      · rename_i hc
        obtain ⟨rfl, c1, c2, c3, c4, c5, c6, c7, c8, c9, d1, d2, d3, d4⟩ := hc
        cases hs
        have hqf := List.find?_some hq
        simp only [Bool.and_eq_true, beq_iff_eq] at hqf
        obtain ⟨qh, qi, qm⟩ := q
        dsimp only at c1 c2 c3 hqf
        obtain ⟨rfl, rfl⟩ := hqf
        have hi := zk_hidx_ok hhi c1
        rw [hi] at hdg
        obtain ⟨hM, hC⟩ := hKS K hKj
        have hAK := hA K
        have hkkK := fun o ho N' P' F' H' locs' ls' sv' => kk o ho N' P' F' H' locs' ls' sv' K
        have hlcq := hlc _ (List.mem_of_find?_eq_some hq)
        dsimp only at hlcq
        rw [← hkm an K qm hKj c2] at hlcq
        have hst : zk_all2 (zk_sv κ.1 N) (st.take (zk_Kp K).length ++ st.drop (zk_Kp K).length) sv := by rw [List.take_append_drop]; exact hS
        obtain ⟨b1, b2, rfl, hb1, hb2⟩ := zk_all2_split hst
        generalize hav0 : (st.take (zk_Kp K).length).reverse = av at *
        have hb1r := zk_all2_rev hb1
        rw [hav0] at hb1r
        obtain ⟨ps, p1, p2, p3⟩ := zk_args_ok hV c5 hb1r
        have hb1e : b1 = (zk_avs (zk_Kp K) ps).reverse := by rw [← p2, List.reverse_reverse]
        have hbH : w.2.2.2.1 ≤ H.size := Nat.le_trans hbs hG.2.2.2.2.2.2.2.2.1.1
        have n0 := zk_c0 hV d3
        have hsz : ls.size = u.2.2.2.2.2.1 := by
          obtain ⟨lv, g1, -⟩ := hG.2.2.2.2.2.1
          exact g1.1
        have hgood : GoodIn Ts (Jvm.Cond.code K.1 K.2.1 K.2.2.1 K.2.2.2.1 :: TB) := by
          intro x hx'
          rcases List.mem_cons.mp hx' with rfl | hx'
          · exact hTB _ hC.2.2.2.2.1
          · exact hTB x hx'
        -- a made object's place
        have hctor : zk_Kk K = 2 → ∃ (z : Nat × Nat × List zk_S) (r : List (Nat × Nat × List zk_S)) (q : zk_S) (qs : List zk_S) (f : zk_F) (T : zk_T) (ds : List zk_S), κ.2.2.2.1 = z :: r ∧ av = q :: qs ∧ q.1 = z.1 ∧ q.2 = 0 ∧ (zk_Kp K)[0]? = some f ∧ f.1 = 3 ∧ ty[f.2.1]? = some T ∧ T.1 = 0 ∧ z.2.1 = T.2.1 ∧ dv[T.2.1]? = some ds ∧ z.2.2 = ds ∧ κ.1[0]? = some (0, 0, 0, 0) ∧ κ.1[1]? = some (1, 0, 0, 0) ∧ κ.1[2]? = some (2, 0, -1, -1) ∧ ds.all (fun q => decide (q.1 ≤ 2) && q.2 == 0) = true := by
          intro hk
          unfold zk_thb at d2
          rw [if_neg (by omega), if_neg (by omega)] at d2
          unfold zk_th2 at d2
          split at d2
          · rename_i f z r q qs hf hz
            simp only [Bool.and_eq_true, beq_iff_eq] at d2
            obtain ⟨⟨⟨y1, y2⟩, y3⟩, y4⟩ := d2
            split at y4
            · rename_i T hT
              simp only [Bool.and_eq_true, beq_iff_eq] at y4
              obtain ⟨⟨y5, y6⟩, y7⟩ := y4
              split at y7
              · rename_i ds hds
                simp only [Bool.and_eq_true, decide_eq_true_eq] at y7
                exact ⟨z, r, q, qs, f, T, ds, hz, rfl, y2, y3, hf, y1, hT, y5, y6, hds, y7.1.1.1.1, y7.1.1.1.2, y7.1.1.2, y7.1.2, y7.2⟩
              · cases y7
            · cases y4
          · cases d2
        have hraw : zk_Kk K = 2 → ∃ n : Nat, ps[0]? = some (n : Int) ∧ n < H.size ∧ w.2.2.2.1 ≤ n ∧ P n = none ∧ ∃ (f : zk_F) (T : zk_T) (ds : List zk_S), (zk_Kp K)[0]? = some f ∧ f.1 = 3 ∧ w.1[f.2.1]? = some T ∧ T.1 = 0 ∧ dv[T.2.1]? = some ds ∧ va_at w.2.2.1 w.2.1 (n, .inr (T.2.1, ds.map zk_dval)) H := by
          intro hk
          obtain ⟨z, r, q, qs, f, T, ds, y1, y2, y3, y4, y5, y6, y7, y8, y9, z1, z2, z3, z4, z5, z6⟩ := hctor hk
          have h4 := hG.2.2.2.1
          rw [y1] at h4
          obtain ⟨n, fs, r1, r2, r3, r4, r5, r6, r7⟩ := h4
          have hps0 : ps[0]? = some (n : Int) := by
            rw [y2] at p3
            obtain ⟨p0, e1, k', e2, e3⟩ := zk_all2_get p3 (i := 0) (a := q) rfl
            rw [y3, r1] at e2
            cases e2
            rw [e1, e3, y4, Int.add_zero]
          refine ⟨n, hps0, r2, r3.1, r4, f, T, ds, y5, y6, by rw [hw]; exact y7, y8, z1, ?_⟩
          rw [y9] at r5
          rw [z2] at r6
          rw [← zk_dval_fs hV z3 z4 z5 z6 r6]
          exact r5
        have hpre : ∀ U : State, U.heap = H → s.WarmedH U.vm → zk_pre w dv K P F ps H.size U := by
          intro U hU hWm
          refine ⟨by rw [hU], hbH, by rw [hU]; exact hG.2.2.2.2.1.moved hWm.alike, va_K.moved hWm.alike hK, fun hk => ?_, hsb.1 s U hWm (fun q hq => by rw [hU]; exact hG.2.2.2.2.2.2.2.2.1.2.1 q (Nat.lt_of_lt_of_le hq hbs) (Nat.not_le.mpr hq)) hZ, fun t a h => hG.2.2.2.2.2.2.1 a t (htx t a h)⟩
          obtain ⟨n, y1, y2, y3, y4, f, T, ds, y5, y6, y7, y8, y9, z1⟩ := hraw hk
          exact ⟨n, f, T, ds, y1, y5, y7, y8, y9, by rw [hU]; exact y2, y3, y4, by rw [hU]; exact z1⟩
        have hrc : zk_Kk K = 1 → ∃ b : Nat, ps[0]? = some (b : Int) ∧ (∃ f, (zk_Kp K)[0]? = some f ∧ 2 ≤ f.1) ∧ ∃ cell : Cell, H[b]? = some cell ∧ cell.vm.isStatics = false ∧ s.vm.findClass K.1.cls = some cell.cls := by
          intro hk
          unfold zk_thb at d2
          rw [if_neg (by omega), if_pos hk] at d2
          unfold zk_th1 at d2
          split at d2
          · rename_i f hf
            simp only [Bool.and_eq_true, beq_iff_eq, decide_eq_true_eq] at d2
            obtain ⟨⟨y1, y2⟩, y3⟩ := d2
            split at y3
            · rename_i T hT
              simp only [Bool.and_eq_true, beq_iff_eq, decide_eq_true_eq] at y3
              obtain ⟨n, e1, e2⟩ := zk_all2_get p1 hf
              obtain ⟨fk, ft, fl, fh⟩ := f
              dsimp only at y1 y2 hT
              subst y1
              have e2 : fl ≤ n ∧ -1 ≤ n ∧ (fh < 0 → n < 0) ∧ (0 ≤ n → P n.toNat = some ft) := e2
              have hp := e2.2.2.2 (by omega)
              obtain ⟨fs, o1, o2, o3, o4⟩ := zk_obj hG.2.2.2.2.1 hp (by rw [hw]; exact hT) y3.1.1
              rw [y3.1.2] at o3
              refine ⟨n.toNat, by rw [e1]; congr 1; omega, ⟨_, hf, Nat.le_refl _⟩, ?_⟩
              rcases hC.2.2.2.2.2.1 (by omega) with ⟨-, T0, N0, hcl⟩ | ⟨h9, -⟩
              · exact va_recv hK (zk_P1 o3) hcl (q0 := 0) rfl
              · exact absurd h9 y3.2
            · rename_i hT
              have y3 : zk_Kc K = 999 := by simpa using y3
              obtain ⟨n, e1, e2⟩ := zk_all2_get p1 hf
              obtain ⟨fk, ft, fl, fh⟩ := f
              dsimp only at y1 y2 hT
              subst y1
              have e2 : fl ≤ n ∧ -1 ≤ n ∧ (fh < 0 → n < 0) ∧ (0 ≤ n → P n.toNat = some ft) := e2
              have hp := e2.2.2.2 (by omega)
              obtain ⟨o1, o2, -⟩ := (zk_wt1.none (by rw [hw]; exact hT)).mp (hG.2.2.2.2.1 _ _ hp)
              obtain ⟨cell, g1, g2, g3⟩ := hsb.2.2 s hZ _ _ o2
              refine ⟨n.toNat, by rw [e1]; congr 1; omega, ⟨_, hf, Nat.le_refl _⟩, cell, ?_, g2, ?_⟩
              · rw [hG.2.2.2.2.2.2.2.2.1.2.1 _ (Nat.lt_of_lt_of_le o1 hbs) (Nat.not_le.mpr o1)]
                exact g1
              · rcases hC.2.2.2.2.2.1 (by omega) with ⟨h9, -⟩ | ⟨-, h9⟩
                · exact absurd y3 h9
                · rw [h9]
                  exact g3
          · cases d2
        have hrc2 : zk_Kk K = 2 → ∃ b : Nat, ps[0]? = some (b : Int) ∧ ∃ f, (zk_Kp K)[0]? = some f ∧ 2 ≤ f.1 := by
          intro hk
          obtain ⟨n, y1, y2, y3, y4, f, T, ds, y5, y6, -⟩ := hraw hk
          exact ⟨n, y1, f, y5, by omega⟩
        have hrun := zk_run hx hb hsb (locs := locs) (cu := cu) (su := su) (pc := pc) (ls := ls) (rest := b2) (e := e) (below := below) (meth := meth) hml hown hts hM hC hgood hlcq c3 p1 (hAK ps hKj p3) hpre hrc hrc2 hsz (by rw [zk_cs_ok hb2]; exact c6) (R := R) ⟨by have := hR.1; omega, by have := hR.2.1; omega⟩ ⟨by have := hR.2.2.1; omega, by have := hR.2.2.2; omega⟩ hdg
        rw [hb1e]
        intro T hT X
        obtain ⟨v, st₀, t, T', L, h0, X', hL, e1, e2, hpost, st'⟩ := hrun T hT X
        obtain ⟨al, al1, rn, P', F', f1, f2, f3, f4, f5, f6, f7, f8, f9, g1, g2, hBB⟩ := hpost
        rw [h0] at f8 f9 g1
        have hvm : t.vm.Alike s.vm := by
          have := X'.warmed.alike
          rw [e2] at this
          exact this.symm
        rw [← e1] at f4 f8 f9 g1
        have hwt' : zk_wt w s P' F' T'.heap := f4.moved hvm
        obtain ⟨A1, A2⟩ := zk_aft_ok (K := K) (av := av) hG p3 hwt' f6 f7 f8 f9 g1 g2 hL d4 (fun hk => by
          obtain ⟨z, r, q, qs, f, T, ds, y1, y2, y3, y4, y5, y6, y7, y8, y9, z1, z2, -⟩ := hctor hk
          refine ⟨z, r, q, qs, f, y1, y2, y3, y4, y5, ?_⟩
          rw [y2] at c5
          cases hp : zk_Kp K with
          | nil => rw [hp] at y5; simp at y5
          | cons f' fr =>
            rw [hp] at c5 y5
            simp at y5
            subst y5
            unfold zk_argsb at c5
            rw [Bool.and_eq_true] at c5
            have := c5.1
            unfold zk_fita at this
            rw [if_pos y6] at this
            simp only [Bool.and_eq_true, beq_iff_eq] at this
            exact this.1)
        have hS2 := zk_sv_mono A2 hb2
        cases hal : al.1 with
        | some f =>
          obtain ⟨k1, k2⟩ := f2 f hal
          have A3 := zk_G.push A1 k1
          have hl3 := zk_le.snoc (V := (zk_aft K av κ).1) (N := N) f rn
          have hlen := zk_all2_len A1.1
          obtain ⟨κ', m1, m2, m3⟩ := zk_cap_ok (av := av) (r := ((zk_aft K av κ).1.length, 0)) (ps := ps) (rn := rn) (zk_hnum (hl3.1 _ _ n0) (zk_all2_imp (fun q n ⟨k, z1, z2⟩ => ⟨k, hl3.1 _ _ z1, z2⟩) p3) ⟨rn, by rw [hlen]; exact zk_get_last, by simp⟩) A3 f3
          rw [hal] at f1
          have f1 : v = some (zk_mk f.1 rn) := by cases f1; rfl
          subst f1
          have hsv := zk_sv_last A1.1 k1
          have ho : (pc + 3, κ', ((zk_aft K av κ).1.length, (0 : Int)) :: st.drop (zk_Kp K).length, cu + (zk_Kr K).2.2.1, su + (zk_Kr K).2.2.2) ∈ (zk_Ka K).flatMap (zk_alt K av (zk_aft K av κ) (st.drop (zk_Kp K).length) (pc + 3) (cu + (zk_Kr K).2.2.1) (su + (zk_Kr K).2.2.2)) := by
            refine List.mem_flatMap.mpr ⟨al, al1, ?_⟩
            unfold zk_alt
            rw [hal]
            dsimp only
            rw [m1]
            exact List.mem_singleton.mpr rfl
          obtain ⟨t2, a1, b1'⟩ := hkkK _ ho _ P' F' T'.heap _ ls (zk_mk f.1 rn :: b2) ps rn hKj p3 hBB (Or.inr rfl) m2 ⟨m3.2 _ _ hsv, zk_sv_mono m3 (zk_sv_mono hl3 hS2)⟩ T' rfl X'
          exact ⟨t2, st' t2 a1, b1'⟩
        | none =>
          rw [hal] at f1
          have f1 : v = none := by cases f1; rfl
          subst f1
          have hf3 : ∀ q ∈ al.2.filter (fun c => c.1 != av.length && c.2.1 != av.length), zk_num ps 0 q.1 ≤ zk_num ps 0 q.2.1 + q.2.2 := by
            clear hpre
            intro q hq
            obtain ⟨y1, y2⟩ := List.mem_filter.mp hq
            simp only [Bool.and_eq_true, bne_iff_ne] at y2
            have hlen := zk_all2_len p3
            have := f3 q y1
            have e3 : ∀ j, j ≠ av.length → zk_num ps 0 j = zk_num ps rn j := fun j hj => by
              unfold zk_num
              split
              · rfl
              · rw [if_neg (by omega), if_neg (by omega)]
            rw [e3 _ y2.1, e3 _ y2.2]
            exact this
          obtain ⟨κ', m1, m2, m3⟩ := zk_cap_ok (av := av) (r := (0, 0)) (ps := ps) (rn := 0) (zk_hnum n0 p3 ⟨0, n0, rfl⟩) A1 hf3
          have ho : (pc + 3, κ', st.drop (zk_Kp K).length, cu + (zk_Kr K).2.2.1, su + (zk_Kr K).2.2.2) ∈ (zk_Ka K).flatMap (zk_alt K av (zk_aft K av κ) (st.drop (zk_Kp K).length) (pc + 3) (cu + (zk_Kr K).2.2.1) (su + (zk_Kr K).2.2.2)) := by
            refine List.mem_flatMap.mpr ⟨al, al1, ?_⟩
            unfold zk_alt
            rw [hal]
            dsimp only
            rw [m1]
            exact List.mem_singleton.mpr rfl
          obtain ⟨t2, a1, b1'⟩ := hkkK _ ho _ P' F' T'.heap _ ls b2 ps rn hKj p3 hBB (Or.inl rfl) m2 (zk_sv_mono m3 hS2) T' rfl X'
          exact ⟨t2, st' t2 a1, b1'⟩
      · cases hs
    · cases hs
  · cases hs
theorem zk_s7_ok (hx : p.tables.exec = Jvm.exec) (hb : c.code = cc) (hsb : zk_stab w) (hZ : w.2.2.2.2.2 s) (htx : ∀ t a, w.2.2.2.2.1 t a → u.1 a = some t) (hml : c.maxLocals = u.2.2.2.2.2.1) (hts : ∀ x ∈ Ts, x.before args s = true) (hown : s.vm.findClass own = some m.cls) (hK : va_K w.2.2.1 w.2.1 [] s) {ty : List zk_T} (hw : w.1 = ty) (hbs : w.2.2.2.1 ≤ s.heap.size) {dv : List (List zk_S)} {TB : List Jvm.Cond} (hTB : GoodIn Ts TB) {KS : List zk_K} (hKS : ∀ (j : Nat) (K : zk_K), KS[j]? = some K → zk_met l w dv TB K ∧ zk_cok w TB K) {km : List Nat} {mn : Nat → MethodName} (hkm : ∀ (j : Nat) (K : zk_K) (k : Nat), KS[j]? = some K → km[j]? = some k → K.1 = mn k) {lc : List (Nat × Nat × Nat)} (hlc : ∀ q ∈ lc, zk_lc s args own q.1 q.2.1 (mn q.2.2)) {rm : Nat × Nat × Nat × Nat} (hR : rm.1 ≤ R.frames ∧ rm.2.1 ≤ R.locals ∧ rm.2.2.1 ≤ R.cells ∧ rm.2.2.2 ≤ R.slots) {an : Nat} {i : ClassFile.Instr} {len pc : Nat} {κ : zk_C} {st : List zk_S} {cu su : Nat} {outs : List zk_O} (hs : zk_s7 ty dv KS km lc u.2.2.2.1 rm an i len pc κ st cu su = some outs) (hdg : decode cc pc = .ok (i, len)) (kk : ∀ o ∈ outs, zk_J p l e R s m args below meth c Q w u o.2.1 o.2.2.1 o.2.2.2.1 o.2.2.2.2 o.1) : zk_J p l e R s m args below meth c Q w u κ st cu su pc := fun N P F H locs ls sv hG hS => zk_s7X_ok hx hb hsb hZ htx hml hts hown hK hw hbs hTB (A := zk_tA) (B := zk_tB) (fun K h => hKS an K h) hkm hlc hR hs hdg hG hS (fun _ _ _ _ => trivial) (fun o ho N' P' F' H' locs' ls' sv' _ _ _ _ _ _ _ hG' hS' => kk o ho N' P' F' H' locs' ls' sv' hG' hS')
/-- a text constant -/
theorem zk_s8_ok (hx : p.tables.exec = Jvm.exec) (hb : c.code = cc) (hown : s.vm.findClass own = some m.cls) (htx : ∀ t a, w.2.2.2.2.1 t a → u.1 a = some t) {lk : List zk_L} (hlk : ∀ q ∈ lk, zk_lkok w s args own q) {i : ClassFile.Instr} {len pc : Nat} {κ : zk_C} {st : List zk_S} {cu su : Nat} {o : zk_O} (hs : zk_s8 lk i len pc κ st cu su = some o) (hdg : decode cc pc = .ok (i, len)) (kk : zk_J p l e R s m args below meth c Q w u o.2.1 o.2.2.1 o.2.2.2.1 o.2.2.2.2 o.1) : zk_J p l e R s m args below meth c Q w u κ st cu su pc := by
  intro N P F H locs ls sv hG hS
  have hV := hG.1
  unfold zk_s8 at hs
  split at hs
  · rename_i idx
    split at hs
    · rename_i q hq
      split at hs
      · rename_i hc
        subst hc
        cases hs
        obtain ⟨k, j, a, b, v⟩ := q
        obtain ⟨e1, e2, e3⟩ := zk_lk_ok hlk hq
        dsimp only at e1 e2
        subst e1; subst e2
        obtain ⟨tx, ad, z1, z2⟩ := e3
        have f1 : zk_ok P (2, a, 0, 0) (ad : Int) := ⟨by dsimp only; omega, by omega, fun h => absurd h (by dsimp only; omega), fun _ => by rw [Int.toNat_natCast]; exact hG.2.2.2.2.2.2.1 _ _ (htx _ _ z1)⟩
        have e4 : zk_mk 2 (ad : Int) = .ref ad := by
          rw [zk_mk_ref (Nat.le_refl _), if_neg (by omega), Int.toNat_natCast]
        refine va_ldcS hx hb hown z2 hdg ?_
        rw [← e4]
        exact kk _ P F H locs ls _ (hG.push f1) ⟨zk_sv_last hV f1, zk_sv_mono (zk_le.snoc _ _) hS⟩
      · cases hs
    · cases hs
  · cases hs
/-- null is stored in an array of references -/
theorem zw_aastn (hx : p.tables.exec = Jvm.exec) (hb : c.code = cc) {H : Heap} {locs : List Loc} {cu su pc : Nat} {ls : Array Slot} {rest : List Value} {a n : Nat} {cA : ClassId} {C : String} {f : Nat → Option Nat} (hat : H[a]? = some (vp_cell cA (n, .inr (.inr (.inr (.inr f)))))) (hA : ArrOfT s cA (.object C)) {i : Int32} (hin : vp_in i n) (hdg : decode cc pc = .ok (.aastore, 1))
    (kk : ∀ (H1 : Heap) (j : Nat), H1[a]? = some (vp_cell cA (n, .inr (.inr (.inr (.inr (zk_up f i.toNatClampNeg none)))))) → H1.size = H.size → (∀ q, q ≠ a → H1[q]? = H[q]?) → W p l e R s m args below meth c H1 (locs ++ [⟨a, j⟩]) cu su Q (F0 m (pc + 1) ls rest)) : W p l e R s m args below meth c H locs cu su Q (F0 m pc ls (.null :: .int i :: .ref a :: rest)) := by
  refine va_WaastN (C := C) hx hb hat (hA n (fun j => va_rf (f j))) (fun h => by cases h) (by show ¬ (i < 0 ∨ (arrV _ _ _).slots.size ≤ _); rw [arrV_size]; exact hin) rfl rfl hdg fun H1 e1 z oq => kk H1 _ ?_ z oq
  rw [e1, vp_cell_q, vp_cell_q]
  have : Value.null = va_rf none := rfl
  rw [this, arrV_store]
  congr 2
  funext q
  by_cases hq : q = i.toNatClampNeg
  · subst hq
    simp [updV, zk_up]
  · simp [updV, zk_up, hq]
theorem zk_s9_ok (hx : p.tables.exec = Jvm.exec) (hb : c.code = cc) (hK : va_K w.2.2.1 w.2.1 [] s) {ty : List zk_T} (hw : w.1 = ty) {i : ClassFile.Instr} {len pc : Nat} {κ : zk_C} {st : List zk_S} {cu su : Nat} {o : zk_O} (hs : zk_s9 ty u.2.2.2.1 i len pc κ st cu su = some o) (hdg : decode cc pc = .ok (i, len)) (kk : zk_J p l e R s m args below meth c Q w u o.2.1 o.2.2.1 o.2.2.2.1 o.2.2.2.2 o.1) : zk_J p l e R s m args below meth c Q w u κ st cu su pc := by
  unfold zk_s9 at hs
  split at hs
  · rename_i qv qi qa st'
    split at hs
    · rename_i t T hT
      split at hs
      · rename_i T2 hT2
        split at hs
        · rename_i hc
          obtain ⟨rfl, c1, c2, c3, c4, c5, c6, c7⟩ := hc
          cases hs
          intro N P F H locs ls sv hG hS
          match sv, hS with
          | vv :: vi :: va :: sv', hS =>
            obtain ⟨a, rfl, hna, hp, hwT⟩ := zk_typ_ok hw hG.1 hT hS.2.2.1
            obtain ⟨cA, n, f, o1, o2, o3, o4, o4', o5, o6, o7⟩ := zk_qarr hG.2.2.2.2.1 hp hwT c1
            obtain ⟨j, rfl, j1, j2, j3, j4, j5, j6, j7⟩ := zk_ix_ok hG c3 hS.2.1 hna o1 o2 o3
            dsimp only at j3 j6
            obtain ⟨x, x1, rfl⟩ := zk_fits_ok hG.1 c4 hS.1
            have hfj : ∀ i, zk_fj T i = zk_f0 T := fun i => by
              unfold zk_fj
              rw [if_neg (by omega)]
            have hsame : ∀ g : Nat → Option Nat, zk_same (fun j => 2000 ≤ j ∧ j ≤ 1000000000000) (F a) (.inl (cA, n, .inr (.inr (.inr (.inr g))))) := fun g => by
              rw [o1]
              exact ⟨rfl, rfl, fun j hj h => absurd (show 2000 ≤ 2000 + j ∧ 2000 + j ≤ 1000000000000 from ⟨by omega, by have : j < n := hj; omega⟩) h⟩
            have hmay := zk_mayb_ok c6 hG.2.2.2.2.2.2.2.2.2.1 hG.2.2.2.2.2.2.2.2.2.2.1 hna (Int.natCast_nonneg _)
            rw [Int.toNat_natCast] at hmay
            have hx0 : zk_mk (zk_f0 T).1 x = va_rf (if x < 0 then none else some x.toNat) := by
              rw [zk_mk_ref (by omega)]
              split <;> rfl
            have fin : ∀ (H1 : Heap) (jj : Nat), H1[a]? = some (vp_cell cA (n, .inr (.inr (.inr (.inr (zk_up f j.toNat (if x < 0 then none else some x.toNat))))))) → H1.size = H.size → (∀ q, q ≠ a → H1[q]? = H[q]?) → W p l e R s m args below meth c H1 (locs ++ [⟨a, jj⟩]) cu su Q (F0 m (pc + 1) ls sv') := by
              intro H1 jj e1 hz hk
              refine kk N P _ H1 _ ls sv' (zk_G.write hG hp hwT ?_ (show va_at _ _ (a, .inl (cA, n, .inr (.inr (.inr (.inr _))))) H1 from e1) hz hk (L := [⟨a, jj⟩]) (fun q hq => by rw [List.mem_singleton.mp hq]) (hsame _) (hmay.imp (fun z => z) (fun z k hk2 => z k hk2)) trivial (fun z hz => by
                obtain ⟨g1, g2⟩ := List.mem_filter.mp hz
                exact zk_fa1_keep hG.1 (hG.2.2.1 z g1) hp (hsame _) g2)) hS.2.2.2
              unfold zk_el
              rw [c1]
              refine ⟨cA, n, _, rfl, o2, o3, o4, o4', fun i hi => ?_⟩
              by_cases hij : i = j.toNat
              · rw [hij, zk_up_self, hfj]
                exact ⟨x, x1, hx0.symm⟩
              · rw [zk_up_ne hij]
                exact o5 i hi
            rw [hx0]
            by_cases hneg : x < 0
            · rw [if_pos hneg] at fin ⊢
              exact zw_aastn hx hb o6 o4 j6 hdg (fun H1 jj e1 hz hk => fin H1 jj (by rw [← j7]; exact e1) hz hk)
            · rw [if_neg hneg] at fin ⊢
              have x2 : P x.toNat = some (zk_f0 T).2.1 := by
                generalize hf0 : zk_f0 T = f0 at x1 c5
                obtain ⟨fk, fr⟩ := f0
                dsimp only at c5
                subst c5
                exact x1.2.2.2 (by omega)
              have hT2w : w.1[(zk_f0 T).2.1]? = some T2 := by rw [hw]; exact hT2
              obtain ⟨fs, b1, b2, b3, b4⟩ := zk_obj hG.2.2.2.2.1 x2 hT2w c2
              obtain ⟨r, hr, b5⟩ := b3
              have hrn : zk_rn w T = r.1 := by
                unfold zk_rn
                rw [hT2w]
                dsimp only
                rw [List.getD_eq_getElem?_getD, hr]
                rfl
              rw [hrn] at o4 o4'
              exact zw_aast hx hb hK hr o6 o4 o4' j6 (o := some x.toNat) (fun v hv => by cases hv; exact ⟨fs, r, hr, b5⟩) hdg (fun H1 jj e1 hz hk => fin H1 jj (by rw [← j7]; exact e1) hz hk)
        · cases hs
      · cases hs
    · cases hs
  · cases hs
theorem zk_s10_ok (hx : p.tables.exec = Jvm.exec) (hb : c.code = cc) {i : ClassFile.Instr} {len pc : Nat} {κ : zk_C} {st : List zk_S} {cu su : Nat} {o : zk_O} (hs : zk_s10 u.2.2.2.2.2.1 i len pc κ st cu su = some o) (hdg : decode cc pc = .ok (i, len)) (kk : zk_J p l e R s m args below meth c Q w u o.2.1 o.2.2.1 o.2.2.2.1 o.2.2.2.2 o.1) : zk_J p l e R s m args below meth c Q w u κ st cu su pc := by
  unfold zk_s10 at hs
  split at hs
  · rename_i n k
    split at hs
    · rename_i q hq
      split at hs
      · rename_i hc
        obtain ⟨rfl, c1, c2, c3, c4, c5⟩ := hc
        cases hs
        intro N P F H locs ls sv hG hS
        obtain ⟨g1, g2, g3, g4, g5, ⟨lv, g6, g7⟩, g8⟩ := hG
        have hG : zk_G w s u κ N P F H locs ls := ⟨g1, g2, g3, g4, g5, ⟨lv, g6, g7⟩, g8⟩
        have hm := List.mem_of_find?_eq_some hq
        have hn : q.1 = n := by simpa using List.find?_some hq
        obtain ⟨j, hj⟩ := List.getElem?_of_mem hm
        obtain ⟨r, e1, e2, e3⟩ := zk_all2_get g7 hj
        have n0 := zk_c0 g1 c2
        have hy : zk_sv κ.1 N (0, k) (.int (Int32.ofInt k)) := ⟨(0, 0, 0, 0), 0, c2, n0, by rw [Int.zero_add]; exact ⟨c4, c5⟩, by rw [Int.zero_add]; rfl⟩
        have ky : zk_kd κ.1 ((0, k) : zk_S) = 0 := by unfold zk_kd; rw [c2]
        obtain ⟨a, b, ea, eb, rb, lb, hb', N', n1, n2, n3⟩ := zk_bnR_ok (o := 0) g1 c2 e3 hy c1 ky
        have hr : r = (n, Value.int (Int32.ofInt a)) := by rw [← hn, e2, ← ea]
        rw [hr] at e1
        refine lv_iinc hx hb hdg g6 e1 rfl c3 rfl (fun ls' hl => ?_)
        have hG2 := hG.le n2 n1
        obtain ⟨y1, y2, y3, y4, y5, -, y8⟩ := hG2
        refine kk N' P F H locs ls' sv ⟨y1, y2, y3, y4, y5, ⟨_, hl, ⟨rfl, ?_⟩, zk_all2_imp (fun a b z => ⟨z.1, n2.2 _ _ z.2⟩) (zk_all2_filter (fun a b hab => ?_) g7)⟩, y8⟩ (zk_sv_mono n2 hS)
        · dsimp only
          have eb := Value.int.inj eb
          rw [eb]
          exact n3
        · obtain ⟨h1, h2⟩ := hab
          rw [h1]
          unfold zk_cat
          rw [← h2.cat]
          rfl
      · cases hs
    · cases hs
  · cases hs
theorem zk_cpj_ok {Ts Td : zk_T} {P : Nat → Option Nat} : ∀ {n js jd : Nat}, zk_cpj Ts Td n js jd = true → ∀ i, i < n → ∀ z, zk_ok P (zk_fj Ts (js + i)) z → (zk_fj Ts (js + i)).1 = 0 ∧ (zk_fj Td (jd + i)).1 = 0 ∧ zk_ok P (zk_fj Td (jd + i)) z
  | 0, _, _, _, i, hi, _, _ => absurd hi (Nat.not_lt_zero _)
  | n + 1, js, jd, h, i, hi, z, hz => by
    unfold zk_cpj at h
    simp only [Bool.and_eq_true, beq_iff_eq, decide_eq_true_eq] at h
    obtain ⟨⟨⟨⟨h1, h2⟩, h3⟩, h4⟩, h5⟩ := h
    cases i with
    | zero =>
      rw [Nat.add_zero] at hz ⊢
      rw [Nat.add_zero]
      refine ⟨h1, h2, ?_⟩
      have iv := hz.iv (by omega)
      have rg := hz.rg
      rw [h1] at rg
      generalize zk_fj Td jd = g at h2 h3 h4 ⊢
      obtain ⟨gk, gt, gl, gh⟩ := g
      dsimp only at h2 h3 h4
      subst h2
      exact ⟨by dsimp only; omega, by dsimp only; omega, rg⟩
    | succ i =>
      rw [show js + (i + 1) = js + 1 + i by omega] at hz ⊢
      rw [show jd + (i + 1) = jd + 1 + i by omega]
      exact zk_cpj_ok h5 i (by omega) z hz
theorem zk_s11_ok (hx : p.tables.exec = Jvm.exec) (hb : c.code = cc) {ty : List zk_T} (hw : w.1 = ty) {an : Nat} {nx : Option (ClassFile.Instr × Nat)} {i : ClassFile.Instr} {len pc : Nat} {κ : zk_C} {st : List zk_S} {cu su : Nat} {o : zk_O} (hs : zk_s11 ty u.2.2.2.1 an nx i len pc κ st cu su = some o) (hdg : decode cc pc = .ok (i, len)) (hnx : ∀ z, nx = some z → (i = .lcmp ∨ i = .iaload) → decode cc (pc + 1) = .ok z) (kk : zk_J p l e R s m args below meth c Q w u o.2.1 o.2.2.1 o.2.2.2.1 o.2.2.2.2 o.1) : zk_J p l e R s m args below meth c Q w u κ st cu su pc := by
  unfold zk_s11 at hs
  split at hs
  rotate_left
  · cases hs
  split at hs
  · rename_i qi qa qj qb st'
    split at hs
    · rename_i t0 Ts t Td hTs hTd
      split at hs
      · rename_i hc
        obtain ⟨rfl, c1, c2, c3, c4, c5, c6, c7, c8⟩ := hc
        cases hs
        have hd2 := hnx _ rfl (Or.inr rfl)
        intro N P F H locs ls sv hG hS
        obtain ⟨vi, sv1, rfl, hSi, hS1⟩ := zk_all2_cons hS
        obtain ⟨va, sv2, rfl, hSa, hS2⟩ := zk_all2_cons hS1
        obtain ⟨vj, sv3, rfl, hSj, hS3⟩ := zk_all2_cons hS2
        obtain ⟨vb, sv4, rfl, hSb, hS4⟩ := zk_all2_cons hS3
        obtain ⟨a0, rfl, hna0, hp0, hwT0⟩ := zk_typ_ok hw hG.1 hTs hSa
        obtain ⟨a, rfl, hna, hp, hwT⟩ := zk_typ_ok hw hG.1 hTd hSb
        obtain ⟨cA0, n0, f0, o1, o2, o3, o4, o5, o6, o7⟩ := zk_iarr hG.2.2.2.2.1 hp0 hwT0 (Or.inl c1)
        obtain ⟨cA, n, f, y1, y2, y3, y4, y5, y6, y7⟩ := zk_iarr hG.2.2.2.2.1 hp hwT (Or.inl c2)
        obtain ⟨ki, _, e1, e2⟩ : ∃ k g, N[qi.1]? = some k ∧ κ.1[qi.1]? = some g := by
          obtain ⟨g, k, h1, h2, -⟩ := hSi
          exact ⟨k, g, h2, h1⟩
        obtain ⟨i, rfl, i1, i2, i3, i4, i5, i6, i7⟩ := zk_ix_ok hG c3 hSi hna0 o1 o2 o3
        obtain ⟨j, rfl, j1, j2, j3, j4, j5, j6, j7⟩ := zk_ix_ok hG c4 hSj hna y1 y2 y3
        dsimp only at i3 i6 j3 j6
        have hdist : j - zk_lw κ.1 qj = i - zk_lw κ.1 qi := by
          have kq : zk_kd κ.1 qi = 0 := by
            unfold zk_ix at c3
            simp only [Bool.and_eq_true, beq_iff_eq] at c3
            exact c3.1.1.1
          have kq2 : zk_kd κ.1 qj = 0 := by
            unfold zk_ix at c4
            simp only [Bool.and_eq_true, beq_iff_eq] at c4
            exact c4.1.1.1
          obtain ⟨i', a1, a2, -, -, k1, a3, a4⟩ := hSi.int hG.1 kq
          obtain ⟨j', b1, b2, -, -, k2, b3, b4⟩ := hSj.int hG.1 kq2
          have a1 := Value.int.inj a1
          rw [zk_eq32 i1 a2] at a1
          have b1 := Value.int.inj b1
          rw [zk_eq32 j1 b2] at b1
          rw [← c5, a3] at b3
          cases b3
          have w1 : zk_lw κ.1 qi - qi.2 = zk_lw κ.1 qj - qj.2 := by
            unfold zk_lw
            rw [← c5, e2]
            dsimp only
            omega
          omega
        obtain ⟨z, z1, z2⟩ := o5 i.toNat (by omega)
        obtain ⟨t1, t2, t3⟩ := zk_cpj_ok (P := P) c6 (i.toNat - (zk_lw κ.1 qi).toNat) (by omega) z (by
          rw [show (zk_lw κ.1 qi).toNat + (i.toNat - (zk_lw κ.1 qi).toNat) = i.toNat by
            have : 0 ≤ zk_lw κ.1 qi := by unfold zk_ix at c3; simp only [Bool.and_eq_true, decide_eq_true_eq] at c3; exact c3.1.1.2
            omega]
          exact z1)
        have hlo : 0 ≤ zk_lw κ.1 qj := by unfold zk_ix at c4; simp only [Bool.and_eq_true, decide_eq_true_eq] at c4; exact c4.1.1.2
        have hlo0 : 0 ≤ zk_lw κ.1 qi := by unfold zk_ix at c3; simp only [Bool.and_eq_true, decide_eq_true_eq] at c3; exact c3.1.1.2
        rw [show (zk_lw κ.1 qi).toNat + (i.toNat - (zk_lw κ.1 qi).toNat) = i.toNat by omega] at t1
        rw [show (zk_lw κ.1 qj).toNat + (i.toNat - (zk_lw κ.1 qi).toNat) = j.toNat by omega] at t2 t3
        rw [c1] at o4
        rw [c2] at y4
        have hhi : j ≤ zk_hi κ.1 qj Td := by unfold zk_hi; omega
        have hhb : zk_hi κ.1 qj Td ≤ 2147483647 := by unfold zk_hi; unfold zk_ix at c4; simp only [Bool.and_eq_true, decide_eq_true_eq] at c4; have := c4.1.2; omega
        have hsame : zk_same (fun k => 2000 + (zk_lw κ.1 qj).toNat ≤ k ∧ k ≤ 2000 + (zk_hi κ.1 qj Td).toNat) (F a) (.inl (cA, n, .inl (zk_up f j.toNat (f0 i.toNat)))) := by
          rw [y1]
          refine ⟨rfl, rfl, fun q hq hP => ?_⟩
          show some (Value.int (f q)) = some (.int (zk_up f j.toNat _ q))
          rw [zk_up_ne (fun e => hP (by dsimp only; omega))]
        have hmay := zk_mayb_ok c7 hG.2.2.2.2.2.2.2.2.2.1 hG.2.2.2.2.2.2.2.2.2.2.1 hna (Int.natCast_nonneg _)
        rw [Int.toNat_natCast] at hmay
        have hxa : zk_rl P (zk_up F a (.inl (cA, n, .inl (zk_up f j.toNat (f0 i.toNat))))) t (.inl (cA, n, .inl (zk_up f j.toNat (f0 i.toNat)))) := by
          have hr0 := ((zk_wt1.some hwT).mp (hG.2.2.2.2.1 a t hp)).2.2.2
          rw [y1] at hr0
          exact zk_xi.put (f := fun q => (f q).toInt) (g := fun q => (zk_up f j.toNat (f0 i.toNat) q).toInt) hr0 c8 (fun q hq => by show (f q).toInt = (zk_up f j.toNat (f0 i.toNat) q).toInt; rw [zk_up_ne (fun e => by omega)])
        refine zw_iald hx hb o6 o4 i6 hdg ?_
        rw [i7]
        refine zw_iast hx hb y6 y4 j6 hd2 (fun H1 jj g1 hz hk => ?_)
        rw [j7] at g1
        refine kk N P _ H1 _ ls sv4 (zk_G.write hG hp hwT ?_ (show va_at _ _ (a, .inl (cA, n, .inl (zk_up f j.toNat (f0 i.toNat)))) H1 from g1) hz hk (L := [⟨a, jj⟩]) (fun q hq => by rw [List.mem_singleton.mp hq]) hsame (hmay.imp (fun z => z) (fun z k hk2 => z k (zk_ac_ok hlo hhb hk2))) hxa (fun q hq => by
          obtain ⟨q1, q2⟩ := List.mem_filter.mp hq
          exact zk_fa1_keep hG.1 (hG.2.2.1 q q1) hp hsame q2)) hS4
        unfold zk_el
        rw [c2]
        refine ⟨cA, n, _, rfl, y2, y3, y4, fun q hq => ?_⟩
        by_cases hqj : q = j.toNat
        · rw [hqj, zk_up_self]
          refine ⟨z, t3, ?_⟩
          rw [z2, t1, t2]
        · rw [zk_up_ne hqj]
          exact y5 q hq
      · cases hs
    · cases hs
  · cases hs
end ZK18
