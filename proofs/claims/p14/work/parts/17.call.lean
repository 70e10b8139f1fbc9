/-! part 17: calls by contract -/
noncomputable def zk_fita (V : List zk_F) (q : zk_S) (f : zk_F) : Bool := if f.1 = 3 then zk_kd V q == 3 && q.2 == 0 else zk_fits V q f
noncomputable def zk_argsb (V : List zk_F) : List zk_S → List zk_F → Bool
  | [], [] => true
  | q :: qs, f :: fs => zk_fita V q f && zk_argsb V qs fs
  | _, _ => false
noncomputable def zk_asr (args : List zk_S) (r : zk_S) (j : Nat) : zk_S := if j = 99 then (0, 0) else if j = args.length then r else args.getD j (0, 0)
noncomputable def zk_cap (args : List zk_S) (r : zk_S) : List (Nat × Nat × Int) → zk_C → Option zk_C
  | [], κ => some κ
  | c :: cs, κ => if zk_kd κ.1 (zk_asr args r c.1) = zk_kd κ.1 (zk_asr args r c.2.1) ∧ zk_kd κ.1 (zk_asr args r c.1) < 2 then (match zk_asm1 κ (zk_asr args r c.1) (zk_asr args r c.2.1) c.2.2 with
      | some κ' => zk_cap args r cs κ'
      | none => none) else zk_cap args r cs κ
noncomputable def zk_hidx (i : ClassFile.Instr) : Option (Nat × Nat) := match i with
  | .invokevirtual idx => some (0, idx)
  | .invokestatic idx => some (1, idx)
  | .invokespecial idx => some (2, idx)
  | _ => none
theorem zk_hidx_ok {i : ClassFile.Instr} {how idx : Nat} (h : zk_hidx i = some (how % 3, idx)) (h5 : how < 6) : i = zk_ins how idx := by
  have h6 : how = 0 ∨ how = 1 ∨ how = 2 ∨ how = 3 ∨ how = 4 ∨ how = 5 := by omega
  rcases h6 with rfl | rfl | rfl | rfl | rfl | rfl <;> cases i <;> simp [zk_hidx, zk_ins] at h ⊢ <;> exact h
/-- what stands behind a call: a made object has its type; the facts that the callee leaves -/
noncomputable def zk_aft (K : zk_K) (av : List zk_S) (κ : zk_C) : zk_C := ((if zk_Kk K = 2 then κ.1.set ((av.getD 0 (0, 0)).1) (2, ((zk_Kp K).getD 0 (0, 0, 0, 0)).2.1, 0, 0) else κ.1), κ.2.1, κ.2.2.1.filter (fun z => (zk_Ke K).all (fun e => zk_keep κ.1 e.1 (zk_er e.2.1).1 (zk_er e.2.1).2 z)), (if zk_Kk K = 2 then κ.2.2.2.1.tail else κ.2.2.2.1), κ.2.2.2.2)
noncomputable def zk_alt (K : zk_K) (av : List zk_S) (κ : zk_C) (rest : List zk_S) (pc cu su : Nat) (al : zk_A) : List zk_O := match al.1 with
  | some f => (zk_ol (zk_cap av (κ.1.length, 0) al.2 (κ.1 ++ [f], κ.2))).map (fun κ' => (pc, κ', (κ.1.length, 0) :: rest, cu, su))
  | none => (zk_ol (zk_cap av (0, 0) (al.2.filter (fun c => c.1 != av.length && c.2.1 != av.length)) κ)).map (fun κ' => (pc, κ', rest, cu, su))
noncomputable def zk_th1 (ty : List zk_T) (K : zk_K) : Bool := match (zk_Kp K)[0]? with
  | some f => f.1 == 2 && decide (0 ≤ f.2.2.1) && (match ty[f.2.1]? with
    | some T => T.1 == 0 && T.2.1 == zk_Kc K && decide (zk_Kc K ≠ 999)
    | none => zk_Kc K == 999)
  | none => false
noncomputable def zk_th2 (ty : List zk_T) (dv : List (List zk_S)) (K : zk_K) (av : List zk_S) (κ : zk_C) : Bool := match (zk_Kp K)[0]?, κ.2.2.2.1, av with
  | some f, z :: _, q :: _ => f.1 == 3 && q.1 == z.1 && q.2 == 0 && (match ty[f.2.1]? with
    | some T => T.1 == 0 && z.2.1 == T.2.1 && (match dv[T.2.1]? with
      | some ds => decide (z.2.2 = ds) && decide (κ.1[0]? = some (0, 0, 0, 0)) && decide (κ.1[1]? = some (1, 0, 0, 0)) && decide (κ.1[2]? = some (2, 0, -1, -1)) && ds.all (fun q => decide (q.1 ≤ 2) && q.2 == 0)
      | none => false)
    | none => false)
  | _, _, _ => false
noncomputable def zk_thb (ty : List zk_T) (dv : List (List zk_S)) (K : zk_K) (av : List zk_S) (κ : zk_C) : Bool := if zk_Kk K = 0 then true else if zk_Kk K = 1 then zk_th1 ty K else zk_th2 ty dv K av κ
noncomputable def zk_s7 (ty : List zk_T) (dv : List (List zk_S)) (KS : List zk_K) (km : List Nat) (lc : List (Nat × Nat × Nat)) (eff : List (Nat × Nat × Nat)) (rm : Nat × Nat × Nat × Nat) (an : Nat) (i : ClassFile.Instr) (len pc : Nat) (κ : zk_C) (st : List zk_S) (cu su : Nat) : Option (List zk_O) := match zk_hidx i, KS[an]? with
  | some (h, idx), some K => match lc.find? (fun q => q.1 % 3 == h && q.2.1 == idx) with
    | some q => if len = 3 ∧ q.1 < 6 ∧ km[an]? = some q.2.2 ∧ zk_hk q.1 = zk_Kk K ∧ (zk_Kp K).length ≤ st.length ∧ zk_argsb κ.1 (st.take (zk_Kp K).length).reverse (zk_Kp K) = true ∧ zk_cs κ.1 (st.drop (zk_Kp K).length) ≤ 8 ∧ (zk_Kr K).1 + 1 ≤ rm.1 ∧ 8 + (K.2.2.1 + 11) + (zk_Kr K).2.1 ≤ rm.2.1 ∧ cu + (zk_Kr K).2.2.1 ≤ rm.2.2.1 ∧ su + (zk_Kr K).2.2.2 ≤ rm.2.2.2 ∧ zk_thb ty dv K (st.take (zk_Kp K).length).reverse κ = true ∧ κ.1[0]? = some (0, 0, 0, 0) ∧
        (zk_Ke K).all (fun e => if e.2.2 = 0 then eff.any (fun q => q.1 == e.1 && zk_cov q.2.1 e.2.1 && q.2.2 == 0) else (match ((st.take (zk_Kp K).length).reverse)[e.2.2 - 1]? with
          | some q => q.2 == 0 && zk_mayb eff κ e.1 e.2.1 q.1
          | none => false)) = true then
        some ((zk_Ka K).flatMap (zk_alt K (st.take (zk_Kp K).length).reverse (zk_aft K (st.take (zk_Kp K).length).reverse κ) (st.drop (zk_Kp K).length) (pc + 3) (cu + (zk_Kr K).2.2.1) (su + (zk_Kr K).2.2.2))) else none
    | none => none
  | _, _ => none
section ZK17
variable {p : Program} {l : Launch} {e : Env} {R : Room} {s : State} {m : MethodId} {args : Array Value} {below : List Frame} {meth : Method} {c : Code} {Q : State → Prop}
variable {cc : ByteArray} {w : zk_W} {u : zk_M} {Ts : List Jvm.Cond} {own : String}
theorem zk_fits_n {V : List zk_F} {N : List Int} {P : Nat → Option Nat} (hV : zk_all2 (zk_ok P) V N) {q : zk_S} {f : zk_F} (h : zk_fits V q f = true) {g : zk_F} {n : Int} (hg : V[q.1]? = some g) (hn : N[q.1]? = some n) (hr : zk_rg g.1 (n + q.2)) : zk_ok P f (n + q.2) ∧ f.1 = g.1 ∧ (2 ≤ f.1 → q.2 = 0) := by
  unfold zk_fits at h
  rw [hg] at h
  obtain ⟨n', e1, e2⟩ := zk_all2_get hV hg
  cases hn.symm.trans e1
  obtain ⟨fk, ft, fl, fh⟩ := f
  obtain ⟨gk, gt, gl, gh⟩ := g
  dsimp only at h
  split at h
  · rename_i hk
    simp only [Bool.and_eq_true, beq_iff_eq, decide_eq_true_eq] at h
    obtain ⟨⟨rfl, h5⟩, h6⟩ := h
    have iv := e2.iv hk
    dsimp only at iv
    refine ⟨?_, rfl, fun h => absurd hk (by dsimp only at h; omega)⟩
    match gk, hk, hr with
    | 0, _, h3 => exact ⟨by dsimp only; omega, by dsimp only; omega, h3⟩
    | 1, _, h3 => exact ⟨by dsimp only; omega, by dsimp only; omega, h3⟩
  · simp only [Bool.and_eq_true, beq_iff_eq] at h
    obtain ⟨⟨⟨rfl, rfl⟩, h5⟩, h6⟩ := h
    have e2 : gl ≤ n ∧ -1 ≤ n ∧ (gh < 0 → n < 0) ∧ (0 ≤ n → P n.toNat = some gt) := e2
    rw [h5, Int.add_zero]
    refine ⟨?_, rfl, fun _ => rfl⟩
    split at h6
    · rename_i h7
      have h6 := of_decide_eq_true h6
      have := e2.2.2.1 h7
      exact ⟨by dsimp only; omega, e2.2.1, fun _ => this, fun z => absurd z (by omega)⟩
    · simp only [Bool.and_eq_true, beq_iff_eq, decide_eq_true_eq] at h6
      obtain ⟨⟨h8, h9⟩, h10⟩ := h6
      refine ⟨by dsimp only; omega, e2.2.1, fun z => ?_, fun z => ?_⟩
      · dsimp only at z
        omega
      · dsimp only
        rw [← h8]
        exact e2.2.2.2 z
theorem zk_fita_ok {V : List zk_F} {N : List Int} {P : Nat → Option Nat} (hV : zk_all2 (zk_ok P) V N) {q : zk_S} {f : zk_F} (h : zk_fita V q f = true) {v : Value} (hv : zk_sv V N q v) : ∃ k, N[q.1]? = some k ∧ zk_ok P f (k + q.2) ∧ v = zk_mk f.1 (k + q.2) ∧ (2 ≤ f.1 → q.2 = 0) := by
  obtain ⟨g, n, h1, h2, h3, h4⟩ := hv
  unfold zk_fita at h
  split at h
  · rename_i hf
    simp only [Bool.and_eq_true, beq_iff_eq] at h
    unfold zk_kd at h
    rw [h1] at h
    have hk : g.1 = 3 := h.1
    obtain ⟨n', e1, e2⟩ := zk_all2_get hV h1
    cases h2.symm.trans e1
    rw [h.2, Int.add_zero] at h4
    refine ⟨n, h2, ?_, by rw [h.2, Int.add_zero, h4, hk, hf], fun _ => h.2⟩
    rw [h.2, Int.add_zero]
    obtain ⟨fk, fr⟩ := f
    obtain ⟨gk, gr⟩ := g
    dsimp only at hf hk
    subst hf; subst hk
    exact e2
  · obtain ⟨y1, y2, y3⟩ := zk_fits_n hV h h1 h2 h3
    exact ⟨n, h2, y1, by rw [h4, y2], y3⟩
theorem zk_args_ok {V : List zk_F} {N : List Int} {P : Nat → Option Nat} (hV : zk_all2 (zk_ok P) V N) : ∀ {qs : List zk_S} {fs : List zk_F} {vs : List Value}, zk_argsb V qs fs = true → zk_all2 (zk_sv V N) qs vs → ∃ ps : List Int, zk_all2 (zk_ok P) fs ps ∧ vs = zk_avs fs ps ∧ zk_all2 (fun (q : zk_S) (n : Int) => ∃ k, N[q.1]? = some k ∧ n = k + q.2) qs ps
  | [], [], [], _, _ => ⟨[], trivial, rfl, trivial⟩
  | q :: qs, f :: fs, v :: vs, h, hv => by
    unfold zk_argsb at h
    rw [Bool.and_eq_true] at h
    obtain ⟨k, e1, e2, e3, -⟩ := zk_fita_ok hV h.1 hv.1
    obtain ⟨ps, g1, g2, g3⟩ := zk_args_ok hV h.2 hv.2
    exact ⟨(k + q.2) :: ps, ⟨e2, g1⟩, by rw [e3, g2]; rfl, ⟨k, e1, rfl⟩, g3⟩
  | [], _ :: _, _, h, _ => by simp [zk_argsb] at h
  | _ :: _, [], _, h, _ => by simp [zk_argsb] at h
  | [], [], _ :: _, _, hv => hv.elim
  | _ :: _, _ :: _, [], _, hv => hv.elim
theorem zk_cap_ok {av : List zk_S} {r : zk_S} {ps : List Int} {rn : Int} {N : List Int} {P : Nat → Option Nat} {F : Nat → va_E} {H : Heap} {locs : List Loc} {ls : Array Slot} (hnum : ∀ j, ∃ k, N[(zk_asr av r j).1]? = some k ∧ zk_num ps rn j = k + (zk_asr av r j).2) : ∀ {cs : List (Nat × Nat × Int)} {κ : zk_C}, zk_G w s u κ N P F H locs ls → (∀ q ∈ cs, zk_num ps rn q.1 ≤ zk_num ps rn q.2.1 + q.2.2) → ∃ κ', zk_cap av r cs κ = some κ' ∧ zk_G w s u κ' N P F H locs ls ∧ zk_le κ.1 N κ'.1 N
  | [], κ, hG, _ => ⟨κ, rfl, hG, zk_le.rf⟩
  | c :: cs, κ, hG, hc => by
    unfold zk_cap
    split
    · rename_i hk
      obtain ⟨k1, e1, e2⟩ := hnum c.1
      obtain ⟨k2, e3, e4⟩ := hnum c.2.1
      have := hc c List.mem_cons_self
      obtain ⟨κ1, z1, z2, z3, -⟩ := zk_asm1_ok (d := c.2.2) hG hk.1 hk.2 e1 e3 (by omega)
      rw [z1]
      obtain ⟨κ2, y1, y2, y3⟩ := zk_cap_ok hnum z2 (fun q hq => hc q (List.mem_cons_of_mem _ hq))
      exact ⟨κ2, y1, y2, z3.trans y3⟩
    · exact zk_cap_ok hnum hG (fun q hq => hc q (List.mem_cons_of_mem _ hq))
/-- what is known goes over a call -/
theorem zk_aft_ok {κ : zk_C} {N : List Int} {P P' : Nat → Option Nat} {F F' : Nat → va_E} {H H' : Heap} {locs L : List Loc} {ls : Array Slot} (hG : zk_G w s u κ N P F H locs ls) {K : zk_K} {av : List zk_S} {ps : List Int} (hav : zk_all2 (fun (q : zk_S) (n : Int) => ∃ k, N[q.1]? = some k ∧ n = k + q.2) av ps)
    (hwt : zk_wt w s P' F' H') (hext : ∀ a y, P a = some y → P' a = some y) (hef : zk_ef (zk_Ke K) ps P F F') (hsz : H.size ≤ H'.size) (hb : ∀ q, q < H.size → q < w.2.2.2.1 → H'[q]? = H[q]?) (hun : ∀ q, q < H.size → P q = none → ¬ (zk_Kk K = 2 ∧ ps[0]? = some (q : Int)) → P' q = none ∧ H'[q]? = H[q]?) (hth : zk_Kk K = 2 → ∀ (n : Nat) (f : zk_F), ps[0]? = some (n : Int) → (zk_Kp K)[0]? = some f → P' n = some f.2.1) (hL : ∀ q ∈ L, w.2.2.2.1 ≤ q.base)
    (he : (zk_Ke K).all (fun e => if e.2.2 = 0 then u.2.2.2.1.any (fun q => q.1 == e.1 && zk_cov q.2.1 e.2.1 && q.2.2 == 0) else (match av[e.2.2 - 1]? with
          | some q => q.2 == 0 && zk_mayb u.2.2.2.1 κ e.1 e.2.1 q.1
          | none => false)) = true)
    (hc : zk_Kk K = 2 → ∃ (z : Nat × Nat × List zk_S) (r : List (Nat × Nat × List zk_S)) (q : zk_S) (qs : List zk_S) (f : zk_F), κ.2.2.2.1 = z :: r ∧ av = q :: qs ∧ q.1 = z.1 ∧ q.2 = 0 ∧ (zk_Kp K)[0]? = some f ∧ zk_kd κ.1 q = 3) :
    zk_G w s u (zk_aft K av κ) N P' F' H' (locs ++ L) ls ∧ zk_le κ.1 N (zk_aft K av κ).1 N := by
  obtain ⟨h1, h2, h3, h4, h5, h6, h7, h8, h9, h10, h11, h12, h13⟩ := hG
  have hV' : zk_all2 (zk_ok P') κ.1 N := zk_all2_imp (fun f n q => q.ext hext) h1
  have hfa : zk_fa κ.1 N P' F' (κ.2.2.1.filter (fun z => (zk_Ke K).all (fun e => zk_keep κ.1 e.1 (zk_er e.2.1).1 (zk_er e.2.1).2 z))) := by
    intro z hz
    obtain ⟨z1, z2⟩ := List.mem_filter.mp hz
    obtain ⟨n, t', v, g1, g2, g3, g4, g5⟩ := h3 z z1
    refine ⟨n, t', v, g1, g2, hext _ _ g3, ?_, g5⟩
    rw [(hef n.toNat t' g3).rd ?_]
    · exact g4
    · rintro ⟨e, e1, e2, e3, -⟩
      have e4 := List.all_eq_true.mp z2 e e1
      unfold zk_keep at e4
      unfold zk_pm at e3
      simp only [Bool.or_eq_true, decide_eq_true_eq] at e4
      rcases e4 with e5 | e5
      · omega
      · obtain ⟨f, f1, f2⟩ := zk_all2_getR h1 g1
        rw [f1] at e5
        simp only [Bool.and_eq_true, beq_iff_eq, bne_iff_ne] at e5
        obtain ⟨fk, ft, fl, fh⟩ := f
        obtain ⟨rfl, e6⟩ := e5
        have f2 : _ ∧ _ ∧ _ ∧ (0 ≤ n → P n.toNat = some ft) := f2
        have := f2.2.2.2 g2
        rw [g3] at this
        cases this
        exact e6 e2.symm
  have hef2 : zk_ef u.2.2.2.1 u.2.2.1 u.1 u.2.1 F' := by
    intro a t ha
    have hp := h7 a t ha
    refine (h8 a t ha).trans ((hef a t hp).mono (fun k hk => ?_))
    obtain ⟨e, e1, e2, e3, e4⟩ := hk
    have e5 := List.all_eq_true.mp he e e1
    try dsimp only at e5
    rcases e4 with e4 | e4
    · rw [if_pos e4] at e5
      obtain ⟨q, q1, q2⟩ := List.any_eq_true.mp e5
      simp only [Bool.and_eq_true, beq_iff_eq] at q2
      exact ⟨q, q1, by rw [q2.1.1, e2], zk_cov_ok q2.1.2 e3, Or.inl q2.2⟩
    · by_cases e0 : e.2.2 = 0
      · rw [if_pos e0] at e5
        obtain ⟨q, q1, q2⟩ := List.any_eq_true.mp e5
        simp only [Bool.and_eq_true, beq_iff_eq] at q2
        exact ⟨q, q1, by rw [q2.1.1, e2], zk_cov_ok q2.1.2 e3, Or.inl q2.2⟩
      · rw [if_neg e0] at e5
        obtain ⟨q, q1, k', q2, q3⟩ := zk_all2_getR hav e4
        rw [q1] at e5
        simp only [Bool.and_eq_true, beq_iff_eq] at e5
        rw [e5.1, Int.add_zero] at q3
        rcases zk_mayb_ok e5.2 h10 h11 q2 (by omega) with q4 | q4
        · rw [← q3, Int.toNat_natCast, ha] at q4
          cases q4
        · rw [← q3, Int.toNat_natCast, e2] at q4
          exact q4 k e3
  have hS9 : va_S (fun q => w.2.2.2.1 ≤ q) s.heap H' (locs ++ L) := by
    refine ⟨Nat.le_trans h9.1 hsz, fun q g1 g2 => ?_, fun q hq => ?_⟩
    · rw [hb q (Nat.lt_of_lt_of_le g1 h9.1) (Nat.not_le.mp g2)]
      exact h9.2.1 q g1 g2
    · rcases List.mem_append.mp hq with g | g
      · exact h9.2.2 q g
      · exact hL q g
  unfold zk_aft
  by_cases hk : zk_Kk K = 2
  · obtain ⟨z, r, q, qs, f, c1, c2, c3, c4, c5, c6⟩ := hc hk
    simp only [hk, if_true]
    rw [c1, c2]
    rw [c1] at h4
    obtain ⟨n, fs, r1, r2, r3, r4, r5, r6, r7⟩ := h4
    have hps0 : ps[0]? = some (n : Int) := by
      rw [c2] at hav
      obtain ⟨p0, p1, p2⟩ := zk_all2_get hav (i := 0) (a := q) rfl
      obtain ⟨k', k1, k2⟩ := p2
      rw [c3, r1] at k1
      cases k1
      rw [p1, k2, c4, Int.add_zero]
    have hPn := hth hk n f hps0 c5
    have e0 : ((zk_Kp K).getD 0 (0, 0, 0, 0)) = f := by rw [List.getD_eq_getElem?_getD, c5]; rfl
    have e1 : (q :: qs : List zk_S).getD 0 (0, 0) = q := rfl
    rw [e0, e1]
    obtain ⟨g, gg1, gg2⟩ := zk_all2_getR h1 (show N[q.1]? = some (n : Int) by rw [c3]; exact r1)
    have hg3 : g.1 = 3 := by
      unfold zk_kd at c6
      rw [gg1] at c6
      exact c6
    have hle : zk_le κ.1 N (κ.1.set q.1 (2, f.2.1, 0, 0)) N := zk_le.set gg1 (Or.inr ⟨Nat.le_refl _, by omega⟩)
    have hV2 : zk_all2 (zk_ok P') (κ.1.set q.1 (2, f.2.1, 0, 0)) N := by
      refine zk_all2_setL hV' (fun k hk' => ?_)
      rw [c3, r1] at hk'
      cases hk'
      exact ⟨Int.natCast_nonneg _, by show (-1 : Int) ≤ _; omega, fun h => absurd h (show ¬ (0 : Int) < 0 by decide), fun _ => by rw [Int.toNat_natCast]; exact hPn⟩
    refine ⟨⟨hV2, h2, fun z hz => (hfa z hz).le hle, ?_, hwt, h6.le hle, fun a y ha => hext a y (h7 a y ha), hef2, hS9, h10, h11, h12, fun q' g1 g2 => ?_⟩, hle⟩
    · show zk_rw w _ _ N P' H' r H'.size
      refine (zk_rw.mono (b := n) (by omega) (r7.kept (fun k hk' hpn => hun k (by omega) hpn ?_))).le hle
      rintro ⟨-, h⟩
      rw [hps0] at h
      cases h
      omega
    · obtain ⟨y1, y2⟩ := h13 q' g1 g2
      have hne : ¬ (zk_Kk K = 2 ∧ ps[0]? = some (q' : Int)) := by
        rintro ⟨-, h⟩
        rw [hps0] at h
        have : n = q' := by cases h; omega
        subst this
        exact r3.2 ⟨g1, g2⟩
      obtain ⟨y3, y4⟩ := hun q' (Nat.lt_of_lt_of_le g1 h9.1) y1 hne
      exact ⟨y3, y4.trans y2⟩
  · simp only [hk, if_false]
    refine ⟨⟨hV', h2, hfa, ?_, hwt, h6, fun a y ha => hext a y (h7 a y ha), hef2, hS9, h10, h11, h12, fun q' g1 g2 => ?_⟩, zk_le.rf⟩
    · exact zk_rw.mono hsz (h4.kept (fun k hk' hpn => hun k hk' hpn (fun h => hk h.1)))
    · obtain ⟨y1, y2⟩ := h13 q' g1 g2
      obtain ⟨y3, y4⟩ := hun q' (Nat.lt_of_lt_of_le g1 h9.1) y1 (fun h => hk h.1)
      exact ⟨y3, y4.trans y2⟩
end ZK17
