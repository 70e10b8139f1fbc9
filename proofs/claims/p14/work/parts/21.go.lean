/-! part 21: the run that is looked through holds -/
/-- all that a method's run needs from outside -/
noncomputable def zk_ctx (l : Launch) (R : Room) (s : State) (m : MethodId) (args : Array Value) (meth : Method) (c : Code) (w : zk_W) (u : zk_M) (Ts : List Jvm.Cond) (own : String) (TB : List Jvm.Cond) (mn : Nat → MethodName) (E : zk_Ev) : Prop :=
  (c.maxLocals = u.2.2.2.2.2.1 ∧ (zk_ev E).2.2.1 = u.2.2.2.2.2.1 ∧ u.2.2.2.1 = zk_Ke (zk_ev E)) ∧ (∀ x ∈ Ts, x.before args s = true) ∧ zk_cls w Ts ∧ s.vm.findClass own = some m.cls ∧ va_K w.2.2.1 w.2.1 [] s ∧ w.1 = E.1 ∧ w.2.2.2.1 ≤ s.heap.size ∧ (∀ q ∈ E.2.1, zk_lkok w s args own q) ∧ zk_dvok w E.2.2.1 ∧ (zk_Kk (zk_ev E) = 2 → meth.name = "<init>") ∧ ((zk_Kr (zk_ev E)).1 ≤ R.frames ∧ (zk_Kr (zk_ev E)).2.1 ≤ R.locals ∧ (zk_Kr (zk_ev E)).2.2.1 ≤ R.cells ∧ (zk_Kr (zk_ev E)).2.2.2 ≤ R.slots) ∧ GoodIn Ts TB ∧ (∀ (j : Nat) (K : zk_K), E.2.2.2.1[j]? = some K → zk_met l w E.2.2.1 TB K ∧ zk_cok w TB K) ∧ (∀ (j : Nat) (K : zk_K) (k : Nat), E.2.2.2.1[j]? = some K → E.2.2.2.2.1[j]? = some k → K.1 = mn k) ∧ (∀ q ∈ E.2.2.2.2.2.1, zk_lc s args own q.1 q.2.1 (mn q.2.2)) ∧ (meth.locks = false ∧ meth.sig.returnType = (zk_ev E).2.2.2.1 ∧ (zk_Kp (zk_ev E)).length = u.2.2.1.length) ∧ (∀ q, u.1 q = none → ¬ (zk_Kk (zk_ev E) = 2 ∧ u.2.2.1[0]? = some (q : Int)) → u.2.2.2.2.2.2 q) ∧ zk_stab w ∧ w.2.2.2.2.2 s ∧ (∀ t a, w.2.2.2.2.1 t a → u.1 a = some t)
section ZK21
variable {p : Program} {l : Launch} {e : Env} {R : Room} {s : State} {m : MethodId} {args : Array Value} {below : List Frame} {meth : Method} {c : Code} {Q : State → Prop}
variable {cc : ByteArray} {w : zk_W} {u : zk_M} {Ts : List Jvm.Cond} {own : String}
theorem zk_stp_ok (hx : p.tables.exec = Jvm.exec) (hb : c.code = cc) {TB : List Jvm.Cond} {mn : Nat → MethodName} {E : zk_Ev} (hE : zk_ctx l R s m args meth c w u Ts own TB mn E) {nx : Option (ClassFile.Instr × Nat)} {an : Nat} {i : ClassFile.Instr} {len pc : Nat} {κ : zk_C} {st : List zk_S} {cu su : Nat} {outs : List zk_O} (h : zk_stp E nx an i len pc κ st cu su = some outs) (hdg : decode cc pc = .ok (i, len)) (hnx : ∀ z, nx = some z → (i = .lcmp ∨ i = .iaload) → decode cc (pc + 1) = .ok z) (kk : ∀ o ∈ outs, zk_J p l e R s m args below meth c Q w u o.2.1 o.2.2.1 o.2.2.2.1 o.2.2.2.2 o.1) : zk_J p l e R s m args below meth c Q w u κ st cu su pc := by
  obtain ⟨⟨e1, e2, e3⟩, e4, e5, e6, e7, e8, e9, e10, e11, e12, e13, e14, e15, e16, e17, -, -, y1, y2, y3⟩ := hE
  unfold zk_stp at h
  rw [e2, ← e3] at h
  split at h
  · rename_i o ho
    cases h
    exact zk_s11_ok hx hb e8 ho hdg hnx (kk o (List.mem_singleton.mpr rfl))
  · split at h
    · rename_i o ho
      cases h
      exact zk_s1_ok hx hb ho hdg (kk o (List.mem_singleton.mpr rfl))
    · split at h
      · rename_i o ho
        cases h
        exact zk_s2_ok hx hb ho hdg (fun z h1 h2 => hnx z h1 (Or.inl h2)) kk
      · split at h
        · rename_i o ho
          cases h
          exact zk_s4_ok hx hb e1 e6 e10 e13 ho hdg (kk o (List.mem_singleton.mpr rfl))
        · split at h
          · rename_i o ho
            cases h
            exact zk_s5_ok hx hb e4 e5 e6 e7 e8 e9 e10 e11 (fun q => e12 (by simpa using q)) e13 ho hdg (kk o (List.mem_singleton.mpr rfl))
          · split at h
            · rename_i o ho
              cases h
              exact zk_s6_ok hx hb e1 e6 e8 e10 e13 ho hdg (kk o (List.mem_singleton.mpr rfl))
            · split at h
              · rename_i o ho
                cases h
                exact zk_s8_ok hx hb e6 y3 e10 ho hdg (kk o (List.mem_singleton.mpr rfl))
              · split at h
                · rename_i o ho
                  cases h
                  exact zk_s9_ok hx hb e7 e8 ho hdg (kk o (List.mem_singleton.mpr rfl))
                · split at h
                  · rename_i o ho
                    cases h
                    exact zk_s10_ok hx hb ho hdg (kk o (List.mem_singleton.mpr rfl))
                  · exact zk_s7_ok hx hb y1 y2 y3 e1 e4 e6 e7 e8 e9 e14 e15 e16 e17 e13 h hdg kk
/-- where a marked place is come to: it holds there, where the measure fell -/
noncomputable def zk_arr (p : Program) (l : Launch) (e : Env) (R : Room) (s : State) (m : MethodId) (args : Array Value) (below : List Frame) (meth : Method) (c : Code) (Q : State → Prop) (w : zk_W) (u : zk_M) (M0 : Option zk_Lf) (A : zk_An) : Prop := ∀ N' : List Int, N'.length = A.2.1.1.length → (∀ M, M0 = some M → A.2.2.2.2.2.1 + zk_lev N' A.2.2.2.2.2.2 + 1 ≤ M.1 + zk_lev u.2.2.2.2.1 M.2) → zk_J p l e R s m args below meth c Q w (u.1, u.2.1, u.2.2.1, u.2.2.2.1, N', u.2.2.2.2.2) A.2.1 A.2.2.1 A.2.2.2.1 A.2.2.2.2.1 A.1
theorem zk_go_ok (hx : p.tables.exec = Jvm.exec) (hb : c.code = cc) {TB : List Jvm.Cond} {mn : Nat → MethodName} {E : zk_Ev} (hE : zk_ctx l R s m args meth c w u Ts own TB mn E)
    (hQ : Q = MQ below (fun _ st o t => zk_post w (zk_ev E) u.1 u.2.1 u.2.2.1 st t o) args s (zk_Kr (zk_ev E)).2.2.1 (zk_Kr (zk_ev E)).2.2.2 (fun q => w.2.2.2.1 ≤ q) ∨ zk_Ka (zk_ev E) = []) {CL : List zk_Ci} (hCL : ∀ q ∈ CL, decode cc q.1 = .ok (q.2.1, q.2.2.1)) {AN : List zk_An} {M0 : Option zk_Lf} (hM : ∀ M, M0 = some M → M.2.all (fun t => decide (t.2 < u.2.2.2.2.1.length)) = true) (hAN : ∀ A ∈ AN, zk_arr p l e R s m args below meth c Q w u M0 A) : ∀ {fuel pc : Nat} {κ : zk_C} {st : List zk_S} {cu su : Nat}, zk_go E CL AN M0 fuel pc κ st cu su = true → zk_J p l e R s m args below meth c Q w u κ st cu su pc
  | 0, _, _, _, _, _, h => by simp [zk_go] at h
  | fuel + 1, pc, κ, st, cu, su, h => by
    unfold zk_go at h
    split at h
    · cases h
    · rename_i row hrow
      have hmem := List.mem_of_find?_eq_some hrow
      have hpc := List.find?_some hrow
      have hpc : row.1 = pc := by simpa using hpc
      have hdg := hCL row hmem
      rw [hpc] at hdg
      split at h
      · cases h
      · rename_i ks hks
        intro N P F H locs ls sv hG hS
        obtain ⟨κ', k1, k2, k3⟩ := zk_spl_ok hG hS hks
        have h := List.all_eq_true.mp h κ' k1
        split at h
        · obtain ⟨⟨e1, e2, e3⟩, e4, e5, e6, e7, e8, e9, e10, e11, e12, e13, e14, e15, e16, e17, ⟨e18, e19, e20⟩, e21, -⟩ := hE
          rcases hQ with hQ | hQ
          · exact zk_ret_ok hx hb e8 e7 e18 e19 e3 e20 e21 hQ h hdg N P F H locs ls sv k2 k3
          · exfalso
            unfold zk_ret at h
            rw [hQ] at h
            simp only [List.any_nil, Bool.false_and, Bool.and_eq_true] at h
            have h := h.2
            split at h <;> cases h
        · split at h
          · cases h
          · rename_i outs houts
            obtain ⟨an', -, houts⟩ := List.exists_of_findSome?_eq_some houts
            have hnx : ∀ z, (CL.find? (fun q => q.1 == pc + 1)).map (fun q => (q.2.1, q.2.2.1)) = some z → (row.2.1 = .lcmp ∨ row.2.1 = .iaload) → decode cc (pc + 1) = .ok z := by
              intro z hz _
              obtain ⟨r2, y1, y2⟩ := Option.map_eq_some_iff.mp hz
              have y3 := hCL r2 (List.mem_of_find?_eq_some y1)
              have y4 := List.find?_some y1
              have y4 : r2.1 = pc + 1 := by simpa using y4
              rw [y4] at y3
              rw [y3, ← y2]
            refine zk_stp_ok hx hb hE houts hdg hnx (fun o ho => ?_) N P F H locs ls sv k2 k3
            have h := List.all_eq_true.mp h o ho
            rcases Bool.or_eq_true _ _ ▸ h with h | h
            · obtain ⟨A, hA, h⟩ := List.any_eq_true.mp h
              rw [Bool.and_eq_true, Bool.and_eq_true, beq_iff_eq] at h
              obtain ⟨hA1, h⟩ := h
              intro N2 P2 F2 H2 locs2 ls2 sv2 hG2 hS2
              obtain ⟨g1, g2, g3, g4, g5⟩ := zk_mt_ok hG2 hS2 h.1
              rw [← hA1]
              refine W.widen g3 g4 ?_
              refine hAN A hA _ (by rw [List.length_map]; exact g5) (fun M hMe => ?_) _ P2 F2 H2 locs2 ls2 sv2 g1 g2
              have hv : zk_vfits o.2.1.1 (zk_thv o.2.1 o.2.2.1 A A.2.1.1.length) A.2.1.1 = true := by
                have := h.1
                unfold zk_mt at this
                simp only [Bool.and_eq_true] at this
                exact this.1.1.1.1.1.1.1.1.1
              have hf := h.2
              rw [hMe] at hf
              have := zk_fall_ok hG2 hv hf
              rw [zk_lev_pre hG2.2.2.2.2.2.2.2.2.2.2.2.1 (hM M hMe)] at this
              exact this
            · exact zk_go_ok hx hb hE hQ hCL hM hAN h
end ZK21
