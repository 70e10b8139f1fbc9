/-! part 20: a method's whole run is looked through -/
abbrev zk_Ev : Type := List zk_T × List zk_L × List (List zk_S) × List zk_K × List Nat × List (Nat × Nat × Nat) × zk_K
/-- a row of code: pc, instruction, length, a note, a value whose cases are taken one by one -/
abbrev zk_Ci : Type := Nat × ClassFile.Instr × Nat × Nat × List (Nat × Int × Nat)
noncomputable def zk_ev (E : zk_Ev) : zk_K := E.2.2.2.2.2.2
noncomputable def zk_stp (E : zk_Ev) (nx : Option (ClassFile.Instr × Nat)) (an : Nat) (i : ClassFile.Instr) (len pc : Nat) (κ : zk_C) (st : List zk_S) (cu su : Nat) : Option (List zk_O) :=
  match zk_s11 E.1 (zk_Ke (zk_ev E)) an nx i len pc κ st cu su with
  | some o => some [o]
  | none => match zk_s1 (zk_ev E).2.2.1 i len pc κ st cu su with
  | some o => some [o]
  | none => match zk_s2 (an == 1) nx i len pc κ st cu su with
    | some l => some l
    | none => match zk_s4 E.2.1 (zk_Kr (zk_ev E)) i len pc κ st cu su with
      | some o => some [o]
      | none => match zk_s5 E.1 E.2.1 E.2.2.1 (zk_Ke (zk_ev E)) (zk_Kr (zk_ev E)) (zk_Kk (zk_ev E) == 2) an i len pc κ st cu su with
        | some o => some [o]
        | none => match zk_s6 E.1 E.2.1 (zk_Ke (zk_ev E)) (zk_Kr (zk_ev E)) i len pc κ st cu su with
          | some o => some [o]
          | none => match zk_s8 E.2.1 i len pc κ st cu su with
            | some o => some [o]
            | none => match zk_s9 E.1 (zk_Ke (zk_ev E)) i len pc κ st cu su with
              | some o => some [o]
              | none => match zk_s10 (zk_ev E).2.2.1 i len pc κ st cu su with
                | some o => some [o]
                | none => zk_s7 E.1 E.2.2.1 E.2.2.2.1 E.2.2.2.2.1 E.2.2.2.2.2.1 (zk_Ke (zk_ev E)) (zk_Kr (zk_ev E)) an i len pc κ st cu su
/-- what the differences tell of the bounds -/
noncomputable def zk_red1 (d : Nat × Nat × Int) (V : List zk_F) : List zk_F := match V[d.1]?, V[d.2.1]? with
  | some f, some g => if f.1 < 2 ∧ g.1 < 2 ∧ d.1 ≠ d.2.1 then (V.set d.1 (f.1, f.2.1, f.2.2.1, min f.2.2.2 (g.2.2.2 + d.2.2))).set d.2.1 (g.1, g.2.1, max g.2.2.1 (f.2.2.1 - d.2.2), g.2.2.2) else V
  | _, _ => V
noncomputable def zk_redV : List (Nat × Nat × Int) → List zk_F → List zk_F
  | [], V => V
  | d :: D, V => zk_redV D (zk_red1 d V)
/-- a row's last entries: (place on the stack, first, how many): the cases one by one; (_, _, 0): the bounds are looked through; (k, _, 1001): k is another note that may be taken -/
noncomputable def zk_spl (κ : zk_C) (st : List zk_S) (sp : List (Nat × Int × Nat)) : Option (List zk_C) := match sp.find? (fun p => p.2.2 != 1001) with
  | none => some [κ]
  | some p => if p.2.2 = 0 then some [(zk_redV κ.2.1 κ.1, κ.2)] else match st[p.1]? with
    | some q => if zk_kd κ.1 q = 0 ∧ κ.1[0]? = some (0, 0, 0, 0) ∧ p.2.1 ≤ zk_lw κ.1 q ∧ zk_hg κ.1 q < p.2.1 + p.2.2 then some ((List.range p.2.2).flatMap (fun (i : Nat) => zk_asm κ .eq q (0, p.2.1 + (i : Int)) false)) else none
    | none => none
noncomputable def zk_als (an : Nat) (sp : List (Nat × Int × Nat)) : List Nat := an :: (sp.filter (fun p => p.2.2 == 1001)).map (fun p => p.1)
noncomputable def zk_stpA (E : zk_Ev) (nx : Option (ClassFile.Instr × Nat)) (sp : List (Nat × Int × Nat)) (an : Nat) (i : ClassFile.Instr) (len pc : Nat) (κ : zk_C) (st : List zk_S) (cu su : Nat) : Option (List zk_O) := (zk_als an sp).findSome? (fun a => zk_stp E nx a i len pc κ st cu su)
noncomputable def zk_isr (i : ClassFile.Instr) : Bool := match i with
  | .return_ => true
  | .ireturn => true
  | .lreturn => true
  | .areturn => true
  | _ => false
noncomputable def zk_rp (κ : zk_C) (q : zk_S) (np j : Nat) : Option zk_S := if j = 99 then some (0, 0) else if j = np then some q else (κ.2.2.2.2.2.1.find? (fun z => z.1 == j)).map (fun z => (z.2, 0))
noncomputable def zk_rcs (κ : zk_C) (q : zk_S) (np : Nat) (cs : List (Nat × Nat × Int)) : Bool := cs.all (fun c => match zk_rp κ q np c.1, zk_rp κ q np c.2.1 with
  | some a, some b => zk_leb κ a b c.2.2
  | _, _ => false)
noncomputable def zk_rfit (V : List zk_F) : List zk_S → List zk_F → Bool
  | [], [] => true
  | q :: qs, f :: fs => zk_fits V q f && zk_rfit V qs fs
  | _, _ => false
/-- what bounds: a number, or an array's length -/
noncomputable def zk_szq (ty : List zk_T) (κ : zk_C) (q : zk_S) : Option zk_S := if zk_kd κ.1 q = 0 then some q else match zk_typ ty κ q with
  | some (_, T) => if (T.1 = 1 ∨ T.1 = 2 ∨ T.1 = 3 ∨ T.1 = 4) ∧ T.2.2.1 ≤ 2147483647 then (match zk_fnd κ q.1 1000 with
    | some r => if zk_kd κ.1 r = 0 then some r else none
    | none => none) else none
  | none => none
noncomputable def zk_rcr (ty : List zk_T) (κ : zk_C) (t : Nat) (fs : List zk_S) : Bool := zk_rel.all (fun r => r.1 != t || (match fs[r.2.1]?, fs[r.2.2]? with
  | some a, some b => (match zk_szq ty κ a, zk_szq ty κ b with
    | some x, some y => zk_leb κ x y 0
    | _, _ => false)
  | _, _ => false))
/-- a constructor's end: the object is as its type says -/
noncomputable def zk_rct (ty : List zk_T) (K : zk_K) (κ : zk_C) : Bool := if zk_Kk K = 2 then (match κ.2.2.2.1, (zk_Kp K)[0]? with
  | [z], some f => κ.2.2.2.2.2.1.contains (0, z.1) && (match ty[f.2.1]? with
    | some T => T.1 == 0 && T.2.1 == z.2.1 && zk_rfit κ.1 z.2.2 T.2.2.2 && zk_rcr ty κ f.2.1 z.2.2
    | none => false)
  | _, _ => false) else true
noncomputable def zk_rkd (r : Option FieldType) (i : ClassFile.Instr) : Option (Option Nat) := match r, i with
  | none, .return_ => some none
  | some .int, .ireturn => some (some 0)
  | some .boolean, .ireturn => some (some 0)
  | some .long, .lreturn => some (some 1)
  | some (.object _), .areturn => some (some 2)
  | some (.array _), .areturn => some (some 2)
  | _, _ => none
noncomputable def zk_ral (K : zk_K) (κ : zk_C) (k : Option Nat) (st : List zk_S) (al : zk_A) : Bool := match k, st, al.1 with
  | none, [], none => zk_rcs κ (0, 0) (zk_Kp K).length al.2
  | some k, [q], some f => f.1 == k && zk_fits κ.1 q f && zk_rcs κ q (zk_Kp K).length al.2
  | _, _, _ => false
noncomputable def zk_ret (ty : List zk_T) (K : zk_K) (i : ClassFile.Instr) (len : Nat) (κ : zk_C) (st : List zk_S) (cu su : Nat) : Bool :=
  len == 1 && decide (cu ≤ (zk_Kr K).2.2.1) && decide (su ≤ (zk_Kr K).2.2.2) && decide (κ.1[0]? = some (0, 0, 0, 0)) && zk_rct ty K κ
  && (match zk_rkd K.2.2.2.1 i with
    | some k => (zk_Ka K).any (zk_ral K κ k st) && (if K.2.2.2.1 = some .boolean then (match st with
      | [q] => decide (0 ≤ zk_lw κ.1 q) && decide (zk_hg κ.1 q ≤ 1)
      | _ => false) else true)
    | none => false)
noncomputable def zk_go (E : zk_Ev) (CL : List zk_Ci) (AN : List zk_An) (M0 : Option zk_Lf) : Nat → Nat → zk_C → List zk_S → Nat → Nat → Bool
  | 0, _, _, _, _, _ => false
  | fuel + 1, pc, κ, st, cu, su => match CL.find? (fun q => q.1 == pc) with
    | none => false
    | some row => match zk_spl κ st row.2.2.2.2 with
      | none => false
      | some ks => ks.all (fun κ' => if zk_isr row.2.1 then zk_ret E.1 (zk_ev E) row.2.1 row.2.2.1 κ' st cu su else match zk_stpA E ((CL.find? (fun q => q.1 == pc + 1)).map (fun q => (q.2.1, q.2.2.1))) row.2.2.2.2 row.2.2.2.1 row.2.1 row.2.2.1 pc κ' st cu su with
        | none => false
        | some outs => outs.all (fun o => AN.any (fun A => A.1 == o.1 && (zk_mt o.2.1 o.2.2.1 o.2.2.2.1 o.2.2.2.2 A (zk_thv o.2.1 o.2.2.1 A A.2.1.1.length) && zk_fall o.2.1 M0 A (zk_thv o.2.1 o.2.2.1 A A.2.1.1.length)))
          || zk_go E CL AN M0 fuel o.1 o.2.1 o.2.2.1 o.2.2.2.1 o.2.2.2.2))
section ZK20
variable {p : Program} {l : Launch} {e : Env} {R : Room} {s : State} {m : MethodId} {args : Array Value} {below : List Frame} {meth : Method} {c : Code} {Q : State → Prop}
variable {cc : ByteArray} {w : zk_W} {u : zk_M} {Ts : List Jvm.Cond} {own : String}
theorem zk_rfit_ok {V : List zk_F} {N : List Int} {P : Nat → Option Nat} (hV : zk_all2 (zk_ok P) V N) : ∀ {qs : List zk_S} {fs : List zk_F} {vs : List Value}, zk_rfit V qs fs = true → zk_all2 (zk_sv V N) qs vs → zk_all2 (zk_fv P) fs vs
  | [], [], [], _, _ => trivial
  | q :: qs, f :: fs, v :: vs, h, hv => by
    unfold zk_rfit at h
    rw [Bool.and_eq_true] at h
    exact ⟨zk_fits_ok hV h.1 hv.1, zk_rfit_ok hV h.2 hv.2⟩
  | [], _ :: _, _, h, _ => by simp [zk_rfit] at h
  | _ :: _, [], _, h, _ => by simp [zk_rfit] at h
  | [], [], _ :: _, _, hv => hv.elim
  | _ :: _, _ :: _, [], _, hv => hv.elim
theorem zk_ok_hi {P : Nat → Option Nat} {f : zk_F} {n b : Int} (hk : f.1 < 2) (h : zk_ok P f n) (hb : n ≤ b) : zk_ok P (f.1, f.2.1, f.2.2.1, min f.2.2.2 b) n := by
  obtain ⟨k, t, lo, hi⟩ := f
  match k, hk, h with
  | 0, _, h => exact ⟨h.1, by have := h.2.1; dsimp only at this ⊢; omega, h.2.2⟩
  | 1, _, h => exact ⟨h.1, by have := h.2.1; dsimp only at this ⊢; omega, h.2.2⟩
theorem zk_ok_lo {P : Nat → Option Nat} {f : zk_F} {n b : Int} (hk : f.1 < 2) (h : zk_ok P f n) (hb : b ≤ n) : zk_ok P (f.1, f.2.1, max f.2.2.1 b, f.2.2.2) n := by
  obtain ⟨k, t, lo, hi⟩ := f
  match k, hk, h with
  | 0, _, h => exact ⟨by have := h.1; dsimp only at this ⊢; omega, h.2.1, h.2.2⟩
  | 1, _, h => exact ⟨by have := h.1; dsimp only at this ⊢; omega, h.2.1, h.2.2⟩
theorem zk_red1_ok {κ : zk_C} {N : List Int} {P : Nat → Option Nat} {F : Nat → va_E} {H : Heap} {locs : List Loc} {ls : Array Slot} (hG : zk_G w s u κ N P F H locs ls) {d : Nat × Nat × Int} (hd : ∃ n k, N[d.1]? = some n ∧ N[d.2.1]? = some k ∧ n ≤ k + d.2.2) : zk_G w s u (zk_red1 d κ.1, κ.2) N P F H locs ls ∧ zk_le κ.1 N (zk_red1 d κ.1) N := by
  obtain ⟨n, k, h1, h2, h3⟩ := hd
  unfold zk_red1
  split
  · rename_i f g hf hg
    split
    · rename_i hc
      obtain ⟨c1, c2, c3⟩ := hc
      obtain ⟨n', e1, e2⟩ := zk_all2_get hG.1 hf
      cases h1.symm.trans e1
      obtain ⟨k', e3, e4⟩ := zk_all2_get hG.1 hg
      cases h2.symm.trans e3
      have b1 := e2.iv c1
      have b2 := e4.iv c2
      have g1 := hG.set (f' := (f.1, f.2.1, f.2.2.1, min f.2.2.2 (g.2.2.2 + d.2.2))) hf (Or.inl rfl) (fun m hm hok => zk_ok_hi c1 hok (by rw [h1] at hm; cases hm; omega))
      have hg' : (κ.1.set d.1 (f.1, f.2.1, f.2.2.1, min f.2.2.2 (g.2.2.2 + d.2.2)))[d.2.1]? = some g := by rw [List.getElem?_set_ne c3]; exact hg
      have g2 := g1.set (f' := (g.1, g.2.1, max g.2.2.1 (f.2.2.1 - d.2.2), g.2.2.2)) hg' (Or.inl rfl) (fun m hm hok => zk_ok_lo c2 hok (by rw [h2] at hm; cases hm; omega))
      exact ⟨g2, (zk_le.set (f' := (f.1, f.2.1, f.2.2.1, min f.2.2.2 (g.2.2.2 + d.2.2))) hf (Or.inl rfl)).trans (zk_le.set (f' := (g.1, g.2.1, max g.2.2.1 (f.2.2.1 - d.2.2), g.2.2.2)) hg' (Or.inl rfl))⟩
    · exact ⟨hG, zk_le.rf⟩
  · exact ⟨hG, zk_le.rf⟩
theorem zk_redV_ok {N : List Int} {P : Nat → Option Nat} {F : Nat → va_E} {H : Heap} {locs : List Loc} {ls : Array Slot} : ∀ {D : List (Nat × Nat × Int)} {κ : zk_C}, zk_df N D → zk_G w s u κ N P F H locs ls → zk_G w s u (zk_redV D κ.1, κ.2) N P F H locs ls ∧ zk_le κ.1 N (zk_redV D κ.1) N
  | [], κ, _, hG => ⟨hG, zk_le.rf⟩
  | d :: D, κ, hD, hG => by
    obtain ⟨g1, g2⟩ := zk_red1_ok hG (hD d List.mem_cons_self)
    obtain ⟨g3, g4⟩ := zk_redV_ok (D := D) (fun q hq => hD q (List.mem_cons_of_mem _ hq)) g1
    exact ⟨g3, g2.trans g4⟩
theorem zk_spl_ok {κ : zk_C} {N : List Int} {P : Nat → Option Nat} {F : Nat → va_E} {H : Heap} {locs : List Loc} {ls : Array Slot} (hG : zk_G w s u κ N P F H locs ls) {st : List zk_S} {sv : List Value} (hS : zk_all2 (zk_sv κ.1 N) st sv) {sp : List (Nat × Int × Nat)} {ks : List zk_C} (h : zk_spl κ st sp = some ks) : ∃ κ' ∈ ks, zk_G w s u κ' N P F H locs ls ∧ zk_all2 (zk_sv κ'.1 N) st sv := by
  unfold zk_spl at h
  split at h
  · cases h
    exact ⟨κ, List.mem_singleton.mpr rfl, hG, hS⟩
  · rename_i p hp
    split at h
    · cases h
      obtain ⟨g1, g2⟩ := zk_redV_ok hG.2.1 hG
      exact ⟨_, List.mem_singleton.mpr rfl, g1, zk_sv_mono g2 hS⟩
    · split at h
      · rename_i q hq
        split at h
        · rename_i hc
          obtain ⟨c1, c2, c3, c4⟩ := hc
          cases h
          obtain ⟨v, e1, e2⟩ := zk_all2_get hS hq
          obtain ⟨n, rfl, rn, ln, hn, k, nk, en⟩ := e2.int hG.1 c1
          have n0 := zk_c0 hG.1 c2
          have k0 : zk_kd κ.1 ((0, p.2.1 + ((n - p.2.1).toNat : Nat)) : zk_S) = 0 := by unfold zk_kd; rw [c2]
          obtain ⟨κ', m1, m2, m3⟩ := zk_asm_ok (k := .eq) (r := (0, p.2.1 + ((n - p.2.1).toNat : Nat))) (sp := false) hG (c1.trans k0.symm) (by omega) nk n0 (by show k + q.2 = 0 + (p.2.1 + ((n - p.2.1).toNat : Nat)); omega)
          exact ⟨κ', List.mem_flatMap.mpr ⟨(n - p.2.1).toNat, List.mem_range.mpr (by omega), m1⟩, m2, zk_sv_mono m3 hS⟩
        · cases h
      · cases h
theorem zk_szq_ok {ty : List zk_T} (hw : w.1 = ty) {κ : zk_C} {N : List Int} {P : Nat → Option Nat} {F : Nat → va_E} {H : Heap} {locs : List Loc} {ls : Array Slot} (hG : zk_G w s u κ N P F H locs ls) {q x : zk_S} (h : zk_szq ty κ q = some x) {v : Value} (hv : zk_sv κ.1 N q v) : ∃ k, N[x.1]? = some k ∧ zk_sz P F v (k + x.2) := by
  unfold zk_szq at h
  split at h
  · rename_i hk
    cases h
    obtain ⟨i, e1, e2, e3, e4, k, e5, e6⟩ := hv.int hG.1 hk
    refine ⟨k, e5, ?_⟩
    rw [e1, ← e6]
    exact zk_i32 e2
  · split at h
    · rename_i t T hT
      split at h
      · rename_i hc
        split at h
        · rename_i r hr
          split at h
          · rename_i hk
            cases h
            obtain ⟨a, rfl, hna, hp, hwT⟩ := zk_typ_ok hw hG.1 hT hv
            obtain ⟨cA, y, fty, o1, o2, o3, o4, o5⟩ := zk_aarr hG.2.2.2.2.1 hp hwT hc.1
            obtain ⟨v', g1, g2⟩ := zk_fnd_ok hG.2.2.1 hr hna
            obtain ⟨j, f1, f2, f3, f4, k', f5, f6⟩ := g2.int hG.1 hk
            rw [o1] at g1
            have g1 : some (Value.int (Int32.ofNat y.1)) = some v' := g1
            cases g1
            have f1 := Value.int.inj f1
            have hy : y.1 ≤ 2147483647 := Nat.le_trans o3 hc.2
            rw [zk_n32 hy, zk_eq32 (by constructor <;> omega) f2] at f1
            exact ⟨k', f5, ⟨t, hp⟩, cA, y, o1, by omega, hy⟩
          · cases h
        · cases h
      · cases h
    · cases h
theorem zk_rcr_ok {κ : zk_C} {N : List Int} {P : Nat → Option Nat} {F : Nat → va_E} {H : Heap} {locs : List Loc} {ls : Array Slot} (hG : zk_G w s u κ N P F H locs ls) {ty : List zk_T} (hw : w.1 = ty) {t ci n : Nat} {qs : List zk_S} {fs : List Value} (h : zk_rcr ty κ t qs = true) (hv : zk_all2 (zk_sv κ.1 N) qs fs) (hn : P n = none) : zk_rl (zk_up P n (some t)) (zk_up F n (.inr (ci, fs))) t (.inr (ci, fs)) := by
  have hst : ∀ v m, zk_sz P F v m → zk_sz (zk_up P n (some t)) (zk_up F n (.inr (ci, fs))) v m := fun v m => zk_sz.step (fun b t' hb => ⟨t', zk_up_ext hn _ _ hb⟩) (fun b t' cA y hb hF => by
    have hne : b ≠ n := by
      intro e
      subst e
      rw [hn] at hb
      cases hb
    exact ⟨cA, y, by rw [zk_up_ne hne]; exact hF, rfl⟩)
  intro r hr ht
  have hc := List.all_eq_true.mp h r hr
  rw [Bool.or_eq_true, bne_iff_ne] at hc
  rcases hc with hc | hc
  · exact absurd ht hc
  · split at hc
    · rename_i a b ha hb
      split at hc
      · rename_i x y hx hy
        obtain ⟨v1, a1, a2⟩ := zk_all2_get hv ha
        obtain ⟨v2, b1, b2⟩ := zk_all2_get hv hb
        obtain ⟨k1, c1, c2⟩ := zk_szq_ok hw hG hx a2
        obtain ⟨k2, d1, d2⟩ := zk_szq_ok hw hG hy b2
        have := zk_leb_ok hG.1 hG.2.1 hc c1 d1
        exact ⟨v1, v2, _, _, a1, b1, hst _ _ c2, hst _ _ d2, by omega⟩
      · cases hc
    · cases hc
/-- what the contract's end asks is there -/
theorem zk_fin {K : zk_K} {B : zk_B} {ty : List zk_T} (hw : w.1 = ty) (hK : va_K w.2.2.1 w.2.1 [] s) {X0 : Nat → Prop} (hu : u.2.2.2.1 = zk_Ke K) (hX : ∀ q, u.1 q = none → ¬ (zk_Kk K = 2 ∧ u.2.2.1[0]? = some (q : Int)) → u.2.2.2.2.2.2 q) {κ : zk_C} {N : List Int} {P : Nat → Option Nat} {F : Nat → va_E} {H : Heap} {locs : List Loc} {ls : Array Slot} (hG : zk_G w s u κ N P F H locs ls) (hct : zk_rct ty K κ = true) {al : zk_A} (hal : al ∈ zk_Ka K) {rn : Int} (hrn : ∀ f, al.1 = some f → zk_ok P f rn ∧ f.1 ≤ 2) (hcs : ∀ q ∈ al.2, zk_num u.2.2.1 rn q.1 ≤ zk_num u.2.2.1 rn q.2.1 + q.2.2) (hB : (zk_Kk K ≠ 2 ∧ B u.1 u.2.1 u.2.2.1 P F rn) ∨ ∀ a b c d e f, B a b c d e f) (t : State) (ht : t.heap = H) (hW : s.WarmedH t.vm) : zk_postX w K B u.1 u.2.1 u.2.2.1 s t (.returned (al.1.map (fun f => zk_mk f.1 rn))) := by
  obtain ⟨h1, h2, h3, h4, h5, h6, h7, h8, h9, h10, h11, h12, h13⟩ := hG
  rw [hu] at h8
  have hbase : ∀ q, q < s.heap.size → q < w.2.2.2.1 → t.heap[q]? = s.heap[q]? := fun q g1 g2 => by rw [ht]; exact h9.2.1 q g1 (Nat.not_le.mpr g2)
  by_cases hk : zk_Kk K = 2
  · unfold zk_rct at hct
    rw [if_pos hk] at hct
    split at hct
    · rename_i z f hz hf
      rw [Bool.and_eq_true] at hct
      obtain ⟨c1, c2⟩ := hct
      split at c2
      · rename_i T hT
        simp only [Bool.and_eq_true, beq_iff_eq] at c2
        obtain ⟨⟨⟨c3, c4⟩, c5⟩, c6⟩ := c2
        have hG0 : zk_G w s u κ N P F H locs ls := ⟨h1, h2, h3, h4, h5, h6, h7, by rw [hu]; exact h8, h9, h10, h11, h12, h13⟩
        rw [hz] at h4
        obtain ⟨n, fs, r1, r2, r3, r4, r5, r6, -⟩ := h4
        obtain ⟨n', y1, y2⟩ := h10 _ (List.contains_iff_mem.mp c1)
        dsimp only at y1 y2
        rw [r1] at y1
        cases y1
        have hfv := zk_rfit_ok h1 c5 r6
        have hext := zk_up_ext (t := f.2.1) r4
        refine ⟨al, hal, rn, zk_up P n (some f.2.1), zk_up F n (.inr (z.2.1, fs)), rfl, fun g hg => ⟨(hrn g hg).1.ext hext, (hrn g hg).2⟩, hcs, ?_, va_K.moved hW.alike hK, fun a y ha => hext a y (h7 a y ha), fun a y ha => ?_, by rw [ht]; exact h9.1, hbase, fun q g1 g2 g3 => ?_, fun _ n2 f2 e1 e2 => ?_, hB.elim (fun z => absurd hk z.1) (fun z => z _ _ _ _ _ _)⟩
        · rw [ht]
          have hTw : w.1[f.2.1]? = some T := by rw [hw]; exact hT
          refine (h5.moved hW.alike).add r4 hTw ?_ r5 r3.1 (zk_rcr_ok hG0 hw c6 r6 r4)
          unfold zk_el
          rw [c3]
          exact ⟨fs, by rw [c4], zk_all2_imp (fun _ _ q => q.ext hext) hfv⟩
        · have hne : a ≠ n := by
            intro e
            subst e
            have := h7 a y ha
            rw [r4] at this
            cases this
          rw [zk_up_ne hne]
          exact h8 a y ha
        · obtain ⟨x1, x2⟩ := h13 q g1 (hX q g2 g3)
          have hne : q ≠ n := by
            intro e
            subst e
            exact g3 ⟨hk, y2⟩
          rw [zk_up_ne hne, ht]
          exact ⟨x1, x2⟩
        · rw [y2] at e1
          have : n2 = n := by cases e1; omega
          subst this
          rw [hf] at e2
          cases e2
          exact zk_up_self
      · cases c2
    · cases hct
  · refine ⟨al, hal, rn, P, F, rfl, hrn, hcs, by rw [ht]; exact h5.moved hW.alike, va_K.moved hW.alike hK, h7, h8, by rw [ht]; exact h9.1, hbase, fun q g1 g2 g3 => ?_, fun h => absurd h hk, hB.elim (fun z => z.2) (fun z => z _ _ _ _ _ _)⟩
    rw [ht]
    exact h13 q g1 (hX q g2 g3)
theorem zk_rcs_ok {κ : zk_C} {N : List Int} {P : Nat → Option Nat} {F : Nat → va_E} {H : Heap} {locs : List Loc} {ls : Array Slot} (hG : zk_G w s u κ N P F H locs ls) (h0 : κ.1[0]? = some (0, 0, 0, 0)) {q : zk_S} {rn : Int} (hq : ∃ k, N[q.1]? = some k ∧ rn = k + q.2) {np : Nat} (hnp : np = u.2.2.1.length) {cs : List (Nat × Nat × Int)} (h : zk_rcs κ q np cs = true) : ∀ c ∈ cs, zk_num u.2.2.1 rn c.1 ≤ zk_num u.2.2.1 rn c.2.1 + c.2.2 := by
  have one : ∀ {j : Nat} {a : zk_S}, zk_rp κ q np j = some a → ∃ k, N[a.1]? = some k ∧ zk_num u.2.2.1 rn j = k + a.2 := by
    intro j a ha
    unfold zk_rp at ha
    unfold zk_num
    split at ha
    · rename_i h9
      cases ha
      rw [if_pos h9]
      exact ⟨0, zk_c0 hG.1 h0, rfl⟩
    · rename_i h9
      rw [if_neg h9]
      split at ha
      · rename_i hj
        cases ha
        rw [if_pos (by omega)]
        exact hq
      · rename_i hj
        rw [if_neg (by omega)]
        obtain ⟨z, e1, e2⟩ := Option.map_eq_some_iff.mp ha
        cases e2
        obtain ⟨n, y1, y2⟩ := hG.2.2.2.2.2.2.2.2.2.1 z (List.mem_of_find?_eq_some e1)
        have e3 := List.find?_some e1
        have e3 : z.1 = j := by simpa using e3
        refine ⟨n, y1, ?_⟩
        rw [List.getD_eq_getElem?_getD, ← e3, y2]
        show n = n + 0
        omega
  intro c hc
  have := List.all_eq_true.mp h c hc
  split at this
  · rename_i a b ha hb
    obtain ⟨k1, e1, e2⟩ := one ha
    obtain ⟨k2, e3, e4⟩ := one hb
    have := zk_leb_ok hG.1 hG.2.1 this e1 e3
    omega
  · cases this
theorem zk_retX_ok (hx : p.tables.exec = Jvm.exec) (hb : c.code = cc) {K : zk_K} {B : zk_B} {ty : List zk_T} (hw : w.1 = ty) (hK : va_K w.2.2.1 w.2.1 [] s) (hlocks : meth.locks = false) (hr : meth.sig.returnType = K.2.2.2.1) (hu : u.2.2.2.1 = zk_Ke K) (hnp : (zk_Kp K).length = u.2.2.1.length) (hX : ∀ q, u.1 q = none → ¬ (zk_Kk K = 2 ∧ u.2.2.1[0]? = some (q : Int)) → u.2.2.2.2.2.2 q)
    (hQ : Q = MQ below (fun _ st o t => zk_postX w K B u.1 u.2.1 u.2.2.1 st t o) args s (zk_Kr K).2.2.1 (zk_Kr K).2.2.2 (fun q => w.2.2.2.1 ≤ q)) {i : ClassFile.Instr} {len pc : Nat} {κ : zk_C} {st : List zk_S} {cu su : Nat} (h : zk_ret ty K i len κ st cu su = true) (hdg : decode cc pc = .ok (i, len)) {N : List Int} {P : Nat → Option Nat} {F : Nat → va_E} {H : Heap} {locs : List Loc} {ls : Array Slot} {sv : List Value} (hG : zk_G w s u κ N P F H locs ls) (hS : zk_all2 (zk_sv κ.1 N) st sv) (hB : ∀ rn : Int, (∀ (q : zk_S) (k : Int), st = [q] → N[q.1]? = some k → rn = k + q.2) → (zk_Kk K ≠ 2 ∧ B u.1 u.2.1 u.2.2.1 P F rn) ∨ ∀ a b c d e f, B a b c d e f) : W p l e R s m args below meth c H locs cu su Q (F0 m pc ls sv) := by
  unfold zk_ret at h
  simp only [Bool.and_eq_true, decide_eq_true_eq, beq_iff_eq] at h
  obtain ⟨⟨⟨⟨⟨rfl, c1⟩, c2⟩, c3⟩, c4⟩, h⟩ := h
  split at h
  · rename_i k hk
    rw [Bool.and_eq_true] at h
    obtain ⟨d1, d2⟩ := h
    obtain ⟨al, a1, a2⟩ := List.any_eq_true.mp d1
    refine W.widen c1 c2 ?_
    rw [hQ]
    have hL := hG.2.2.2.2.2.2.2.2.1.2.2
    have fin : ∀ {rn : Int}, ((zk_Kk K ≠ 2 ∧ B u.1 u.2.1 u.2.2.1 P F rn) ∨ ∀ a b c d e f, B a b c d e f) → (∀ f, al.1 = some f → zk_ok P f rn ∧ f.1 ≤ 2) → (∀ q ∈ al.2, zk_num u.2.2.1 rn q.1 ≤ zk_num u.2.2.1 rn q.2.1 + q.2.2) → ∀ t : State, t.heap = H → s.WarmedH t.vm → zk_postX w K B u.1 u.2.1 u.2.2.1 s t (.returned (al.1.map (fun f => zk_mk f.1 rn))) := fun g0 g1 g2 t ht hW => zk_fin (X0 := fun _ => True) hw hK hu hX hG c4 a1 g1 g2 g0 t ht hW
    unfold zk_ral at a2
    split at a2
    · rename_i hal
      match sv, hS with
      | [], _ =>
        have g := fin (rn := 0) (hB 0 (fun q k h => by cases h)) (fun f hf => by rw [hal] at hf; cases hf) (zk_rcs_ok hG c3 ⟨0, zk_c0 hG.1 c3, rfl⟩ hnp a2)
        rw [hal] at g
        unfold zk_rkd at hk
        split at hk
        · rename_i hr0
          rw [hr0] at hr
          exact W.vret hx hb hr (fun t ht hW => g t ht hW) hL hdg hlocks
        all_goals cases hk
    · rename_i k' q f hal
      simp only [Bool.and_eq_true, beq_iff_eq] at a2
      obtain ⟨⟨b1, b2⟩, b3⟩ := a2
      match sv, hS with
      | [v], hS =>
        obtain ⟨g0, n, y1, y2, y3, y4⟩ := hS.1
        obtain ⟨z1, z2, z3⟩ := zk_fits_n hG.1 b2 y1 y2 y3
        rw [← z2] at y4
        have g := fin (rn := n + q.2) (hB _ (fun q' k' h1 h2 => by cases h1; rw [y2] at h2; cases h2; rfl)) (fun f' hf' => by
          rw [hal] at hf'
          cases hf'
          refine ⟨z1, ?_⟩
          unfold zk_rkd at hk
          split at hk <;> cases hk <;> omega) (zk_rcs_ok hG c3 ⟨n, y2, rfl⟩ hnp b3)
        rw [hal, Option.map_some] at g
        unfold zk_rkd at hk
        split at hk
        · cases hk
        · rename_i hr0
          cases hk
          rw [b1] at y4 g
          subst y4
          rw [hr0] at hr
          exact W.iret hx hb hr (fun t ht hW => g t ht hW) hL hdg hlocks
        · rename_i hr0
          cases hk
          rw [b1] at y4 g
          subst y4
          rw [hr0] at hr
          rw [if_pos hr0] at d2
          simp only [Bool.and_eq_true, decide_eq_true_eq] at d2
          have hn : narrow .boolean (.int (Int32.ofInt (n + q.2))) = .int (Int32.ofInt (n + q.2)) := by
            have kq : zk_kd κ.1 q = 0 := by unfold zk_kd; rw [y1]; show g0.1 = 0; omega
            obtain ⟨m', e1, e2, e3, e4, -⟩ := zk_sv.int hG.1 hS.1 kq
            have e1 := Value.int.inj e1
            rw [e1]
            have : m' = 0 ∨ m' = 1 := by omega
            rcases this with rfl | rfl <;> decide
          exact W.zret hx hb hr hn (fun t ht hW => g t ht hW) hL hdg hlocks
        · rename_i hr0
          cases hk
          rw [b1] at y4 g
          subst y4
          rw [hr0] at hr
          exact W.lret hx hb hr (fun t ht hW => g t ht hW) hL hdg hlocks
        · rename_i C hr0
          cases hk
          rw [b1] at y4 g
          subst y4
          rw [hr0] at hr
          have hv : zk_mk 2 (n + q.2) = .null ∨ ∃ a, zk_mk 2 (n + q.2) = .ref a := by
            rw [zk_mk_ref (Nat.le_refl _)]
            split
            · exact Or.inl rfl
            · exact Or.inr ⟨_, rfl⟩
          exact W.aret hx hb hr (Or.inl ⟨_, rfl⟩) hv (fun t ht hW => g t ht hW) hL hdg hlocks
        · rename_i C hr0
          cases hk
          rw [b1] at y4 g
          subst y4
          rw [hr0] at hr
          have hv : zk_mk 2 (n + q.2) = .null ∨ ∃ a, zk_mk 2 (n + q.2) = .ref a := by
            rw [zk_mk_ref (Nat.le_refl _)]
            split
            · exact Or.inl rfl
            · exact Or.inr ⟨_, rfl⟩
          exact W.aret hx hb hr (Or.inr ⟨_, rfl⟩) hv (fun t ht hW => g t ht hW) hL hdg hlocks
        · cases hk
    · cases a2
  · cases h
theorem zk_ret_ok (hx : p.tables.exec = Jvm.exec) (hb : c.code = cc) {K : zk_K} {ty : List zk_T} (hw : w.1 = ty) (hK : va_K w.2.2.1 w.2.1 [] s) (hlocks : meth.locks = false) (hr : meth.sig.returnType = K.2.2.2.1) (hu : u.2.2.2.1 = zk_Ke K) (hnp : (zk_Kp K).length = u.2.2.1.length) (hX : ∀ q, u.1 q = none → ¬ (zk_Kk K = 2 ∧ u.2.2.1[0]? = some (q : Int)) → u.2.2.2.2.2.2 q)
    (hQ : Q = MQ below (fun _ st o t => zk_post w K u.1 u.2.1 u.2.2.1 st t o) args s (zk_Kr K).2.2.1 (zk_Kr K).2.2.2 (fun q => w.2.2.2.1 ≤ q)) {i : ClassFile.Instr} {len pc : Nat} {κ : zk_C} {st : List zk_S} {cu su : Nat} (h : zk_ret ty K i len κ st cu su = true) (hdg : decode cc pc = .ok (i, len)) : zk_J p l e R s m args below meth c Q w u κ st cu su pc := fun N P F H locs ls sv hG hS => zk_retX_ok hx hb hw hK hlocks hr hu hnp hX (B := zk_tB) hQ h hdg hG hS (fun _ _ => Or.inr (fun _ _ _ _ _ _ => trivial))
end ZK20
