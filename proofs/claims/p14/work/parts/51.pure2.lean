/-! part 51: the rules: fields, arrays, calls, ends -/
noncomputable def zp_fd (t k : Nat) : Option (Nat × zk_F) := match zt_types[t]? with
  | some T => if T.1 = 0 then (match T.2.2.2[k]? with
    | some f => some (T.2.1, f)
    | none => none) else none
  | none => none
theorem zp_fd_ok {t k ci : Nat} {f : zk_F} (h : zp_fd t k = some (ci, f)) : ∃ T, zt_types[t]? = some T ∧ T.1 = 0 ∧ T.2.1 = ci ∧ T.2.2.2[k]? = some f := by
  unfold zp_fd at h
  split at h
  · rename_i T hT
    split at h
    · rename_i h0
      split at h
      · rename_i g hg
        cases h
        exact ⟨T, hT, h0, rfl, hg⟩
      · cases h
    · cases h
  · cases h
/-- an array of ints (1), booleans (4), longs (2), all of one kind: its least length, what it holds -/
noncomputable def zp_ia (kd t : Nat) : Option (Nat × zk_F) := match zt_types[t]? with
  | some T => if T.1 = kd ∧ (zk_f0 T).1 ≠ 9 then some (T.2.1, zk_f0 T) else none
  | none => none
theorem zp_ia_ok {kd t len : Nat} {f : zk_F} (h : zp_ia kd t = some (len, f)) : ∃ T, zt_types[t]? = some T ∧ T.1 = kd ∧ T.2.1 = len ∧ ∀ j, zk_fj T j = f := by
  unfold zp_ia at h
  split at h
  · rename_i T hT
    split at h
    · rename_i h0
      cases h
      refine ⟨T, hT, h0.1, rfl, fun j => ?_⟩
      unfold zk_fj
      rw [if_neg h0.2]
    · cases h
  · cases h
theorem zp_ref (a : Nat) : zk_mk 2 (a : Int) = .ref a := by
  show (if (a : Int) < 0 then Value.null else .ref (a : Int).toNat) = _
  rw [if_neg (by omega), Int.toNat_natCast]
noncomputable def zp_fr (eff : List (Nat × Nat × Nat)) (ps : List Int) (P : Nat → Option Nat) (G G' : Nat → Nat → Int) : Prop := ∀ a t k, P a = some t → ¬ zk_may eff ps a t k → G' a k = G a k
theorem zp_same_n {p : Nat → Prop} {F F' : Nat → va_E} {a k : Nat} (h : zk_same p (F a) (F' a)) (hk : ¬ p k) : zp_n F' a k = zp_n F a k := by
  unfold zp_n
  rw [h.rd hk]
theorem zp_ef_fr {eff : List (Nat × Nat × Nat)} {ps : List Int} {P : Nat → Option Nat} {F F' : Nat → va_E} (h : zk_ef eff ps P F F') : zp_fr eff ps P (zp_n F) (zp_n F') := fun a t k hp hk => zp_same_n (h a t hp) hk
/-- a field of a cell that the effects don't name -/
noncomputable def zp_nfb (eff : List (Nat × Nat × Nat)) (t k : Nat) : Bool := decide (k < 1000) && eff.all (fun e => e.1 != t || e.2.1 != k)
theorem zp_nf {eff : List (Nat × Nat × Nat)} {ps : List Int} {P : Nat → Option Nat} {G G' : Nat → Nat → Int} (h : zp_fr eff ps P G G') {a t k : Nat} (hp : P a = some t) (he : zp_nfb eff t k = true) : G' a k = G a k := by
  unfold zp_nfb at he
  rw [Bool.and_eq_true, decide_eq_true_eq] at he
  obtain ⟨hk, he⟩ := he
  refine h a t k hp ?_
  rintro ⟨q, q1, q2, q3, -⟩
  have h2 := List.all_eq_true.mp he q q1
  simp only [Bool.or_eq_true, bne_iff_ne] at h2
  rcases h2 with h2 | h2
  · exact h2 q2
  · unfold zk_pm zk_er at q3
    split at q3
    · have := q3.1; dsimp only at this; omega
    · split at q3
      · have := q3.1; dsimp only at this; omega
      · split at q3
        · have := q3.1; dsimp only at this; omega
        · split at q3
          · have := q3.1; dsimp only at this; omega
          · have h3 := q3.1; have h4 := q3.2; dsimp only at h3 h4; omega
/-- a cell that the effects don't name -/
noncomputable def zp_ncb (eff : List (Nat × Nat × Nat)) (t : Nat) : Bool := eff.all (fun e => e.1 != t)
theorem zp_nc {eff : List (Nat × Nat × Nat)} {ps : List Int} {P : Nat → Option Nat} {G G' : Nat → Nat → Int} (h : zp_fr eff ps P G G') {a t : Nat} (hp : P a = some t) (he : zp_ncb eff t = true) (k : Nat) : G' a k = G a k := by
  refine h a t k hp ?_
  rintro ⟨q, q1, q2, -⟩
  have h2 := List.all_eq_true.mp he q q1
  rw [bne_iff_ne] at h2
  exact h2 q2
section ZP51
variable {p : Program} {l : Launch} {e : Env} {R : Room} {s : State} {m : MethodId} {args : Array Value} {below : List Frame} {meth : Method} {c : Code} {Q : State → Prop}
variable {cc : ByteArray} {w : zk_W} {u : zk_M} {Ts : List Jvm.Cond} {own : String}
variable {xs : List Nat} {pc : Nat} {L : List (Nat × Nat × Int)} {S : List (Nat × Int)} {P : Nat → Option Nat} {G : Nat → Nat → Int}
theorem zp_iinc (hx : p.tables.exec = Jvm.exec) (hb : c.code = cc) {i j nL : Nat} {a d n : Int} {L' : List (Nat × Nat × Int)} (hnL : u.2.2.2.2.2.1 = nL) (hdg : decode cc pc = .ok (.iinc i d, 3)) (hl : L[j]? = some (i, 0, a)) (hn : a + d = n) (hr : zk_rg 0 n) (hi : decide (i < nL) = true) (hL' : (i, 0, n) :: zp_st 0 i L = L') (kk : zp_J p l e R s m args below meth c Q w u xs (pc + 3) L' S P G) : zp_J p l e R s m args below meth c Q w u xs pc L S P G := by
  subst hL'
  subst hn
  intro F H locs ls hF hI hL hkL hkS
  have e0 : (L.map (fun q => (q.1, zk_mk q.2.1 q.2.2)))[j]? = some (i, Value.int (Int32.ofInt a)) := by
    rw [List.getElem?_map, hl]
    rfl
  have e1 : Int32.ofInt a + Int32.ofInt d = Int32.ofInt (a + d) := by rw [← Int32.ofInt_add]
  have hii := of_decide_eq_true hi
  rw [← hnL] at hii
  refine lv_iinc hx hb hdg hL e0 e1 hii rfl (fun ls' hl' => kk F H locs ls' hF hI ?_ (fun q h => ?_) hkS)
  · have e : (L.map (fun q => (q.1, zk_mk q.2.1 q.2.2))).filter (fun q => !(q.1 == i) && !(q.1 + 1 == i && q.2.category == 2)) = (zp_st 0 i L).map (fun q => (q.1, zk_mk q.2.1 q.2.2)) := by
      unfold zp_st
      rw [List.filter_map]
      congr 1
      apply List.filter_congr
      intro q _
      show (!(q.1 == i) && !(q.1 + 1 == i && (zk_mk q.2.1 q.2.2).category == 2)) = _
      rw [zk_mk_cat]
      rfl
    rw [e] at hl'
    exact hl'
  · rcases List.mem_cons.mp h with rfl | h
    · exact zp_k0 hr
    · exact hkL q (List.mem_filter.mp h).1
theorem zp_ldc2 (hx : p.tables.exec = Jvm.exec) (hb : c.code = cc) {E : zk_Ev} (hE : zk_ctx l R s m args meth c w u zt_TB own zt_TB zt_mn E) {idx j a b : Nat} {v : Int} (hdg : decode cc pc = .ok (.ldc2_w idx, 3)) (hlk : E.2.1[j]? = some (1, idx, a, b, v)) (kk : zp_J p l e R s m args below meth c Q w u xs (pc + 3) L ((1, v) :: S) P G) : zp_J p l e R s m args below meth c Q w u xs pc L S P G := by
  obtain ⟨-, e4, e5, e6, e7, e8, e9, e10, -⟩ := hE
  have e3 := e10 _ (List.mem_of_getElem? hlk)
  intro F H locs ls hF hI hL hkL hkS
  exact lv_ldc2 hx hb e6 e3.1 hdg (kk F H locs ls hF hI hL hkL (List.forall_mem_cons.mpr ⟨zp_k1 e3.2, hkS⟩))
theorem zp_ldc (hx : p.tables.exec = Jvm.exec) (hb : c.code = cc) {E : zk_Ev} (hE : zk_ctx l R s m args meth c w u zt_TB own zt_TB zt_mn E) {idx j a b : Nat} {v : Int} (hdg : decode cc pc = .ok (.ldc idx, 2)) (hlk : E.2.1[j]? = some (0, idx, a, b, v)) (kk : zp_J p l e R s m args below meth c Q w u xs (pc + 2) L ((0, v) :: S) P G) : zp_J p l e R s m args below meth c Q w u xs pc L S P G := by
  obtain ⟨-, e4, e5, e6, e7, e8, e9, e10, -⟩ := hE
  have e3 := e10 _ (List.mem_of_getElem? hlk)
  intro F H locs ls hF hI hL hkL hkS
  exact lv_ldc hx hb e6 e3.1 hdg (kk F H locs ls hF hI hL hkL (List.forall_mem_cons.mpr ⟨zp_k0 e3.2, hkS⟩))
theorem zp_ldcw (hx : p.tables.exec = Jvm.exec) (hb : c.code = cc) {E : zk_Ev} (hE : zk_ctx l R s m args meth c w u zt_TB own zt_TB zt_mn E) {idx j a b : Nat} {v : Int} (hdg : decode cc pc = .ok (.ldc_w idx, 3)) (hlk : E.2.1[j]? = some (0, idx, a, b, v)) (kk : zp_J p l e R s m args below meth c Q w u xs (pc + 3) L ((0, v) :: S) P G) : zp_J p l e R s m args below meth c Q w u xs pc L S P G := by
  obtain ⟨-, e4, e5, e6, e7, e8, e9, e10, -⟩ := hE
  have e3 := e10 _ (List.mem_of_getElem? hlk)
  intro F H locs ls hF hI hL hkL hkS
  exact lv_ldcw hx hb e6 e3.1 hdg (kk F H locs ls hF hI hL hkL (List.forall_mem_cons.mpr ⟨zp_k0 e3.2, hkS⟩))
theorem zp_rdf {F : Nat → va_E} {H : Heap} (h : zp_wt w s xs P F H) (hw : w.1 = zt_types) {a t k ci : Nat} {f : zk_F} (hp : P a = some t) (hf : zp_fd t k = some (ci, f)) (hk : f.1 ≤ 2) : zk_ok P f (zp_n F a k) ∧ ∃ fs T, w.1[t]? = some T ∧ T.1 = 0 ∧ T.2.1 = ci ∧ T.2.2.2[k]? = some f ∧ F a = .inr (ci, fs) ∧ zk_all2 (zk_fv P) T.2.2.2 fs ∧ va_at w.2.2.1 w.2.1 (a, .inr (ci, fs)) H ∧ fs[k]? = some (zk_mk f.1 (zp_n F a k)) := by
  obtain ⟨T, t1, t2, t3, t4⟩ := zp_fd_ok hf
  rw [← hw] at t1
  obtain ⟨fs, o1, o2, o3, o4⟩ := zp_obj h hp t1 t2
  rw [t3] at o1 o3
  obtain ⟨v, v1, n, n1, n2⟩ := zk_all2_get o2 t4
  have e : zp_n F a k = n := by
    unfold zp_n
    rw [o1]
    show (match fs[k]? with | some v => zp_num v | none => 0) = n
    rw [v1, n2]
    exact zp_num_mk n1 hk
  rw [e]
  refine ⟨n1, fs, T, t1, t2, t3, t4, o1, o2, o3, ?_⟩
  rw [v1, n2]
theorem zp_getf (hx : p.tables.exec = Jvm.exec) (hb : c.code = cc) {E : zk_Ev} (hE : zk_ctx l R s m args meth c w u zt_TB own zt_TB zt_mn E) (hw : w.1 = zt_types) {idx ci k j kd x a t : Nat} {c0 lo hi n : Int} (hdg : decode cc pc = .ok (.getfield idx, 3)) (hlk : E.2.1[j]? = some (2, idx, ci, k, c0)) (hf : zp_fd t k = some (ci, kd, x, lo, hi)) (hk : decide (kd ≤ 2) = true) (hp : P a = some t) (hv : G a k = n) (kk : zp_J p l e R s m args below meth c Q w u xs (pc + 3) L ((kd, n) :: S) P G) : zp_J p l e R s m args below meth c Q w u xs pc L ((2, (a : Int)) :: S) P G := by
  obtain ⟨-, e4, e5, e6, e7, e8, e9, e10, -⟩ := hE
  obtain ⟨e3, -⟩ := e10 _ (List.mem_of_getElem? hlk)
  intro F H locs ls hF hI hL hkL hkS
  obtain ⟨r1, fs, T, t1, t2, t3, t4, o1, o2, o3, v1⟩ := zp_rdf hI.1 hw hp hf (of_decide_eq_true hk)
  have hn : zp_n F a k = n := by rw [hF]; exact hv
  rw [hn] at r1 v1
  show W p l e R s m args below meth c H locs 0 0 Q (F0 m pc ls (zk_mk 2 (a : Int) :: S.map (fun q => zk_mk q.1 q.2)))
  rw [zp_ref]
  exact zw_getf hx hb e4 e5 e6 e7 e3 o3 v1 hdg (kk F H locs ls hF hI hL hkL (List.forall_mem_cons.mpr ⟨zp_ok_k r1 (of_decide_eq_true hk), (zp_tl hkS).2⟩))
/-- what a field's type tells of its number -/
theorem zp_kn {P : Nat → Option Nat} {G : Nat → Nat → Int} (hw : w.1 = zt_types) {ci k kd x a t : Nat} {lo hi : Int} (hf : zp_fd t k = some (ci, kd, x, lo, hi)) (hk : decide (kd ≤ 2) = true) (hp : P a = some t) (kk : zk_ok P (kd, x, lo, hi) (G a k) → zp_J p l e R s m args below meth c Q w u xs pc L S P G) : zp_J p l e R s m args below meth c Q w u xs pc L S P G := by
  intro F H locs ls hF hI hL hkL hkS
  have r := (zp_rdf hI.1 hw hp hf (of_decide_eq_true hk)).1
  rw [hF] at r
  exact kk r F H locs ls hF hI hL hkL hkS
theorem zp_ia_rd {F : Nat → va_E} {H : Heap} (h : zp_wt w s xs P F H) (hw : w.1 = zt_types) {kd a t len j x : Nat} {lo hi : Int} (h14 : kd = 1 ∨ kd = 4) (ha : zp_ia kd t = some (len, 0, x, lo, hi)) (hp : P a = some t) (hj : j < len) : zk_ok P (0, x, lo, hi) (zp_n F a (2000 + j)) := by
  obtain ⟨T, t1, t2, t3, t4⟩ := zp_ia_ok ha
  rw [← hw] at t1
  obtain ⟨cA, n, f, o1, o2, o3, o4, o5, o6, o7⟩ := zp_iarr h hp t1 (by rw [t2]; exact h14)
  obtain ⟨z, z1, z2⟩ := o5 j (by omega)
  rw [t4 j] at z1 z2
  have e : zp_n F a (2000 + j) = z := by
    unfold zp_n
    rw [o1, zk_rd_i (by omega), z2]
    exact zp_num_mk z1 (show _ ≤ 2 from Nat.le_of_ble_eq_true rfl)
  rw [e]
  exact z1
theorem zp_ka {P : Nat → Option Nat} {G : Nat → Nat → Int} (hw : w.1 = zt_types) {kd a t len x : Nat} {lo hi : Int} (h14 : kd = 1 ∨ kd = 4) (ha : zp_ia kd t = some (len, 0, x, lo, hi)) (hp : P a = some t) (kk : (∀ j, j < len → zk_ok P (0, x, lo, hi) (G a (2000 + j))) → zp_J p l e R s m args below meth c Q w u xs pc L S P G) : zp_J p l e R s m args below meth c Q w u xs pc L S P G := by
  intro F H locs ls hF hI hL hkL hkS
  refine kk (fun j hj => ?_) F H locs ls hF hI hL hkL hkS
  have r := zp_ia_rd hI.1 hw h14 ha hp hj
  rw [hF] at r
  exact r
theorem zp_ix {i : Int} {j n : Nat} (hi : i = (j : Int)) (hj : j < n) (hr : zk_rg 0 i) : vp_in (Int32.ofInt i) n ∧ (Int32.ofInt i).toNatClampNeg = j := by
  refine ⟨zh_in hr (by omega) (by omega), ?_⟩
  show (Int32.ofInt i).toInt.toNat = j
  rw [zk_i32 hr, hi, Int.toNat_natCast]
/-- an array of ints, its parts of any kinds -/
theorem zp_ialdT (hx : p.tables.exec = Jvm.exec) (hb : c.code = cc) (hw : w.1 = zt_types) {a t j : Nat} {T : zk_T} {i v : Int} (hdg : decode cc pc = .ok (.iaload, 1)) (hT : zt_types[t]? = some T) (h1 : T.1 = 1) (hk0 : (zk_fj T j).1 = 0) (hp : P a = some t) (hi : i = (j : Int)) (hj : j < T.2.1) (hv : G a (2000 + j) = v) (kk : zk_ok P (zk_fj T j) v → zp_J p l e R s m args below meth c Q w u xs (pc + 1) L ((0, v) :: S) P G) : zp_J p l e R s m args below meth c Q w u xs pc L ((0, i) :: (2, (a : Int)) :: S) P G := by
  intro F H locs ls hF hI hL hkL hkS
  rw [← hw] at hT
  obtain ⟨cA, n, f, o1, o2, o3, o4, o5, o6, o7⟩ := zp_iarr hI.1 hp hT (Or.inl h1)
  obtain ⟨z, z1, z2⟩ := o5 j (by omega)
  obtain ⟨k1, k2⟩ := zp_tl hkS
  obtain ⟨i1, i2⟩ := zp_ix (n := n) hi (by omega) k1.2.1
  have ez : v = z := by
    rw [← hv, ← hF]
    unfold zp_n
    rw [o1, zk_rd_i (by omega), z2]
    exact zp_num_mk z1 (by omega)
  show W p l e R s m args below meth c H locs 0 0 Q (F0 m pc ls (.int (Int32.ofInt i) :: zk_mk 2 (a : Int) :: S.map (fun q => zk_mk q.1 q.2)))
  rw [zp_ref]
  refine zw_iald hx hb o6 (by rw [h1] at o4; exact o4) i1 hdg ?_
  rw [i2, z2, hk0, ← ez]
  rw [← ez] at z1
  exact kk z1 F H locs ls hF hI hL hkL (List.forall_mem_cons.mpr ⟨by have := zp_ok_k z1 (by omega); rw [hk0] at this; exact this, (zp_tl k2).2⟩)
theorem zp_iald (hx : p.tables.exec = Jvm.exec) (hb : c.code = cc) (hw : w.1 = zt_types) {a t j len x : Nat} {i v lo hi : Int} (hdg : decode cc pc = .ok (.iaload, 1)) (ha : zp_ia 1 t = some (len, 0, x, lo, hi)) (hp : P a = some t) (hi' : i = (j : Int)) (hj : j < len) (hv : G a (2000 + j) = v) (kk : zk_ok P (0, x, lo, hi) v → zp_J p l e R s m args below meth c Q w u xs (pc + 1) L ((0, v) :: S) P G) : zp_J p l e R s m args below meth c Q w u xs pc L ((0, i) :: (2, (a : Int)) :: S) P G := by
  obtain ⟨T, t1, t2, t3, t4⟩ := zp_ia_ok ha
  exact zp_ialdT hx hb hw hdg t1 t2 (by rw [t4]) hp hi' (by omega) hv (by rw [t4]; exact kk)
theorem zp_zald (hx : p.tables.exec = Jvm.exec) (hb : c.code = cc) (hw : w.1 = zt_types) {a t j len x : Nat} {i v lo hi : Int} (hdg : decode cc pc = .ok (.baload, 1)) (ha : zp_ia 4 t = some (len, 0, x, lo, hi)) (hp : P a = some t) (hi' : i = (j : Int)) (hj : j < len) (hv : G a (2000 + j) = v) (kk : zk_ok P (0, x, lo, hi) v → zp_J p l e R s m args below meth c Q w u xs (pc + 1) L ((0, v) :: S) P G) : zp_J p l e R s m args below meth c Q w u xs pc L ((0, i) :: (2, (a : Int)) :: S) P G := by
  obtain ⟨T, hT, h1, t3, t4⟩ := zp_ia_ok ha
  intro F H locs ls hF hI hL hkL hkS
  rw [← hw] at hT
  obtain ⟨cA, n, f, o1, o2, o3, o4, o5, o6, o7⟩ := zp_iarr hI.1 hp hT (Or.inr h1)
  obtain ⟨z, z1, z2⟩ := o5 j (by omega)
  rw [t4] at z1 z2
  obtain ⟨k1, k2⟩ := zp_tl hkS
  obtain ⟨i1, i2⟩ := zp_ix (n := n) hi' (by omega) k1.2.1
  have ez : v = z := by
    rw [← hv, ← hF]
    unfold zp_n
    rw [o1, zk_rd_i (by omega), z2]
    exact zp_num_mk z1 (show _ ≤ 2 from Nat.le_of_ble_eq_true rfl)
  show W p l e R s m args below meth c H locs 0 0 Q (F0 m pc ls (.int (Int32.ofInt i) :: zk_mk 2 (a : Int) :: S.map (fun q => zk_mk q.1 q.2)))
  rw [zp_ref]
  refine zw_zald hx hb o6 (by rw [h1] at o4; exact o4) i1 hdg ?_
  rw [i2, z2, ← ez]
  rw [← ez] at z1
  exact kk z1 F H locs ls hF hI hL hkL (List.forall_mem_cons.mpr ⟨zp_ok_k z1 (show _ ≤ 2 from Nat.le_of_ble_eq_true rfl), (zp_tl k2).2⟩)
theorem zp_lald (hx : p.tables.exec = Jvm.exec) (hb : c.code = cc) (hw : w.1 = zt_types) {a t j len x : Nat} {i v lo hi : Int} (hdg : decode cc pc = .ok (.laload, 1)) (ha : zp_ia 2 t = some (len, 1, x, lo, hi)) (hp : P a = some t) (hi' : i = (j : Int)) (hj : j < len) (hv : G a (2000 + j) = v) (kk : zp_J p l e R s m args below meth c Q w u xs (pc + 1) L ((1, v) :: S) P G) : zp_J p l e R s m args below meth c Q w u xs pc L ((0, i) :: (2, (a : Int)) :: S) P G := by
  obtain ⟨T, hT, h1, t3, t4⟩ := zp_ia_ok ha
  intro F H locs ls hF hI hL hkL hkS
  rw [← hw] at hT
  obtain ⟨cA, n, f, o1, o2, o3, o4, o5, o6, o7⟩ := zp_larr hI.1 hp hT h1
  obtain ⟨z, z1, z2⟩ := o5 j (by omega)
  rw [t4] at z1 z2
  obtain ⟨k1, k2⟩ := zp_tl hkS
  obtain ⟨i1, i2⟩ := zp_ix (n := n) hi' (by omega) k1.2.1
  have ez : v = z := by
    rw [← hv, ← hF]
    unfold zp_n
    rw [o1, zk_rd_l (by omega), z2]
    exact zp_num_mk z1 (show _ ≤ 2 from Nat.le_of_ble_eq_true rfl)
  show W p l e R s m args below meth c H locs 0 0 Q (F0 m pc ls (.int (Int32.ofInt i) :: zk_mk 2 (a : Int) :: S.map (fun q => zk_mk q.1 q.2)))
  rw [zp_ref]
  refine zw_lald hx hb o6 o4 i1 hdg ?_
  rw [i2, z2, ← ez]
  rw [← ez] at z1
  exact kk F H locs ls hF hI hL hkL (List.forall_mem_cons.mpr ⟨zp_ok_k z1 (show _ ≤ 2 from Nat.le_of_ble_eq_true rfl), (zp_tl k2).2⟩)
/-- one cell written: where the method stands then -/
theorem zp_wr {F : Nat → va_E} {H H1 : Heap} {locs : List Loc} (hI : zp_I w s u xs P F H locs) {a t : Nat} {T : zk_T} {e : va_E} (hp : P a = some t) (hT : w.1[t]? = some T) (he : zk_el w s P T e) (hat : va_at w.2.2.1 w.2.1 (a, e) H1) (hz : H1.size = H.size) (hk : ∀ q, q ≠ a → H1[q]? = H[q]?) {j : Nat} {pk : Nat → Prop} (hs : zk_same pk (F a) e) (hm : ∀ k, pk k → zk_may u.2.2.2.1 u.2.2.1 a t k) (hrl : a ∈ xs ∨ zk_rl P (zk_up F a e) t e) : zp_I w s u xs P (zk_up F a e) H1 (locs ++ [⟨a, j⟩]) := by
  obtain ⟨h5, h7, h8, h9, h13⟩ := hI
  have hb := (h5.el hp hT).2.2
  refine ⟨h5.put hp hT he hat hk (fun cA x h => hs.len h) hrl, h7, zk_ef_put h8 h7 hp hs (Or.inr hm), ⟨by rw [hz]; exact h9.1, fun q g1 g2 => ?_, fun q hq => ?_⟩, fun q g1 g2 => ⟨(h13 q g1 g2).1, (hk q (fun e1 => by rw [e1] at g1 g2; rw [(h13 a g1 g2).1] at hp; cases hp)).trans (h13 q g1 g2).2⟩⟩
  · rw [hk q (fun e1 => g2 (by rw [e1]; exact hb))]
    exact h9.2.1 q g1 g2
  · rcases List.mem_append.mp hq with g | g
    · exact h9.2.2 q g
    · rw [List.mem_singleton.mp g]
      exact hb
noncomputable def zp_eb (eff : List (Nat × Nat × Nat)) (t k : Nat) : Bool := eff.any (fun q => q.1 == t && q.2.1 == k && q.2.2 == 0)
theorem zp_eb_ok {eff : List (Nat × Nat × Nat)} {ps : List Int} {a t k j : Nat} (h : zp_eb eff t k = true) (hj : zk_pm k j) : zk_may eff ps a t j := by
  obtain ⟨q, q1, q2⟩ := List.any_eq_true.mp h
  simp only [Bool.and_eq_true, beq_iff_eq] at q2
  exact ⟨q, q1, q2.1.1, by rw [q2.1.2]; exact hj, Or.inl q2.2⟩
noncomputable def zp_pb (eff : List (Nat × Nat × Nat)) (t k kd : Nat) (c0 lo hi : Int) : Bool := zp_eb eff t k && decide (k < 1000) && zk_rel.all (fun r => r.1 != t) && ((c0 == 0 && kd == 0) || (c0 == 1 && kd == 1) || (c0 == 3 && kd == 0 && decide (0 ≤ lo) && decide (hi ≤ 1)))
theorem zp_putf (hx : p.tables.exec = Jvm.exec) (hb : c.code = cc) {E : zk_Ev} (hE : zk_ctx l R s m args meth c w u zt_TB own zt_TB zt_mn E) (hw : w.1 = zt_types) {eff : List (Nat × Nat × Nat)} (heff : u.2.2.2.1 = eff) {idx ci k j kd x a t : Nat} {c0 lo hi n : Int} (hdg : decode cc pc = .ok (.putfield idx, 3)) (hlk : E.2.1[j]? = some (2, idx, ci, k, c0)) (hf : zp_fd t k = some (ci, kd, x, lo, hi)) (hpb : zp_pb eff t k kd c0 lo hi = true) (hp : P a = some t) (hok : zk_ok P (kd, x, lo, hi) n) (kk : zp_J p l e R s m args below meth c Q w u xs (pc + 3) L S P (zp_set G a k n)) : zp_J p l e R s m args below meth c Q w u xs pc L ((kd, n) :: (2, (a : Int)) :: S) P G := by
  obtain ⟨-, e4, e5, e6, e7, e8, e9, e10, -⟩ := hE
  obtain ⟨e3, C, T0, N0, fty, y4, y5, y6, y7, y8⟩ := e10 _ (List.mem_of_getElem? hlk)
  dsimp only at e3 y4 y5 y6 y7 y8
  unfold zp_pb at hpb
  simp only [Bool.and_eq_true, Bool.or_eq_true, decide_eq_true_eq, beq_iff_eq] at hpb
  obtain ⟨⟨⟨b1, b2⟩, b3⟩, b4⟩ := hpb
  intro F H locs ls hF hI hL hkL hkS
  have hkd : kd ≤ 2 := by omega
  obtain ⟨r1, fs, T, t1, t2, t3, t4, o1, o2, o3, v1⟩ := zp_rdf hI.1 hw hp hf hkd
  have hlen : k < fs.length := (List.getElem?_eq_some_iff.mp v1).1
  have hty : ∀ (C : String) (T : u_T) (N : Nat), w.2.1[ci]? = some (C, T, N) → ∃ ty, parseFieldDescriptor (T k).2.2.1 = some ty ∧ narrow ty (zk_mk kd n) = zk_mk kd n ∧ fits ty (zk_mk kd n) = true := by
    intro C' T' N' h
    cases y4.symm.trans h
    refine ⟨fty, y5, ?_⟩
    rcases b4 with (⟨b4, rfl⟩ | ⟨b4, rfl⟩) | ⟨⟨⟨b4, rfl⟩, b5⟩, b6⟩
    · rw [b4] at y6
      have y6 : zk_tyc fty = 0 := y6
      cases fty <;> simp [zk_tyc] at y6
      exact ⟨rfl, rfl⟩
    · rw [b4] at y6
      have y6 : zk_tyc fty = 1 := y6
      cases fty <;> simp [zk_tyc] at y6
      exact ⟨rfl, rfl⟩
    · rw [b4] at y6
      have y6 : zk_tyc fty = 3 := y6
      cases fty <;> simp [zk_tyc] at y6
      have h1 : lo ≤ n := hok.1
      have h2 : n ≤ hi := hok.2.1
      have : n = 0 ∨ n = 1 := by omega
      rcases this with rfl | rfl <;> exact ⟨by decide, by decide⟩
  have hc16 : c0 < 16 := by omega
  have hsame : zk_same (fun j => j = k) (F a) (.inr (ci, fs.set k (zk_mk kd n))) := by
    rw [o1]
    refine ⟨rfl, by simp, fun j hj => ?_⟩
    show fs[j]? = (fs.set k (zk_mk kd n))[j]?
    rw [List.getElem?_set_ne (fun h => hj h.symm)]
  show W p l e R s m args below meth c H locs 0 0 Q (F0 m pc ls (zk_mk kd n :: zk_mk 2 (a : Int) :: S.map (fun q => zk_mk q.1 q.2)))
  rw [zp_ref]
  refine zw_putf hx hb e4 e5 e6 e7 e3 o3 (fun C' T' N' h => Or.inl ?_) hty hlen hdg (fun H1 j hat hz hk => ?_)
  · cases y4.symm.trans h
    rw [y7]
    exact decide_eq_false (by omega)
  · refine kk _ H1 _ ls ?_ (zp_wr hI hp t1 ?_ hat hz hk hsame (fun k' hk' => ?_) (Or.inr ?_)) hL hkL (zp_tl (zp_tl hkS).2).2
    · funext b i
      by_cases hba : b = a
      · subst hba
        unfold zp_n zp_set
        rw [zk_up_self]
        show (match (fs.set k (zk_mk kd n))[i]? with | some v => zp_num v | none => 0) = _
        by_cases hik : i = k
        · subst hik
          rw [List.getElem?_set_self hlen, if_pos ⟨rfl, rfl⟩]
          exact zp_num_mk hok hkd
        · rw [List.getElem?_set_ne (fun h => hik h.symm), if_neg (fun h => hik h.2), ← hF]
          unfold zp_n
          rw [o1]
          rfl
      · rw [zp_set_ne (Or.inl hba), ← hF]
        unfold zp_n
        rw [zk_up_ne hba]
    · unfold zk_el
      rw [t2]
      refine ⟨fs.set k (zk_mk kd n), by rw [t3], zk_all2_setR o2 (fun g hg => ?_)⟩
      cases t4.symm.trans hg
      exact ⟨n, hok, rfl⟩
    · subst hk'
      rw [heff]
      refine zp_eb_ok b1 ?_
      unfold zk_pm
      rw [zk_er_lt b2]
      exact ⟨Nat.le_refl _, Nat.le_refl _⟩
    · intro r hr hrt
      have := List.all_eq_true.mp b3 r hr
      rw [bne_iff_ne] at this
      exact absurd hrt this
theorem zp_1001 {j : Nat} (h : j ≤ 1000000000) : zk_pm 1001 (2000 + j) := by
  unfold zk_pm zk_er
  rw [if_pos rfl]
  exact ⟨by omega, by omega⟩
theorem zp_up_n {F : Nat → va_E} {G : Nat → Nat → Int} (hF : zp_n F = G) {a j n : Nat} {cA : ClassId} {f : Nat → Int32} {v : Int} (o1 : F a = .inl (cA, n, .inl f)) (hj : j < n) (hr : zk_rg 0 v) : zp_n (zk_up F a (.inl (cA, n, .inl (zk_up f j (Int32.ofInt v))))) = zp_set G a (2000 + j) v := by
  funext b i
  by_cases hba : b = a
  · subst hba
    by_cases hij : i = 2000 + j
    · subst hij
      rw [zp_set_self]
      unfold zp_n
      rw [zk_up_self, zk_rd_i hj, zk_up_self]
      exact zk_i32 hr
    · rw [zp_set_ne (Or.inr hij), ← hF]
      unfold zp_n
      have e : zk_rd (.inl (cA, n, .inl (zk_up f j (Int32.ofInt v)))) i = zk_rd (.inl (cA, n, .inl f)) i := by
        unfold zk_rd
        dsimp only
        by_cases c1 : i = 1000
        · rw [if_pos c1, if_pos c1]
        · rw [if_neg c1, if_neg c1]
          by_cases c2 : 2000 ≤ i ∧ i - 2000 < n
          · rw [if_pos c2, if_pos c2]
            show some (Value.int (zk_up f j (Int32.ofInt v) (i - 2000))) = some (.int (f (i - 2000)))
            rw [zk_up_ne (by omega)]
          · rw [if_neg c2, if_neg c2]
      rw [zk_up_self, o1, e]
  · rw [zp_set_ne (Or.inl hba), ← hF]
    unfold zp_n
    rw [zk_up_ne hba]
theorem zp_iastU (hx : p.tables.exec = Jvm.exec) (hb : c.code = cc) (hw : w.1 = zt_types) {eff : List (Nat × Nat × Nat)} (heff : u.2.2.2.1 = eff) {a t j : Nat} {T : zk_T} {i v : Int} (hdg : decode cc pc = .ok (.iastore, 1)) (hT : zt_types[t]? = some T) (h1 : T.1 = 1) (hk0 : (zk_fj T j).1 = 0) (hp : P a = some t) (hi : i = (j : Int)) (hj : j < T.2.1) (hj2 : j ≤ 1000000000) (hok : zk_ok P (zk_fj T j) v) (hx2 : a ∈ xs ∨ (t ≠ 59 ∧ t ≠ 60)) (he : ∃ c0 : Nat, zp_eb eff t c0 = true ∧ zk_pm c0 (2000 + j)) (kk : zp_J p l e R s m args below meth c Q w u xs (pc + 1) L S P (zp_set G a (2000 + j) v)) : zp_J p l e R s m args below meth c Q w u xs pc L ((0, v) :: (0, i) :: (2, (a : Int)) :: S) P G := by
  intro F H locs ls hF hI hL hkL hkS
  rw [← hw] at hT
  obtain ⟨cA, n, f, o1, o2, o3, o4, o5, o6, o7⟩ := zp_iarr hI.1 hp hT (Or.inl h1)
  obtain ⟨k1, k2⟩ := zp_tl hkS
  obtain ⟨k3, k4⟩ := zp_tl k2
  obtain ⟨i1, i2⟩ := zp_ix (n := n) hi (by omega) k3.2.1
  show W p l e R s m args below meth c H locs 0 0 Q (F0 m pc ls (.int (Int32.ofInt v) :: .int (Int32.ofInt i) :: zk_mk 2 (a : Int) :: S.map (fun q => zk_mk q.1 q.2)))
  rw [zp_ref]
  refine zw_iast hx hb o6 (by rw [h1] at o4; exact o4) i1 hdg (fun H1 jj e1 hz hk => ?_)
  rw [i2] at e1
  refine kk _ H1 _ ls (zp_up_n hF o1 (by omega) k1.2.1) (zp_wr hI hp hT (pk := fun k => k = 2000 + j) ?_ (show va_at _ _ (a, .inl (cA, n, .inl (zk_up f j (Int32.ofInt v)))) H1 from e1) hz hk ?_ (fun k hk2 => ?_) (hx2.imp (fun h => h) (fun h => ⟨fun e => absurd e h.1, fun e => absurd e h.2⟩))) hL hkL (zp_tl k4).2
  · unfold zk_el
    rw [h1]
    refine ⟨cA, n, _, rfl, o2, o3, by rw [h1] at o4; exact o4, fun i' hi' => ?_⟩
    by_cases hij : i' = j
    · subst hij
      rw [zk_up_self]
      exact ⟨v, hok, by rw [hk0]; rfl⟩
    · rw [zk_up_ne hij]
      exact o5 i' hi'
  · rw [o1]
    refine ⟨rfl, rfl, fun i' hi' hP => ?_⟩
    show some (Value.int (f i')) = some (.int (zk_up f j _ i'))
    rw [zk_up_ne (fun e => hP (by rw [e]))]
  · subst hk2
    rw [heff]
    obtain ⟨c0, h1, h2⟩ := he
    exact zp_eb_ok h1 h2
theorem zp_iastT (hx : p.tables.exec = Jvm.exec) (hb : c.code = cc) (hw : w.1 = zt_types) {eff : List (Nat × Nat × Nat)} (heff : u.2.2.2.1 = eff) {a t j : Nat} {T : zk_T} {i v : Int} (hdg : decode cc pc = .ok (.iastore, 1)) (hT : zt_types[t]? = some T) (h1 : T.1 = 1) (hk0 : (zk_fj T j).1 = 0) (hp : P a = some t) (hi : i = (j : Int)) (hj : j < T.2.1) (hj2 : j ≤ 1000000000) (hok : zk_ok P (zk_fj T j) v) (hx2 : a ∈ xs ∨ (t ≠ 59 ∧ t ≠ 60)) (he : zp_eb eff t 1001 = true) (kk : zp_J p l e R s m args below meth c Q w u xs (pc + 1) L S P (zp_set G a (2000 + j) v)) : zp_J p l e R s m args below meth c Q w u xs pc L ((0, v) :: (0, i) :: (2, (a : Int)) :: S) P G :=
  zp_iastU hx hb hw heff hdg hT h1 hk0 hp hi hj hj2 hok hx2 ⟨1001, he, zp_1001 hj2⟩ kk
theorem zp_1003 {j : Nat} (h : 180 ≤ j) (h2 : j ≤ 1000000000) : zk_pm 1003 (2000 + j) := by
  unfold zk_pm zk_er
  rw [if_neg (by decide), if_neg (by decide), if_pos rfl]
  exact ⟨by omega, by omega⟩
theorem zp_iast (hx : p.tables.exec = Jvm.exec) (hb : c.code = cc) (hw : w.1 = zt_types) {eff : List (Nat × Nat × Nat)} (heff : u.2.2.2.1 = eff) {a t j len x : Nat} {i v lo hi : Int} (hdg : decode cc pc = .ok (.iastore, 1)) (ha : zp_ia 1 t = some (len, 0, x, lo, hi)) (hp : P a = some t) (hi' : i = (j : Int)) (hj : j < len) (hok : zk_ok P (0, x, lo, hi) v) (hb2 : (decide (len ≤ 1000000000) && (t != 59 && (t != 60 && zp_eb eff t 1001))) = true) (kk : zp_J p l e R s m args below meth c Q w u xs (pc + 1) L S P (zp_set G a (2000 + j) v)) : zp_J p l e R s m args below meth c Q w u xs pc L ((0, v) :: (0, i) :: (2, (a : Int)) :: S) P G := by
  obtain ⟨T, t1, t2, t3, t4⟩ := zp_ia_ok ha
  simp only [Bool.and_eq_true, decide_eq_true_eq, bne_iff_ne] at hb2
  exact zp_iastT hx hb hw heff hdg t1 t2 (by rw [t4]) hp hi' (by omega) (by omega) (by rw [t4]; exact hok) (Or.inr ⟨hb2.2.1, hb2.2.2.1⟩) hb2.2.2.2 kk
end ZP51
