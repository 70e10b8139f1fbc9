/-! part d6b: the rules once more, with counts of cells made -/
section ZD6B
variable {p : Program} {l : Launch} {e : Env} {R : Room} {s : State} {m : MethodId} {args : Array Value} {below : List Frame} {meth : Method} {c : Code} {Q : State → Prop}
variable {cc : ByteArray} {w : zk_W} {u : zk_M} {Ts : List Jvm.Cond} {own : String}
variable {xs : List Nat} {pc : Nat} {L : List (Nat × Nat × Int)} {S : List (Nat × Int)} {P : Nat → Option Nat} {G : Nat → Nat → Int} {cu su : Nat}
noncomputable def zp_Jn (cu su : Nat) (p : Program) (l : Launch) (e : Env) (R : Room) (s : State) (m : MethodId) (args : Array Value) (below : List Frame) (meth : Method) (c : Code) (Q : State → Prop) (w : zk_W) (u : zk_M) (xs : List Nat) (pc : Nat) (L : List (Nat × Nat × Int)) (S : List (Nat × Int)) (P : Nat → Option Nat) (G : Nat → Nat → Int) : Prop :=
  ∀ (F : Nat → va_E) (H : Heap) (locs : List Loc) (ls : Array Slot), zp_n F = G → zp_I w s u xs P F H locs → lv_has ls u.2.2.2.2.2.1 (L.map (fun q => (q.1, zk_mk q.2.1 q.2.2))) → (∀ q ∈ L, zp_k q.2) → (∀ q ∈ S, zp_k q) → W p l e R s m args below meth c H locs cu su Q (F0 m pc ls (S.map (fun q => zk_mk q.1 q.2)))
theorem zpn_load (hx : p.tables.exec = Jvm.exec) (hb : c.code = cc) {i : ClassFile.Instr} {k n len : Nat} {v : Int} (hdg : decode cc pc = .ok (i, len)) (hi : zk_ldK i = some (k, n, len)) {j : Nat} (hl : L[j]? = some (n, k, v)) (kk : zp_Jn cu su p l e R s m args below meth c Q w u xs (pc + len) L ((k, v) :: S) P G) : zp_Jn cu su p l e R s m args below meth c Q w u xs pc L S P G := by
  intro F H locs ls hF hI hL hkL hkS
  have hm := List.mem_of_getElem? hl
  have hq := hkL _ hm
  exact zw_load hx hb hi hdg (hL.2.2 _ (List.mem_map.mpr ⟨_, hm, rfl⟩)) (zp_vk hq) (kk F H locs ls hF hI hL hkL (List.forall_mem_cons.mpr ⟨hq, hkS⟩))
theorem zpn_store (hx : p.tables.exec = Jvm.exec) (hb : c.code = cc) {i : ClassFile.Instr} {k n len nL : Nat} {v : Int} {L' : List (Nat × Nat × Int)} (hnL : u.2.2.2.2.2.1 = nL) (hdg : decode cc pc = .ok (i, len)) (hi : zk_stK i = some (k, n, len)) (hn : zp_ckb k n nL = true) (hL' : (n, k, v) :: zp_st k n L = L') (kk : zp_Jn cu su p l e R s m args below meth c Q w u xs (pc + len) L' S P G) : zp_Jn cu su p l e R s m args below meth c Q w u xs pc L ((k, v) :: S) P G := by
  subst hL'
  intro F H locs ls hF hI hL hkL hkS
  have hq := hkS _ List.mem_cons_self
  have hck := zp_ckb_ok hn
  rw [← hnL] at hck
  refine zw_store hx hb hi hdg hL hck (zp_vk hq) (fun ls' hl => kk F H locs ls' hF hI ?_ (fun q h => ?_) (fun q h => hkS q (List.mem_cons_of_mem _ h)))
  · have e : (L.map (fun q => (q.1, zk_mk q.2.1 q.2.2))).filter (fun q => zk_st1 k n q.1 q.2.category) = (zp_st k n L).map (fun q => (q.1, zk_mk q.2.1 q.2.2)) := by
      unfold zp_st
      rw [List.filter_map]
      congr 1
      apply List.filter_congr
      intro q _
      show zk_st1 k n q.1 (zk_mk q.2.1 q.2.2).category = _
      rw [zk_mk_cat]
    rw [e] at hl
    exact hl
  · rcases List.mem_cons.mp h with rfl | h
    · exact hq
    · exact hkL q (List.mem_filter.mp h).1
theorem zpn_const (hx : p.tables.exec = Jvm.exec) (hb : c.code = cc) {i : ClassFile.Instr} {k len : Nat} {n : Int} (hdg : decode cc pc = .ok (i, len)) (hi : zk_cnK i = some (k, n, len)) (hk : zp_kb (k, n) = true) (kk : zp_Jn cu su p l e R s m args below meth c Q w u xs (pc + len) L ((k, n) :: S) P G) : zp_Jn cu su p l e R s m args below meth c Q w u xs pc L S P G :=
  fun F H locs ls hF hI hL hkL hkS => zw_const hx hb hi hdg (kk F H locs ls hF hI hL hkL (List.forall_mem_cons.mpr ⟨zp_kb_ok hk, hkS⟩))
theorem zpn_icmp (hx : p.tables.exec = Jvm.exec) (hb : c.code = cc) {k : ClassFile.Cond} {off : Int} {tgt : Nat} {a b : Int} (hdg : decode cc pc = .ok (.if_icmp k off, 3)) (ht : (pc : Int) + off = (tgt : Int)) (kt : zk_cmp k a b → zp_Jn cu su p l e R s m args below meth c Q w u xs tgt L S P G) (kf : ¬ zk_cmp k a b → zp_Jn cu su p l e R s m args below meth c Q w u xs (pc + 3) L S P G) : zp_Jn cu su p l e R s m args below meth c Q w u xs pc L ((0, b) :: (0, a) :: S) P G := by
  intro F H locs ls hF hI hL hkL hkS
  obtain ⟨h1, h2⟩ := zp_tl hkS
  obtain ⟨h3, h4⟩ := zp_tl h2
  exact zw_icmp hx hb hdg ht h3.2.1 h1.2.1 (fun q => kt q F H locs ls hF hI hL hkL h4) (fun q => kf q F H locs ls hF hI hL hkL h4)
theorem zpn_if (hx : p.tables.exec = Jvm.exec) (hb : c.code = cc) {k : ClassFile.Cond} {off : Int} {tgt : Nat} {a : Int} (hdg : decode cc pc = .ok (.ifCond k off, 3)) (ht : (pc : Int) + off = (tgt : Int)) (kt : zk_cmp k a 0 → zp_Jn cu su p l e R s m args below meth c Q w u xs tgt L S P G) (kf : ¬ zk_cmp k a 0 → zp_Jn cu su p l e R s m args below meth c Q w u xs (pc + 3) L S P G) : zp_Jn cu su p l e R s m args below meth c Q w u xs pc L ((0, a) :: S) P G := by
  intro F H locs ls hF hI hL hkL hkS
  obtain ⟨h1, h2⟩ := zp_tl hkS
  exact zw_if hx hb hdg ht h1.2.1 (fun q => kt q F H locs ls hF hI hL hkL h2) (fun q => kf q F H locs ls hF hI hL hkL h2)
theorem zpn_add (hx : p.tables.exec = Jvm.exec) (hb : c.code = cc) {a b n : Int} (hdg : decode cc pc = .ok (.iadd, 1)) (hn : a + b = n) (hr : zk_rg 0 n) (kk : zp_Jn cu su p l e R s m args below meth c Q w u xs (pc + 1) L ((0, n) :: S) P G) : zp_Jn cu su p l e R s m args below meth c Q w u xs pc L ((0, b) :: (0, a) :: S) P G := by
  subst hn
  intro F H locs ls hF hI hL hkL hkS
  refine zw_bin (o := 0) hx hb rfl hdg (fun h => absurd h (by decide)) ?_
  have e : zk_bn 0 (Int32.ofInt a) (Int32.ofInt b) = Int32.ofInt (a + b) := by show Int32.ofInt a + Int32.ofInt b = _; rw [← Int32.ofInt_add]
  rw [e]
  exact kk F H locs ls hF hI hL hkL (List.forall_mem_cons.mpr ⟨zp_k0 hr, (zp_tl (zp_tl hkS).2).2⟩)
theorem zpn_sub (hx : p.tables.exec = Jvm.exec) (hb : c.code = cc) {a b n : Int} (hdg : decode cc pc = .ok (.isub, 1)) (hn : a - b = n) (hr : zk_rg 0 n) (kk : zp_Jn cu su p l e R s m args below meth c Q w u xs (pc + 1) L ((0, n) :: S) P G) : zp_Jn cu su p l e R s m args below meth c Q w u xs pc L ((0, b) :: (0, a) :: S) P G := by
  subst hn
  intro F H locs ls hF hI hL hkL hkS
  refine zw_bin (o := 1) hx hb rfl hdg (fun h => absurd h (by decide)) ?_
  have e : zk_bn 1 (Int32.ofInt a) (Int32.ofInt b) = Int32.ofInt (a - b) := by show Int32.ofInt a - Int32.ofInt b = _; rw [← Int32.ofInt_sub]
  rw [e]
  exact kk F H locs ls hF hI hL hkL (List.forall_mem_cons.mpr ⟨zp_k0 hr, (zp_tl (zp_tl hkS).2).2⟩)
theorem zpn_dup (hx : p.tables.exec = Jvm.exec) (hb : c.code = cc) {q : Nat × Int} (hdg : decode cc pc = .ok (.dup, 1)) (hq : q.1 ≠ 1) (kk : zp_Jn cu su p l e R s m args below meth c Q w u xs (pc + 1) L (q :: q :: S) P G) : zp_Jn cu su p l e R s m args below meth c Q w u xs pc L (q :: S) P G :=
  fun F H locs ls hF hI hL hkL hkS => lv_dup hx hb hdg (zp_cat hq) (kk F H locs ls hF hI hL hkL (List.forall_mem_cons.mpr ⟨(zp_tl hkS).1, hkS⟩))
theorem zpn_getf (hx : p.tables.exec = Jvm.exec) (hb : c.code = cc) {E : zk_Ev} (hE : zk_ctx l R s m args meth c w u zt_TB own zt_TB zt_mn E) (hw : w.1 = zt_types) {idx ci k j kd x a t : Nat} {c0 lo hi n : Int} (hdg : decode cc pc = .ok (.getfield idx, 3)) (hlk : E.2.1[j]? = some (2, idx, ci, k, c0)) (hf : zp_fd t k = some (ci, kd, x, lo, hi)) (hk : decide (kd ≤ 2) = true) (hp : P a = some t) (hv : G a k = n) (kk : zp_Jn cu su p l e R s m args below meth c Q w u xs (pc + 3) L ((kd, n) :: S) P G) : zp_Jn cu su p l e R s m args below meth c Q w u xs pc L ((2, (a : Int)) :: S) P G := by
  obtain ⟨-, e4, e5, e6, e7, e8, e9, e10, -⟩ := hE
  obtain ⟨e3, -⟩ := e10 _ (List.mem_of_getElem? hlk)
  intro F H locs ls hF hI hL hkL hkS
  obtain ⟨r1, fs, T, t1, t2, t3, t4, o1, o2, o3, v1⟩ := zp_rdf hI.1 hw hp hf (of_decide_eq_true hk)
  have hn : zp_n F a k = n := by rw [hF]; exact hv
  rw [hn] at r1 v1
  show W p l e R s m args below meth c H locs cu su Q (F0 m pc ls (zk_mk 2 (a : Int) :: S.map (fun q => zk_mk q.1 q.2)))
  rw [zp_ref]
  exact zw_getf hx hb e4 e5 e6 e7 e3 o3 v1 hdg (kk F H locs ls hF hI hL hkL (List.forall_mem_cons.mpr ⟨zp_ok_k r1 (of_decide_eq_true hk), (zp_tl hkS).2⟩))
theorem zpn_putf (hx : p.tables.exec = Jvm.exec) (hb : c.code = cc) {E : zk_Ev} (hE : zk_ctx l R s m args meth c w u zt_TB own zt_TB zt_mn E) (hw : w.1 = zt_types) {eff : List (Nat × Nat × Nat)} (heff : u.2.2.2.1 = eff) {idx ci k j kd x a t : Nat} {c0 lo hi n : Int} (hdg : decode cc pc = .ok (.putfield idx, 3)) (hlk : E.2.1[j]? = some (2, idx, ci, k, c0)) (hf : zp_fd t k = some (ci, kd, x, lo, hi)) (hpb : zp_pb eff t k kd c0 lo hi = true) (hp : P a = some t) (hok : zk_ok P (kd, x, lo, hi) n) (kk : zp_Jn cu su p l e R s m args below meth c Q w u xs (pc + 3) L S P (zp_set G a k n)) : zp_Jn cu su p l e R s m args below meth c Q w u xs pc L ((kd, n) :: (2, (a : Int)) :: S) P G := by
  obtain ⟨-, e4, e5, e6, e7, e8, e9, e10, -⟩ := hE
  obtain ⟨e3, C, T0, N0, fty, y4, y5, y6, y7, y8⟩ := e10 _ (List.mem_of_getElem? hlk)
  dsimp only at e3 y4 y5 y6 y7 y8
  unfold zp_pb at hpb
  simp only [Bool.and_eq_true, Bool.or_eq_true, decide_eq_true_eq, beq_iff_eq] at hpb
  obtain ⟨⟨⟨b1, b2⟩, b3⟩, b4⟩ := hpb
  intro F H locs ls hF hI hL hkL hkS
  have hkd : kd ≤ 2 := by omega
  obtain ⟨r1, fs, T, t1, t2, t3, t4, o1, o2, o3, v1⟩ := zp_rdf hI.1 hw hp hf hkd
  have hlen : k < fs.length := (List.getElem?_eq_some_iff.mp v1).1
  have hty : ∀ (C : String) (T : u_T) (N : Nat), w.2.1[ci]? = some (C, T, N) → ∃ ty, parseFieldDescriptor (T k).2.2.1 = some ty ∧ narrow ty (zk_mk kd n) = zk_mk kd n ∧ fits ty (zk_mk kd n) = true := by
    intro C' T' N' h
    cases y4.symm.trans h
    refine ⟨fty, y5, ?_⟩
    rcases b4 with (⟨b4, rfl⟩ | ⟨b4, rfl⟩) | ⟨⟨⟨b4, rfl⟩, b5⟩, b6⟩
    · rw [b4] at y6
      have y6 : zk_tyc fty = 0 := y6
      cases fty <;> simp [zk_tyc] at y6
      exact ⟨rfl, rfl⟩
    · rw [b4] at y6
      have y6 : zk_tyc fty = 1 := y6
      cases fty <;> simp [zk_tyc] at y6
      exact ⟨rfl, rfl⟩
    · rw [b4] at y6
      have y6 : zk_tyc fty = 3 := y6
      cases fty <;> simp [zk_tyc] at y6
      have h1 : lo ≤ n := hok.1
      have h2 : n ≤ hi := hok.2.1
      have : n = 0 ∨ n = 1 := by omega
      rcases this with rfl | rfl <;> exact ⟨by decide, by decide⟩
  have hc16 : c0 < 16 := by omega
  have hsame : zk_same (fun j => j = k) (F a) (.inr (ci, fs.set k (zk_mk kd n))) := by
    rw [o1]
    refine ⟨rfl, by simp, fun j hj => ?_⟩
    show fs[j]? = (fs.set k (zk_mk kd n))[j]?
    rw [List.getElem?_set_ne (fun h => hj h.symm)]
  show W p l e R s m args below meth c H locs cu su Q (F0 m pc ls (zk_mk kd n :: zk_mk 2 (a : Int) :: S.map (fun q => zk_mk q.1 q.2)))
  rw [zp_ref]
  refine zw_putf hx hb e4 e5 e6 e7 e3 o3 (fun C' T' N' h => Or.inl ?_) hty hlen hdg (fun H1 j hat hz hk => ?_)
  · cases y4.symm.trans h
    rw [y7]
    exact decide_eq_false (by omega)
  · refine kk _ H1 _ ls ?_ (zp_wr hI hp t1 ?_ hat hz hk hsame (fun k' hk' => ?_) (Or.inr ?_)) hL hkL (zp_tl (zp_tl hkS).2).2
    · funext b i
      by_cases hba : b = a
      · subst hba
        unfold zp_n zp_set
        rw [zk_up_self]
        show (match (fs.set k (zk_mk kd n))[i]? with | some v => zp_num v | none => 0) = _
        by_cases hik : i = k
        · subst hik
          rw [List.getElem?_set_self hlen, if_pos ⟨rfl, rfl⟩]
          exact zp_num_mk hok hkd
        · rw [List.getElem?_set_ne (fun h => hik h.symm), if_neg (fun h => hik h.2), ← hF]
          unfold zp_n
          rw [o1]
          rfl
      · rw [zp_set_ne (Or.inl hba), ← hF]
        unfold zp_n
        rw [zk_up_ne hba]
    · unfold zk_el
      rw [t2]
      refine ⟨fs.set k (zk_mk kd n), by rw [t3], zk_all2_setR o2 (fun g hg => ?_)⟩
      cases t4.symm.trans hg
      exact ⟨n, hok, rfl⟩
    · subst hk'
      rw [heff]
      refine zp_eb_ok b1 ?_
      unfold zk_pm
      rw [zk_er_lt b2]
      exact ⟨Nat.le_refl _, Nat.le_refl _⟩
    · intro r hr hrt
      have := List.all_eq_true.mp b3 r hr
      rw [bne_iff_ne] at this
      exact absurd hrt this
theorem zpn_kn {P : Nat → Option Nat} {G : Nat → Nat → Int} (hw : w.1 = zt_types) {ci k kd x a t : Nat} {lo hi : Int} (hf : zp_fd t k = some (ci, kd, x, lo, hi)) (hk : decide (kd ≤ 2) = true) (hp : P a = some t) (kk : zk_ok P (kd, x, lo, hi) (G a k) → zp_Jn cu su p l e R s m args below meth c Q w u xs pc L S P G) : zp_Jn cu su p l e R s m args below meth c Q w u xs pc L S P G := by
  intro F H locs ls hF hI hL hkL hkS
  have r := (zp_rdf hI.1 hw hp hf (of_decide_eq_true hk)).1
  rw [hF] at r
  exact kk r F H locs ls hF hI hL hkL hkS
theorem zpn_aast (hx : p.tables.exec = Jvm.exec) (hb : c.code = cc) {E : zk_Ev} (hE : zk_ctx l R s m args meth c w u zt_TB own zt_TB zt_mn E) (hw : w.1 = zt_types) {eff : List (Nat × Nat × Nat)} (heff : u.2.2.2.1 = eff) {a t j v t2 : Nat} {T T2 : zk_T} {i lo hi : Int} (hdg : decode cc pc = .ok (.aastore, 1)) (hT : zt_types[t]? = some T) (h1 : T.1 = 3) (hf : zk_f0 T = (2, t2, lo, hi)) (hT2 : zt_types[t2]? = some T2) (h2 : T2.1 = 0) (hp : P a = some t) (hv : P v = some t2) (hok : zk_ok P (2, t2, lo, hi) (v : Int)) (hi' : i = (j : Int)) (hj : j < T.2.1) (hj2 : j ≤ 1000000000) (ht : t ≠ 59 ∧ t ≠ 60) (he : zp_eb eff t 1001 = true) (kk : zp_Jn cu su p l e R s m args below meth c Q w u xs (pc + 1) L S P (zp_set G a (2000 + j) (v : Int))) : zp_Jn cu su p l e R s m args below meth c Q w u xs pc L ((2, (v : Int)) :: (0, i) :: (2, (a : Int)) :: S) P G := by
  obtain ⟨-, e4, e5, e6, e7, -⟩ := hE
  intro F H locs ls hF hI hL hkL hkS
  have hTw := hT
  rw [← hw] at hTw
  have hT2w := hT2
  rw [← hw] at hT2w
  obtain ⟨h3, h4, h5⟩ := hI.1.el hp hTw
  unfold zk_el at h3
  rw [h1] at h3
  obtain ⟨cA, n, f, o1, o2, o3, o4, o4', o5⟩ := h3
  rw [o1] at h4
  have o6 : H[a]? = some (vp_cell cA (n, .inr (.inr (.inr (.inr f))))) := h4
  obtain ⟨k1, k2⟩ := zp_tl hkS
  obtain ⟨k3, k4⟩ := zp_tl k2
  obtain ⟨i1, i2⟩ := zp_ix (n := n) hi' (by omega) k3.2.1
  obtain ⟨fs, b1, b2, b3, b4⟩ := zp_obj hI.1 hv hT2w h2
  obtain ⟨r, hr, b5⟩ := b3
  have hrn : zk_rn w T = r.1 := by
    unfold zk_rn
    rw [hf]
    dsimp only
    rw [hT2w]
    dsimp only
    rw [List.getD_eq_getElem?_getD, hr]
    rfl
  rw [hrn] at o4 o4'
  show W p l e R s m args below meth c H locs cu su Q (F0 m pc ls (zk_mk 2 (v : Int) :: .int (Int32.ofInt i) :: zk_mk 2 (a : Int) :: S.map (fun q => zk_mk q.1 q.2)))
  rw [zp_ref, zp_ref]
  have hfj : ∀ i, zk_fj T i = (2, t2, lo, hi) := fun i => by
    unfold zk_fj
    rw [hf]
    exact if_neg (show ¬ (2 : Nat) = 9 by decide)
  refine zw_aast hx hb e7 hr o6 o4 o4' i1 (o := some v) (fun v' hv' => by cases hv'; exact ⟨fs, r, hr, b5⟩) hdg (fun H1 jj e1 hz hk => ?_)
  rw [i2] at e1
  refine kk _ H1 _ ls (zp_up_r hF o1 (by omega)) (zp_wr hI hp hTw (pk := fun k => k = 2000 + j) ?_ (show va_at _ _ (a, .inl (cA, n, .inr (.inr (.inr (.inr (zk_up f j (some v))))))) H1 from e1) hz hk ?_ (fun k hk2 => ?_) (Or.inr trivial)) hL hkL (zp_tl k4).2
  · unfold zk_el
    rw [h1]
    refine ⟨cA, n, _, rfl, o2, o3, by rw [hrn]; exact o4, by rw [hrn]; exact o4', fun i' hi2 => ?_⟩
    by_cases hij : i' = j
    · subst hij
      rw [zk_up_self, hfj]
      refine ⟨(v : Int), hok, ?_⟩
      rw [zp_ref]
      rfl
    · rw [zk_up_ne hij]
      exact o5 i' hi2
  · rw [o1]
    refine ⟨rfl, rfl, fun i' hi2 hP => ?_⟩
    show some (va_rf (f i')) = some (va_rf (zk_up f j (some v) i'))
    rw [zk_up_ne (fun e => hP (by rw [e]))]
  · subst hk2
    rw [heff]
    exact zp_eb_ok he (zp_1001 hj2)
theorem zpn_iret (hx : p.tables.exec = Jvm.exec) (hb : c.code = cc) {E : zk_Ev} (hE : zk_ctx l R s m args meth c w u zt_TB own zt_TB zt_mn E) {ψ : (Nat → Option Nat) → (Nat → Nat → Int) → List Int → (Nat → Option Nat) → (Nat → Nat → Int) → Int → Prop} (hQ : Q = MQ below (fun _ st o t => zk_postX w (zk_ev E) (zp_B ψ) u.1 u.2.1 u.2.2.1 st t o) args s (zk_Kr (zk_ev E)).2.2.1 (zk_Kr (zk_ev E)).2.2.2 (fun q => w.2.2.2.1 ≤ q)) (h5 : u.2.2.2.2.1 = []) (hret : (zk_ev E).2.2.2.1 = some .int) (hk2 : zk_Kk (zk_ev E) ≠ 2) (hdg : decode cc pc = .ok (.ireturn, 1)) {j x : Nat} {lo hi n : Int} (hal : (zk_Ka (zk_ev E))[j]? = some (some (0, x, lo, hi), [])) (hn : zk_ok P (0, x, lo, hi) n) (hcu : cu ≤ (zk_Kr (zk_ev E)).2.2.1) (hsu : su ≤ (zk_Kr (zk_ev E)).2.2.2) (hB : ψ u.1 (zp_n u.2.1) u.2.2.1 P G n) : zp_Jn cu su p l e R s m args below meth c Q w u [] pc L [(0, n)] P G := by
  obtain ⟨⟨e1, e2, e3⟩, e4, e5, e6, e7, e8, e9, e10, e11, e12, e13, e14, e15, e16, e17, e18, e19, y1, y2, y3⟩ := hE
  intro F H locs ls hF hI hL hkL hkS
  have hG := zp_toG hI hL h5
  have hB2 : zp_B ψ u.1 u.2.1 u.2.2.1 P F n := by unfold zp_B; rw [hF]; exact hB
  refine W.widen hcu hsu ?_
  rw [hQ]
  have fin : ∀ t : State, t.heap = H → s.WarmedH t.vm → zk_postX w (zk_ev E) (zp_B ψ) u.1 u.2.1 u.2.2.1 s t (.returned (some (.int (Int32.ofInt n)))) := fun t ht hW => zk_fin (al := (some (0, x, lo, hi), [])) (rn := n) (X0 := fun _ => True) e8 e7 e3 e19 hG (by unfold zk_rct; rw [if_neg hk2]) (List.mem_of_getElem? hal) (fun f h => by cases h; exact ⟨hn, Nat.zero_le _⟩) (fun q h => absurd h List.not_mem_nil) (Or.inl ⟨hk2, hB2⟩) t ht hW
  have hr := e18.2.1
  rw [hret] at hr
  exact W.iret hx hb hr (fun t ht hW => fin t ht hW) hI.2.2.2.1.2.2 hdg e18.1
noncomputable def zpn_cb (eff : List (Nat × Nat × Nat)) (rm : Nat × Nat × Nat × Nat) (K : zk_K) (how cu su : Nat) : Bool := zp_rc K && (zk_hk how == zk_Kk K && (decide ((zk_Kr K).1 + 1 ≤ rm.1) && (decide (8 + (K.2.2.1 + 11) + (zk_Kr K).2.1 ≤ rm.2.1) && (decide (cu + (zk_Kr K).2.2.1 ≤ rm.2.2.1) && (decide (su + (zk_Kr K).2.2.2 ≤ rm.2.2.2) && (zk_Ke K).all (fun e => e.2.2 == 0 && eff.any (fun q => q.1 == e.1 && zk_cov q.2.1 e.2.1 && q.2.2 == 0)))))))
theorem zpn_call (hx : p.tables.exec = Jvm.exec) (hb : c.code = cc) {E : zk_Ev} (hE : zk_ctx l R s m args meth c w u zt_TB own zt_TB zt_mn E) (hw : w.1 = zt_types) {eff : List (Nat × Nat × Nat)} (heff : u.2.2.2.1 = eff) {rm : Nat × Nat × Nat × Nat} (hrm : zk_Kr (zk_ev E) = rm) {K : zk_K} {φ : (Nat → Option Nat) → (Nat → Nat → Int) → List Int → Prop} {ψ : (Nat → Option Nat) → (Nat → Nat → Int) → List Int → (Nat → Option Nat) → (Nat → Nat → Int) → Int → Prop} (hKX : zk_metX l w zt_dv zt_TB K (zp_A φ) (zp_B ψ) ∧ zk_cok w zt_TB K) (hdv : E.2.2.1 = zt_dv) {how idx mi j : Nat} (hlc : E.2.2.2.2.2.1[j]? = some (how, idx, mi)) (hmn : K.1 = zt_mn mi) (hcb : zpn_cb eff rm K how cu su = true) (hdg : decode cc pc = .ok (zk_ins how idx, 3)) {S0 : List (Nat × Int)} (ps : List Int) (hS : zp_as K ps ++ S = S0) (hok : zk_all2 (zk_ok P) (zk_Kp K) ps) (hcs : zp_cs S ≤ 8) (hA : φ P G ps)
    (kk : ∀ al ∈ zk_Ka K, ∀ (rn : Int) (P' : Nat → Option Nat) (G' : Nat → Nat → Int), (∀ a t, P a = some t → P' a = some t) → zp_fr (zk_Ke K) ps P G G' → (∀ f, al.1 = some f → zk_ok P' f rn ∧ f.1 ≤ 2) → (∀ q ∈ al.2, zk_num ps rn q.1 ≤ zk_num ps rn q.2.1 + q.2.2) → ψ P G ps P' G' rn → zp_Jn (cu + (zk_Kr K).2.2.1) (su + (zk_Kr K).2.2.2) p l e R s m args below meth c Q w u [] (pc + 3) L (match al.1 with
      | some f => (f.1, rn) :: S
      | none => S) P' G') : zp_Jn cu su p l e R s m args below meth c Q w u [] pc L S0 P G := by
  obtain ⟨⟨e1, e2, e3⟩, e4, e5, e6, e7, e8, e9, e10, e11, e12, e13, e14, e15, e16, e17, e18, e19, y1, y2, y3⟩ := hE
  unfold zpn_cb at hcb
  simp only [Bool.and_eq_true, decide_eq_true_eq, beq_iff_eq] at hcb
  obtain ⟨c1, c2, c3, c4, c5, c6, c7⟩ := hcb
  subst hS
  intro F H locs ls hF hI hL hkL hkS
  obtain ⟨i1, i2, i3, i4, i5⟩ := hI
  have hwt := i1.strong
  obtain ⟨hM, hC⟩ := hKX
  have hk2 : zk_Kk K ≠ 2 := by
    unfold zp_rc at c1
    simp only [Bool.and_eq_true, Bool.or_eq_true, beq_iff_eq] at c1
    rcases c1 with c1 | ⟨c1, -⟩ <;> omega
  have hlcq := e17 _ (List.mem_of_getElem? hlc)
  dsimp only at hlcq
  rw [← hmn] at hlcq
  have hgood : GoodIn zt_TB (Jvm.Cond.code K.1 K.2.1 K.2.2.1 K.2.2.2.1 :: zt_TB) := by
    intro x hx'
    rcases List.mem_cons.mp hx' with rfl | hx'
    · exact e14 _ hC.2.2.2.2.1
    · exact e14 x hx'
  have hbH : w.2.2.2.1 ≤ H.size := Nat.le_trans e9 i4.1
  have hpre : ∀ U : State, U.heap = H → s.WarmedH U.vm → zk_pre w zt_dv K P F ps H.size U := fun U hU hWm =>
    ⟨by rw [hU], hbH, by rw [hU]; exact hwt.moved hWm.alike, va_K.moved hWm.alike e7, fun hk => absurd hk hk2, y1.1 s U hWm (fun q hq => by rw [hU]; exact i4.2.1 q (Nat.lt_of_lt_of_le hq e9) (Nat.not_le.mpr hq)) y2, fun t a h => i2 a t (y3 t a h)⟩
  have hrc : zk_Kk K = 1 → ∃ b : Nat, ps[0]? = some (b : Int) ∧ (∃ f, (zk_Kp K)[0]? = some f ∧ 2 ≤ f.1) ∧ ∃ cell : Cell, H[b]? = some cell ∧ cell.vm.isStatics = false ∧ s.vm.findClass K.1.cls = some cell.cls := by
    intro hk
    unfold zp_rc at c1
    simp only [Bool.and_eq_true, Bool.or_eq_true, beq_iff_eq] at c1
    rcases c1 with c1 | ⟨-, c1⟩
    · omega
    · split at c1
      · rename_i f hf
        simp only [Bool.and_eq_true, beq_iff_eq, decide_eq_true_eq] at c1
        obtain ⟨⟨z1, z2⟩, z3⟩ := c1
        split at z3
        · rename_i T hT
          simp only [Bool.and_eq_true, beq_iff_eq, decide_eq_true_eq] at z3
          obtain ⟨⟨z3, z4⟩, z5⟩ := z3
          obtain ⟨n, n1, n2⟩ := zk_all2_get hok hf
          obtain ⟨fk, ft, fl, fh⟩ := f
          dsimp only at z1 z2 hT
          subst z1
          have n2 : fl ≤ n ∧ -1 ≤ n ∧ (fh < 0 → n < 0) ∧ (0 ≤ n → P n.toNat = some ft) := n2
          have hp := n2.2.2.2 (by omega)
          obtain ⟨fs, o1, o2, o3, o4⟩ := zk_obj hwt hp (by rw [hw]; exact hT) z3
          rw [z4] at o3
          refine ⟨n.toNat, by rw [n1]; congr 1; omega, ⟨_, hf, Nat.le_refl _⟩, ?_⟩
          rcases hC.2.2.2.2.2.1 (by omega) with ⟨-, T0, N0, hcl⟩ | ⟨h9, -⟩
          · exact va_recv e7 (zk_P1 o3) hcl (q0 := 0) rfl
          · exact absurd h9 z5
        · cases z3
      · cases c1
  have hlen := zk_all2_len hok
  have hstk : ((zp_as K ps ++ S).map (fun q => zk_mk q.1 q.2)) = (zk_avs (zk_Kp K) ps).reverse ++ S.map (fun q => zk_mk q.1 q.2) := by
    unfold zp_as zk_avs
    rw [List.map_append, List.map_reverse, List.map_zipWith]
  have hcat : ((S.map (fun q => zk_mk q.1 q.2)).map fun v => v.category).sum ≤ 8 := by
    rw [List.map_map]
    have : (S.map ((fun v => v.category) ∘ fun q => zk_mk q.1 q.2)) = S.map (fun q => if q.1 = 1 then 2 else 1) := List.map_congr_left (fun q _ => zk_mk_cat)
    rw [this]
    exact hcs
  rw [hdv] at e11
  rw [hrm] at e13
  have hrun := zk_run hx hb y1 (locs := locs) (cu := cu) (su := su) (pc := pc) (ls := ls) (rest := S.map (fun q => zk_mk q.1 q.2)) (e := e) (below := below) (meth := meth) e1 e6 e4 hM hC hgood hlcq c2 hok (show φ P (zp_n F) ps by rw [hF]; exact hA) hpre hrc (fun h => absurd h hk2) hL.1 hcat (R := R) ⟨by have := e13.1; omega, by have := e13.2.1; omega⟩ ⟨by have := e13.2.2.1; omega, by have := e13.2.2.2; omega⟩ hdg
  rw [hstk]
  intro T hT X
  obtain ⟨v, st₀, t, T', Lc, h0, X', hLc, f1', f2', hpost, st'⟩ := hrun T hT X
  obtain ⟨al, al1, rn, P', F', f1, f2, f3, f4, f5, f6, f7, f8, f9, g1, g2, hBB⟩ := hpost
  rw [h0] at f8 f9 g1
  have hvm : t.vm.Alike s.vm := by
    have := X'.warmed.alike
    rw [f2'] at this
    exact this.symm
  rw [← f1'] at f4 f8 f9 g1
  have hwt' : zk_wt w s P' F' T'.heap := f4.moved hvm
  have hI' : zp_I w s u [] P' F' T'.heap (locs ++ Lc) := by
    refine ⟨zp_wt.of hwt', fun a t h => f6 a t (i2 a t h), fun a t h => (i3 a t h).trans ((f7 a t (i2 a t h)).mono (fun k hk => ?_)), ⟨Nat.le_trans i4.1 f8, fun q g1 g2 => ?_, fun q hq => ?_⟩, fun q z1 z2 => ?_⟩
    · obtain ⟨q, q1, q2, q3, q4⟩ := hk
      have h7 := List.all_eq_true.mp c7 q q1
      simp only [Bool.and_eq_true, beq_iff_eq] at h7
      obtain ⟨h71, h72⟩ := h7
      obtain ⟨q', r1, r2⟩ := List.any_eq_true.mp h72
      simp only [Bool.and_eq_true, beq_iff_eq] at r2
      exact ⟨q', by rw [heff]; exact r1, r2.1.1.trans q2, zk_cov_ok r2.1.2 q3, Or.inl r2.2⟩
    · rw [f9 q (Nat.lt_of_lt_of_le g1 i4.1) (Nat.not_le.mp g2)]
      exact i4.2.1 q g1 g2
    · rcases List.mem_append.mp hq with g | g
      · exact i4.2.2 q g
      · exact hLc q g
    · obtain ⟨y1, y2⟩ := i5 q z1 z2
      obtain ⟨y3, y4⟩ := g1 q (Nat.lt_of_lt_of_le z1 i4.1) y1 (fun h => hk2 h.1)
      exact ⟨y3, y4.trans y2⟩
  have hfr := zp_ef_fr f7
  rw [hF] at hfr
  have hψ : ψ P G ps P' (zp_n F') rn := by
    have h := hBB
    unfold zp_B at h
    rw [hF] at h
    exact h
  have hkS' := fun q h => hkS q (List.mem_append_right _ h)
  have K2 := kk al al1 rn P' (zp_n F') f6 hfr f2 f3 hψ
  cases hal : al.1 with
  | some f =>
    rw [hal] at f1 K2
    have f1 : v = some (zk_mk f.1 rn) := by cases f1; rfl
    subst f1
    obtain ⟨k1, k2⟩ := f2 f hal
    obtain ⟨t2, a1, b1'⟩ := K2 F' T'.heap _ ls rfl hI' hL hkL (List.forall_mem_cons.mpr ⟨zp_ok_k k1 k2, hkS'⟩) T' rfl X'
    exact ⟨t2, st' t2 a1, b1'⟩
  | none =>
    rw [hal] at f1 K2
    have f1 : v = none := by cases f1; rfl
    subst f1
    obtain ⟨t2, a1, b1'⟩ := K2 F' T'.heap _ ls rfl hI' hL hkL hkS' T' rfl X'
    exact ⟨t2, st' t2 a1, b1'⟩
theorem zpn_of (h : zp_Jn 0 0 p l e R s m args below meth c Q w u xs pc L S P G) : zp_J p l e R s m args below meth c Q w u xs pc L S P G := h
end ZD6B
