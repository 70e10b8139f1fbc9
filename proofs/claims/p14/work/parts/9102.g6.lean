/-! part g6: Math's greater and lesser of longs, a division of ints, exactly -/
theorem zg_div32 {a b : Int} (ha : zk_rg 0 a) (hb : zk_rg 0 b) : Int32.ofInt a / Int32.ofInt b = Int32.ofInt (a.tdiv b) := (Int32.ofInt_tdiv (show (-2147483648 : Int) ≤ a from ha.1) (show a ≤ (2147483647 : Int) from ha.2) (show (-2147483648 : Int) ≤ b from hb.1) (show b ≤ (2147483647 : Int) from hb.2)).symm
theorem zg_nz32 {b : Int} (h : zk_rg 0 b) (h0 : b ≠ 0) : ¬ Int32.ofInt b = 0 := fun e => by
  have h1 := zk_i32 h
  rw [e] at h1
  exact h0 h1.symm
theorem zg_cs {S : List (Nat × Int)} : ((S.map (fun q => zk_mk q.1 q.2)).map fun v => v.category).sum = zp_cs S := by
  rw [List.map_map]
  have : (S.map ((fun v => v.category) ∘ fun q => zk_mk q.1 q.2)) = S.map (fun q => if q.1 = 1 then 2 else 1) := List.map_congr_left (fun q _ => zk_mk_cat)
  rw [this]
  rfl
section ZG6
variable {p : Program} {l : Launch} {e : Env} {R : Room} {s : State} {m : MethodId} {args : Array Value} {below : List Frame} {meth : Method} {c : Code} {Q : State → Prop}
variable {cc : ByteArray} {w : zk_W} {u : zk_M} {Ts : List Jvm.Cond} {own : String}
variable {xs : List Nat} {pc : Nat} {L : List (Nat × Nat × Int)} {S : List (Nat × Int)} {P : Nat → Option Nat} {G : Nat → Nat → Int}
theorem zp_idivx (hx : p.tables.exec = Jvm.exec) (hb : c.code = cc) {a b n : Int} (hdg : decode cc pc = .ok (.idiv, 1)) (h0 : b ≠ 0) (hn : a.tdiv b = n) (hr : zk_rg 0 n) (kk : zp_J p l e R s m args below meth c Q w u xs (pc + 1) L ((0, n) :: S) P G) : zp_J p l e R s m args below meth c Q w u xs pc L ((0, b) :: (0, a) :: S) P G := by
  subst hn
  intro F H locs ls hF hI hL hkL hkS
  have rb : zk_rg 0 b := (zp_tl hkS).1.2.1
  have ra : zk_rg 0 a := (zp_tl (zp_tl hkS).2).1.2.1
  refine zw_bin (o := 9) hx hb rfl hdg (fun _ => zg_nz32 rb h0) ?_
  have e : zk_bn 9 (Int32.ofInt a) (Int32.ofInt b) = Int32.ofInt (a.tdiv b) := zg_div32 ra rb
  rw [e]
  exact kk F H locs ls hF hI hL hkL (List.forall_mem_cons.mpr ⟨zp_k0 hr, (zp_tl (zp_tl hkS).2).2⟩)
theorem zp_maxl (hx : p.tables.exec = Jvm.exec) (hb : c.code = cc) {E : zk_Ev} (hE : zk_ctx l R s m args meth c w u zt_TB own zt_TB zt_mn E) {rm : Nat × Nat × Nat × Nat} (hrm : zk_Kr (zk_ev E) = rm) {idx j x : Nat} {v a b n : Int} (hdg : decode cc pc = .ok (.invokestatic idx, 3)) (hlk : E.2.1[j]? = some (6, idx, 2, x, v)) (hf : 1 ≤ rm.1) (hl : zp_cs S + 15 ≤ rm.2.1) (hn : max a b = n) (kk : zp_J p l e R s m args below meth c Q w u xs (pc + 3) L ((1, n) :: S) P G) : zp_J p l e R s m args below meth c Q w u xs pc L ((1, b) :: (1, a) :: S) P G := by
  obtain ⟨⟨e1, e2, e3⟩, e4, e5, e6, e7, e8, e9, e10, e11, e12, e13, -⟩ := hE
  have eL := e10 _ (List.mem_of_getElem? hlk)
  rw [hrm] at e13
  subst hn
  intro F H locs ls hF hI hL hkL hkS
  have rb : zk_rg 1 b := (zp_tl hkS).1.2.1
  have ra : zk_rg 1 a := (zp_tl (zp_tl hkS).2).1.2.1
  have hm : (if Int64.ofInt b < Int64.ofInt a then Int64.ofInt a else Int64.ofInt b) = Int64.ofInt (max a b) := by
    by_cases h : b < a
    · rw [if_pos ((zk_lt64 rb ra).mpr h)]; congr 1; omega
    · rw [if_neg (fun z => h ((zk_lt64 rb ra).mp z))]; congr 1; omega
  have hr : zk_rg 1 (max a b) := by
    obtain ⟨r1, r2⟩ := ra
    obtain ⟨r3, r4⟩ := rb
    constructor <;> omega
  show W p l e R s m args below meth c H locs 0 0 Q (F0 m pc ls (.long (Int64.ofInt b) :: .long (Int64.ofInt a) :: S.map (fun q => zk_mk q.1 q.2)))
  refine va_mmax_long hx hb (e1.trans hL.1.symm) e6 eL.1 eL.2.1 eL.2.2.1 eL.2.2.2 (Nat.le_trans hf e13.1) (by rw [zg_cs]; exact Nat.le_trans hl e13.2.1) (Nat.zero_le _) (Nat.zero_le _) hdg ?_
  rw [hm]
  exact kk F H locs ls hF hI hL hkL (List.forall_mem_cons.mpr ⟨zp_k1 hr, (zp_tl (zp_tl hkS).2).2⟩)
theorem zp_minl (hx : p.tables.exec = Jvm.exec) (hb : c.code = cc) {E : zk_Ev} (hE : zk_ctx l R s m args meth c w u zt_TB own zt_TB zt_mn E) {rm : Nat × Nat × Nat × Nat} (hrm : zk_Kr (zk_ev E) = rm) {idx j x : Nat} {v a b n : Int} (hdg : decode cc pc = .ok (.invokestatic idx, 3)) (hlk : E.2.1[j]? = some (6, idx, 3, x, v)) (hf : 1 ≤ rm.1) (hl : zp_cs S + 15 ≤ rm.2.1) (hn : min a b = n) (kk : zp_J p l e R s m args below meth c Q w u xs (pc + 3) L ((1, n) :: S) P G) : zp_J p l e R s m args below meth c Q w u xs pc L ((1, b) :: (1, a) :: S) P G := by
  obtain ⟨⟨e1, e2, e3⟩, e4, e5, e6, e7, e8, e9, e10, e11, e12, e13, -⟩ := hE
  have eL := e10 _ (List.mem_of_getElem? hlk)
  rw [hrm] at e13
  subst hn
  intro F H locs ls hF hI hL hkL hkS
  have rb : zk_rg 1 b := (zp_tl hkS).1.2.1
  have ra : zk_rg 1 a := (zp_tl (zp_tl hkS).2).1.2.1
  have hr : zk_rg 1 (min a b) := by
    obtain ⟨r1, r2⟩ := ra
    obtain ⟨r3, r4⟩ := rb
    constructor <;> omega
  show W p l e R s m args below meth c H locs 0 0 Q (F0 m pc ls (.long (Int64.ofInt b) :: .long (Int64.ofInt a) :: S.map (fun q => zk_mk q.1 q.2)))
  refine va_mmin_long hx hb (e1.trans hL.1.symm) e6 eL.1 eL.2.1 eL.2.2.1 eL.2.2.2 (Nat.le_trans hf e13.1) (by rw [zg_cs]; exact Nat.le_trans hl e13.2.1) (Nat.zero_le _) (Nat.zero_le _) hdg ?_
  have hm : ∀ v, v = Int64.ofInt (min a b) → W p l e R s m args below meth c H locs 0 0 Q (F0 m (pc + 3) ls (.long v :: S.map (fun q => zk_mk q.1 q.2))) := by
    intro v hv
    subst hv
    exact kk F H locs ls hF hI hL hkL (List.forall_mem_cons.mpr ⟨zp_k1 hr, (zp_tl (zp_tl hkS).2).2⟩)
  apply hm
  by_cases h : a < b
  · first | (rw [if_pos ((zk_lt64 ra rb).mpr h)]; congr 1; omega) | (rw [if_neg (fun z => absurd ((zk_lt64 rb ra).mp z) (by omega))]; congr 1; omega)
  · by_cases h' : b < a
    · first | (rw [if_neg (fun z => h ((zk_lt64 ra rb).mp z))]; congr 1; omega) | (rw [if_pos ((zk_lt64 rb ra).mpr h')]; congr 1; omega)
    · have : a = b := by omega
      subst this
      rw [ite_self]
      congr 1
      omega
end ZG6
