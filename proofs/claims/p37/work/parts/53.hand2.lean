/-! part 53: by hand: an array read, an array written, a call that asks and tells more -/
section ZK53
variable {p : Program} {l : Launch} {e : Env} {R : Room} {s : State} {m : MethodId} {args : Array Value} {below : List Frame} {meth : Method} {c : Code} {Q : State → Prop}
variable {cc : ByteArray} {w : zk_W} {u : zk_M} {Ts : List Jvm.Cond} {own : String}
theorem zh_ald (hx : p.tables.exec = Jvm.exec) (hb : c.code = cc) {u : zk_M} {pc cu su : Nat} (hdg : decode cc pc = .ok (.iaload, 1)) {κ : zk_C} {N : List Int} {P : Nat → Option Nat} {F : Nat → va_E} {H : Heap} {locs : List Loc} {ls : Array Slot} {xi xa ti t : Nat} {oi li hi i : Int} {a : Nat} {st : List zk_S} {sv : List Value} (hG : zk_G w s u κ N P F H locs ls) (hS : zk_all2 (zk_sv κ.1 N) ((xi, oi) :: (xa, 0) :: st) sv) (hVi : κ.1[xi]? = some (0, ti, li, hi)) (hNi : N[xi]? = some i) (hVa : κ.1[xa]? = some (2, t, 0, 0)) (hNa : N[xa]? = some (a : Int)) {T : zk_T} (hp : P a = some t) (hT : w.1[t]? = some T) (hT1 : T.1 = 1) {cA : ClassId} {n : Nat} {f : Nat → Int32} (hF : F a = .inl (cA, n, .inl f)) (h0 : 0 ≤ i + oi) (h1 : i + oi < n) {lo h9 : Int} (hlo : lo ≤ (f (i + oi).toNat).toInt) (hhi : (f (i + oi).toNat).toInt ≤ h9)
    (kk : ∀ sv' : List Value, zk_G w s u (κ.1 ++ [(0, 0, lo, h9)], κ.2) (N ++ [(f (i + oi).toNat).toInt]) P F H locs ls → zk_all2 (zk_sv (κ.1 ++ [(0, 0, lo, h9)]) (N ++ [(f (i + oi).toNat).toInt])) ((κ.1.length, 0) :: st) sv' → W p l e R s m args below meth c H locs cu su Q (F0 m (pc + 1) ls sv')) : W p l e R s m args below meth c H locs cu su Q (F0 m pc ls sv) := by
  obtain ⟨v1, s1, rfl, q1, hS1⟩ := zk_all2_cons hS
  obtain ⟨v2, s2, rfl, q2, hS2⟩ := zk_all2_cons hS1
  obtain ⟨rfl, rg⟩ := zh_vi q1 hVi hNi
  obtain rfl := zh_vr q2 hVa hNa
  obtain ⟨cA', n', f', o1, o2, o3, o4, o5, o6, o7⟩ := zk_iarr hG.2.2.2.2.1 hp hT (Or.inl hT1)
  rw [hF] at o1
  cases o1
  rw [hT1] at o4
  have hix : (Int32.ofInt (i + oi)).toNatClampNeg = (i + oi).toNat := by
    show (Int32.ofInt (i + oi)).toInt.toNat = _
    rw [zk_i32 rg]
  have hok : zk_ok P (0, 0, lo, h9) (f (i + oi).toNat).toInt := ⟨hlo, hhi, (zk_to32 _).1⟩
  refine zw_iald hx hb o6 o4 (zh_in rg h0 h1) hdg ?_
  rw [hix]
  refine kk _ (hG.push hok) ⟨?_, zk_sv_mono (zk_le.snoc _ _) hS2⟩
  have : Value.int (f (i + oi).toNat) = zk_mk 0 (f (i + oi).toNat).toInt := congrArg Value.int (zk_to32 _).2
  rw [this]
  exact zk_sv_last hG.1 hok
/-- a number of an array of ints, by its part -/
theorem zh_el {P : Nat → Option Nat} {F : Nat → va_E} {H : Heap} (hwt : zk_wt w s P F H) {a t : Nat} {T : zk_T} (hp : P a = some t) (hT : w.1[t]? = some T) (hT1 : T.1 = 1) {cA : ClassId} {n : Nat} {f : Nat → Int32} (hF : F a = .inl (cA, n, .inl f)) {j : Nat} (hj : j < n) {x : Nat} {lo hi : Int} (hfj : zk_fj T j = (0, x, lo, hi)) : lo ≤ (f j).toInt ∧ (f j).toInt ≤ hi := by
  obtain ⟨cA', n', f', o1, o2, o3, o4, o5, o6, o7⟩ := zk_iarr hwt hp hT (Or.inl hT1)
  rw [hF] at o1
  cases o1
  obtain ⟨z, z1, z2⟩ := o5 j hj
  rw [hfj] at z1 z2
  have z1 : lo ≤ z ∧ z ≤ hi ∧ zk_rg 0 z := z1
  have z2 : Value.int (f j) = .int (Int32.ofInt z) := z2
  cases z2
  rename_i e
  rw [e, zk_i32 z1.2.2]
  exact ⟨z1.1, z1.2.1⟩
/-- a call by a contract that asks and tells more -/
theorem zh_call (hx : p.tables.exec = Jvm.exec) (hb : c.code = cc) {E : zk_Ev} {P0 : Nat → Option Nat} {X : Nat → Prop} (hE : zh_E l R s m args meth c w E P0 X) {ps' : List Int} {kp' : List zk_F} {eff : List (Nat × Nat × Nat)} (hlen : ps'.length = kp'.length) {K : zk_K} {mi : Nat} {A : zk_Q} {B : zk_B} (hKX : zk_metX l w E.2.2.1 zt_TB K A B ∧ zk_cok w zt_TB K) (hmn : K.1 = zt_mn mi) {i : ClassFile.Instr} {len pc : Nat} {κ : zk_C} {st : List zk_S} {cu su : Nat} {outs : List zk_O} (hs : zk_s7 E.1 E.2.2.1 [K] [mi] E.2.2.2.2.2.1 eff (zk_Kr (zk_ev E)) 0 i len pc κ st cu su = some outs) (hdg : decode cc pc = .ok (i, len)) {N : List Int} {P : Nat → Option Nat} {F : Nat → va_E} {H : Heap} {locs : List Loc} {ls : Array Slot} {sv : List Value} (hext : ∀ a t, P0 a = some t → P a = some t) (hG : zk_G w s (P, F, ps', eff, [], (zk_ev E).2.2.1, X) κ N P F H locs ls) (hS : zk_all2 (zk_sv κ.1 N) st sv)
    (hA : ∀ ps : List Int, zk_all2 (fun (q : zk_S) (n : Int) => ∃ k, N[q.1]? = some k ∧ n = k + q.2) (st.take (zk_Kp K).length).reverse ps → A P F ps)
    (kk : ∀ o ∈ outs, ∀ (N' : List Int) (P' : Nat → Option Nat) (F' : Nat → va_E) (H' : Heap) (locs' : List Loc) (ls' : Array Slot) (sv' : List Value) (ps : List Int) (rn : Int), zk_all2 (fun (q : zk_S) (n : Int) => ∃ k, N[q.1]? = some k ∧ n = k + q.2) (st.take (zk_Kp K).length).reverse ps → B P F ps P' F' rn → (N' = N ∨ N' = N ++ [rn]) → zk_G w s (P, F, ps', eff, [], (zk_ev E).2.2.1, X) o.2.1 N' P' F' H' locs' ls' → zk_all2 (zk_sv o.2.1.1 N') o.2.2.1 sv' → W p l e R s m args below meth c H' locs' o.2.2.2.1 o.2.2.2.2 Q (F0 m o.1 ls' sv')) : W p l e R s m args below meth c H locs cu su Q (F0 m pc ls sv) := by
  obtain ⟨⟨e1, e2, e3⟩, e4, e5, e6, e7, e8, e9, e10, e11, e12, e13, e14, e15, e16, e17, e18, e19, y1, y2, y3⟩ := hE [] P F eff [] ps' kp' hlen hext
  refine zk_s7X_ok (u := (P, F, ps', eff, [], (zk_ev E).2.2.1, X)) hx hb (Ts := zt_TB) (own := (zk_ev E).1.cls) (TB := zt_TB) (KS := [K]) (an := 0) (A := A) (B := B) (km := [mi]) (mn := zt_mn) y1 y2 y3 e1 e4 e6 e7 e8 e9 e14 (fun K' h => by cases h; exact hKX) (fun j K' k h1 h2 => ?_) e17 e13 hs hdg hG hS (fun K' ps h hp => by cases h; exact hA ps hp) (fun o ho N' P' F' H' locs' ls' sv' K' ps rn h hp hB hN hG' hS' => by cases h; exact kk o ho N' P' F' H' locs' ls' sv' ps rn hp hB hN hG' hS')
  match j, h1, h2 with
  | 0, h1, h2 => cases h1; cases h2; exact hmn
  | j + 1, h1, h2 => simp at h1
end ZK53
