/-! part e0: a constructor's contract by the checker that tells what stands there at its return -/
section ZE0
variable {p : Program} {l : Launch} {e : Env} {R : Room} {s : State} {m : MethodId} {args : Array Value} {below : List Frame} {meth : Method} {c : Code} {Q : State → Prop}
variable {cc : ByteArray} {w : zk_W} {u : zk_M} {Ts : List Jvm.Cond} {own : String}
theorem zh_finC {K : zk_K} {B : zk_B} {ty : List zk_T} (hw : w.1 = ty) (hK : va_K w.2.2.1 w.2.1 [] s) (hk : zk_Kk K = 2) (hu : u.2.2.2.1 = zk_Ke K) (hX : ∀ q, u.1 q = none → ¬ (zk_Kk K = 2 ∧ u.2.2.1[0]? = some (q : Int)) → u.2.2.2.2.2.2 q) {κ : zk_C} {N : List Int} {P : Nat → Option Nat} {F : Nat → va_E} {H : Heap} {locs : List Loc} {ls : Array Slot} (hG : zk_G w s u κ N P F H locs ls) (hct : zk_rct ty K κ = true) (hal : ((none, []) : zk_A) ∈ zk_Ka K)
    (hB : ∀ (z : Nat × Nat × List zk_S) (f : zk_F) (n : Nat) (fs : List Value), κ.2.2.2.1 = [z] → (zk_Kp K)[0]? = some f → u.2.2.1[0]? = some (n : Int) → P n = none → zk_all2 (zk_sv κ.1 N) z.2.2 fs → B u.1 u.2.1 u.2.2.1 (zk_up P n (some f.2.1)) (zk_up F n (.inr (z.2.1, fs))) 0) (t : State) (ht : t.heap = H) (hW : s.WarmedH t.vm) : zk_postX w K B u.1 u.2.1 u.2.2.1 s t (.returned none) := by
  obtain ⟨h1, h2, h3, h4, h5, h6, h7, h8, h9, h10, h11, h12, h13⟩ := hG
  rw [hu] at h8
  have hbase : ∀ q, q < s.heap.size → q < w.2.2.2.1 → t.heap[q]? = s.heap[q]? := fun q g1 g2 => by rw [ht]; exact h9.2.1 q g1 (Nat.not_le.mpr g2)
  unfold zk_rct at hct
  rw [if_pos hk] at hct
  split at hct
  · rename_i z f hz hf
    rw [Bool.and_eq_true] at hct
    obtain ⟨c1, c2⟩ := hct
    split at c2
    · rename_i T hT
      simp only [Bool.and_eq_true, beq_iff_eq] at c2
      obtain ⟨⟨⟨c3, c4⟩, c5⟩, c6⟩ := c2
      have hG0 : zk_G w s u κ N P F H locs ls := ⟨h1, h2, h3, h4, h5, h6, h7, by rw [hu]; exact h8, h9, h10, h11, h12, h13⟩
      rw [hz] at h4
      obtain ⟨n, fs, r1, r2, r3, r4, r5, r6, -⟩ := h4
      obtain ⟨n', y1, y2⟩ := h10 _ (List.contains_iff_mem.mp c1)
      dsimp only at y1 y2
      rw [r1] at y1
      cases y1
      have hfv := zk_rfit_ok h1 c5 r6
      have hext := zk_up_ext (t := f.2.1) r4
      refine ⟨(none, []), hal, 0, zk_up P n (some f.2.1), zk_up F n (.inr (z.2.1, fs)), rfl, fun g hg => (by cases hg), fun q h => absurd h List.not_mem_nil, ?_, va_K.moved hW.alike hK, fun a y ha => hext a y (h7 a y ha), fun a y ha => ?_, by rw [ht]; exact h9.1, hbase, fun q g1 g2 g3 => ?_, fun _ n2 f2 e1 e2 => ?_, hB z f n fs hz hf y2 r4 r6⟩
      · rw [ht]
        have hTw : w.1[f.2.1]? = some T := by rw [hw]; exact hT
        refine (h5.moved hW.alike).add r4 hTw ?_ r5 r3.1 (zk_rcr_ok hG0 hw c6 r6 r4)
        unfold zk_el
        rw [c3]
        exact ⟨fs, by rw [c4], zk_all2_imp (fun _ _ q => q.ext hext) hfv⟩
      · have hne : a ≠ n := by
          intro e
          subst e
          have := h7 a y ha
          rw [r4] at this
          cases this
        rw [zk_up_ne hne]
        exact h8 a y ha
      · obtain ⟨x1, x2⟩ := h13 q g1 (hX q g2 g3)
        have hne : q ≠ n := by
          intro e
          subst e
          exact g3 ⟨hk, y2⟩
        rw [zk_up_ne hne, ht]
        exact ⟨x1, x2⟩
      · rw [y2] at e1
        have : n2 = n := by cases e1; omega
        subst this
        rw [hf] at e2
        cases e2
        exact zk_up_self
    · cases c2
  · cases hct
end ZE0
/-- a constructor, by segments -/
theorem zh_methK {l : Launch} {w : zk_W} (hW : zh_W w) {lk : List zk_L} {KS : List zk_K} {km : List Nat} {lc : List (Nat × Nat × Nat)} {K : zk_K} {pl : Nat} {B : zk_B} (he0 : zk_e0b (zt_types, lk, zt_dv, KS, km, lc, K) = true) (hb : (zt_cokb pl K && (decide (KS.map (fun K => K.1) = km.map zt_mn) && (lk.all (zt_lkin K.1.cls) && lc.all (zt_lcin K.1.cls)))) = true) (hKS : ∀ K' ∈ KS, zh_K l w K')
    (hJ : ∀ (p : Program) (e : Env) (R : Room) (s : State) (m : MethodId) (args : Array Value) (below : List Frame) (meth : Method) (c : Code) (Q : State → Prop) (P0 : Nat → Option Nat) (G0 : Nat → va_E) (ps : List Int) (X : Nat → Prop), p.tables.exec = Jvm.exec → c.code = K.2.1 → zk_all2 (zk_ok P0) (zk_Kp K) ps → (∀ N' ca, zk_ctx l R s m args meth c w (P0, G0, ps, zk_Ke K, N', K.2.2.1, X) zt_TB K.1.cls zt_TB zt_mn (zt_types, lk, zt_dv, KS, km, lc, K.1, K.2.1, K.2.2.1, K.2.2.2.1, zk_Kk K, zk_Kc K, zk_Kp K, ca, zk_Ke K, zk_Kr K)) → Q = MQ below (fun _ st o t => zk_postX w K B P0 G0 ps st t o) args s (zk_Kr K).2.2.1 (zk_Kr K).2.2.2 (fun q => w.2.2.2.1 ≤ q) → ∀ (H : Heap) (locs : List Loc) (ls : Array Slot), zk_G w s (P0, G0, ps, zk_Ke K, [], K.2.2.1, X) (zk_k0 (zt_types, lk, zt_dv, KS, km, lc, K)) ([0, 0, -1] ++ ps) P0 G0 H locs ls → W p l e R s m args below meth c H locs 0 0 Q (F0 m 0 ls [])) : zk_metX l w zt_dv zt_TB K zk_tA B ∧ zk_cok w zt_TB K := by
  simp only [Bool.and_eq_true, decide_eq_true_eq] at hb
  obtain ⟨h1, h2, h3, h4⟩ := hb
  have hcok := zt_cok_ok hW.2.1 h1
  refine ⟨zk_methJ (E := (zt_types, lk, zt_dv, KS, km, lc, K)) (mn := zt_mn) (A := zk_tA) (B := B) he0 hW.1 (zt_dvok hW.2.1) (zt_clsok hW.2.1) zt_good (fun j K' hj => hKS K' (List.mem_of_getElem? hj)) (fun j K' k hj hk => ?_) hW.2.2.1 (fun s args hZ hts q hq => zt_lkin_ok hW (List.all_eq_true.mp h3 q hq) hZ hts) (fun s args hZ hts q hq => zt_lcin_ok hW (List.all_eq_true.mp h4 q hq) hZ hts) hcok (fun p e R s m args below meth c Q P0 G0 ps X hx hb hA hps hE hQ H locs ls hG => ?_), hcok⟩
  · have e1 : (KS.map (fun K => K.1))[j]? = some K'.1 := by rw [List.getElem?_map, hj]; rfl
    rw [h2, List.getElem?_map, hk] at e1
    exact (Option.some.inj e1).symm
  · exact hJ p e R s m args below meth c Q P0 G0 ps X hx hb hps (fun N' ca => hE N' P0 G0 (zk_Ke K) ca (fun _ _ h => h)) hQ H locs ls hG
section ZE0B
variable {p : Program} {l : Launch} {e : Env} {R : Room} {s : State} {m : MethodId} {args : Array Value} {below : List Frame} {meth : Method} {c : Code} {Q : State → Prop}
variable {cc : ByteArray} {w : zk_W} {u : zk_M} {Ts : List Jvm.Cond} {own : String}
variable {lk : List zk_L} {KS : List zk_K} {km : List Nat} {lc : List (Nat × Nat × Nat)} {K : zk_K} {P0 : Nat → Option Nat} {G0 : Nat → va_E} {ps : List Int} {X : Nat → Prop}
/-- from a place to marked places -/
theorem zh_segC (hx : p.tables.exec = Jvm.exec) (hb : c.code = cc) (hE : ∀ N' ca, zk_ctx l R s m args meth c w (P0, G0, ps, zk_Ke K, N', K.2.2.1, X) zt_TB K.1.cls zt_TB zt_mn (zt_types, lk, zt_dv, KS, km, lc, K.1, K.2.1, K.2.2.1, K.2.2.2.1, zk_Kk K, zk_Kc K, zk_Kp K, ca, zk_Ke K, zk_Kr K)) {CL : List zk_Ci} (hCL : ∀ q ∈ CL, decode cc q.1 = .ok (q.2.1, q.2.2.1)) {AN : List zk_An} {fuel pc : Nat} {κ : zk_C} {st : List zk_S} {cu su : Nat}
    (h0 : zk_go (zh_Es (zt_types, lk, zt_dv, KS, km, lc, K) (zk_Kp K) (zk_Ke K)) CL AN none fuel pc κ st cu su = true)
    {N : List Int} {P : Nat → Option Nat} {F : Nat → va_E} {H : Heap} {locs : List Loc} {ls : Array Slot} {sv : List Value} (hG : zk_G w s (P0, G0, ps, zk_Ke K, [], K.2.2.1, X) κ N P F H locs ls) (hS : zk_all2 (zk_sv κ.1 N) st sv)
    (hAN : ∀ A ∈ AN, ∀ (N' : List Int) (P' : Nat → Option Nat) (F' : Nat → va_E) (H' : Heap) (locs' : List Loc) (ls' : Array Slot) (sv' : List Value), zk_G w s (P0, G0, ps, zk_Ke K, [], K.2.2.1, X) A.2.1 N' P' F' H' locs' ls' → zk_all2 (zk_sv A.2.1.1 N') A.2.2.1 sv' → W p l e R s m args below meth c H' locs' A.2.2.2.1 A.2.2.2.2.1 Q (F0 m A.1 ls' sv')) : W p l e R s m args below meth c H locs cu su Q (F0 m pc ls sv) := by
  refine zk_seg (u := (P0, G0, ps, zk_Ke K, [], K.2.2.1, X)) (E := zh_Es (zt_types, lk, zt_dv, KS, km, lc, K) (zk_Kp K) (zk_Ke K)) (Ts := zt_TB) (own := K.1.cls) hx hb (fun N' => hE N' []) rfl hCL h0 (AL := []) (AN := AN) rfl (fun A hA => Or.inr (fun N' hl N2 P2 F2 H2 locs2 ls2 sv2 hG2 hS2 => ?_)) N P F H locs ls sv hG hS
  obtain ⟨h1, h2, h3, h4, h5, h6, h7, h8, h9, h10, h11, h12, h13⟩ := hG2
  exact hAN A hA N2 P2 F2 H2 locs2 ls2 sv2 ⟨h1, h2, h3, h4, h5, h6, h7, h8, h9, h10, h11, fun i n h => by simp at h, h13⟩ hS2
/-- a call by a contract that tells -/
theorem zh_callC (hx : p.tables.exec = Jvm.exec) (hb : c.code = cc) (hE : ∀ N' ca, zk_ctx l R s m args meth c w (P0, G0, ps, zk_Ke K, N', K.2.2.1, X) zt_TB K.1.cls zt_TB zt_mn (zt_types, lk, zt_dv, KS, km, lc, K.1, K.2.1, K.2.2.1, K.2.2.2.1, zk_Kk K, zk_Kc K, zk_Kp K, ca, zk_Ke K, zk_Kr K)) {K1 : zk_K} {mi : Nat} {B : zk_B} (hKX : zk_metX l w zt_dv zt_TB K1 zk_tA B ∧ zk_cok w zt_TB K1) (hmn : K1.1 = zt_mn mi) {i : ClassFile.Instr} {len pc : Nat} {κ : zk_C} {st : List zk_S} {cu su : Nat} {outs : List zk_O} (hs : zk_s7 zt_types zt_dv [K1] [mi] lc (zk_Ke K) (zk_Kr K) 0 i len pc κ st cu su = some outs) (hdg : decode cc pc = .ok (i, len)) {N : List Int} {P : Nat → Option Nat} {F : Nat → va_E} {H : Heap} {locs : List Loc} {ls : Array Slot} {sv : List Value} (hG : zk_G w s (P0, G0, ps, zk_Ke K, [], K.2.2.1, X) κ N P F H locs ls) (hS : zk_all2 (zk_sv κ.1 N) st sv)
    (kk : ∀ o ∈ outs, ∀ (N' : List Int) (P' : Nat → Option Nat) (F' : Nat → va_E) (H' : Heap) (locs' : List Loc) (ls' : Array Slot) (sv' : List Value) (ps1 : List Int) (rn : Int), zk_all2 (fun (q : zk_S) (n : Int) => ∃ k, N[q.1]? = some k ∧ n = k + q.2) (st.take (zk_Kp K1).length).reverse ps1 → B P F ps1 P' F' rn → (N' = N ∨ N' = N ++ [rn]) → zk_G w s (P0, G0, ps, zk_Ke K, [], K.2.2.1, X) o.2.1 N' P' F' H' locs' ls' → zk_all2 (zk_sv o.2.1.1 N') o.2.2.1 sv' → W p l e R s m args below meth c H' locs' o.2.2.2.1 o.2.2.2.2 Q (F0 m o.1 ls' sv')) : W p l e R s m args below meth c H locs cu su Q (F0 m pc ls sv) := by
  obtain ⟨⟨e1, e2, e3⟩, e4, e5, e6, e7, e8, e9, e10, e11, e12, e13, e14, e15, e16, e17, e18, e19, y1, y2, y3⟩ := hE [] []
  refine zk_s7X_ok (u := (P0, G0, ps, zk_Ke K, [], K.2.2.1, X)) hx hb (Ts := zt_TB) (own := K.1.cls) (TB := zt_TB) (KS := [K1]) (an := 0) (A := zk_tA) (B := B) (km := [mi]) (mn := zt_mn) y1 y2 y3 e1 e4 e6 e7 e8 e9 e14 (fun K' h => by cases h; exact hKX) (fun j K' k h1 h2 => ?_) e17 e13 hs hdg hG hS (fun K' ps h hp => trivial) (fun o ho N' P' F' H' locs' ls' sv' K' ps rn h hp hB hN hG' hS' => by cases h; exact kk o ho N' P' F' H' locs' ls' sv' ps rn hp hB hN hG' hS')
  match j, h1, h2 with
  | 0, h1, h2 => cases h1; cases h2; exact hmn
  | j + 1, h1, h2 => simp at h1
/-- the constructor's end -/
theorem zh_retC (hx : p.tables.exec = Jvm.exec) (hb : c.code = cc) {B : zk_B} (hE : ∀ N' ca, zk_ctx l R s m args meth c w (P0, G0, ps, zk_Ke K, N', K.2.2.1, X) zt_TB K.1.cls zt_TB zt_mn (zt_types, lk, zt_dv, KS, km, lc, K.1, K.2.1, K.2.2.1, K.2.2.2.1, zk_Kk K, zk_Kc K, zk_Kp K, ca, zk_Ke K, zk_Kr K)) (hQ : Q = MQ below (fun _ st o t => zk_postX w K B P0 G0 ps st t o) args s (zk_Kr K).2.2.1 (zk_Kr K).2.2.2 (fun q => w.2.2.2.1 ≤ q)) (hk2 : zk_Kk K = 2) (hret : K.2.2.2.1 = none) (hal : ((none, []) : zk_A) ∈ zk_Ka K) {pc cu su : Nat} {κ : zk_C} {N : List Int} {P : Nat → Option Nat} {F : Nat → va_E} {H : Heap} {locs : List Loc} {ls : Array Slot} {sv : List Value} (hdg : decode cc pc = .ok (.return_, 1)) (e5 : cu ≤ (zk_Kr K).2.2.1) (e6 : su ≤ (zk_Kr K).2.2.2) (hct : zk_rct zt_types K κ = true) (hG : zk_G w s (P0, G0, ps, zk_Ke K, [], K.2.2.1, X) κ N P F H locs ls) (hS : zk_all2 (zk_sv κ.1 N) [] sv)
    (hB : ∀ (z : Nat × Nat × List zk_S) (f : zk_F) (n : Nat) (fs : List Value), κ.2.2.2.1 = [z] → (zk_Kp K)[0]? = some f → ps[0]? = some (n : Int) → P n = none → zk_all2 (zk_sv κ.1 N) z.2.2 fs → B P0 G0 ps (zk_up P n (some f.2.1)) (zk_up F n (.inr (z.2.1, fs))) 0) : W p l e R s m args below meth c H locs cu su Q (F0 m pc ls sv) := by
  obtain ⟨⟨c1, c2, c3⟩, c4, c5, c6, c7, c8, c9, c10, c11, c12, c13, c14, c15, c16, c17, c18, c19, y1, y2, y3⟩ := hE [] (zk_Ka K)
  cases sv with
  | cons v r => exact hS.elim
  | nil =>
    have fin : ∀ t : State, t.heap = H → s.WarmedH t.vm → zk_postX w K B P0 G0 ps s t (.returned none) := fun t ht hWm => zh_finC (u := (P0, G0, ps, zk_Ke K, [], K.2.2.1, X)) (K := K) c8 c7 hk2 rfl c19 hG hct hal hB t ht hWm
    have hr : meth.sig.returnType = none := c18.2.1.trans hret
    refine W.widen e5 e6 ?_
    rw [hQ]
    exact W.vret hx hb hr (fun t ht hWm => fin t ht hWm) hG.2.2.2.2.2.2.2.2.1.2.2 hdg c18.1
end ZE0B
/-- what is known stays, one more field of an object besides -/
theorem zh_addf {w : zk_W} {s : State} {u : zk_M} {κ : zk_C} {N : List Int} {P : Nat → Option Nat} {F : Nat → va_E} {H : Heap} {locs : List Loc} {ls : Array Slot} (hG : zk_G w s u κ N P F H locs ls) {q : Nat × Nat × zk_S} (hq : zk_fa1 κ.1 N P F q.1 q.2.1 q.2.2) : zk_G w s u (κ.1, κ.2.1, q :: κ.2.2.1, κ.2.2.2) N P F H locs ls := by
  obtain ⟨h1, h2, h3, h4, h5, h6, h7, h8, h9, h10, h11, h12, h13⟩ := hG
  exact ⟨h1, h2, fun q' hq' => (List.mem_cons.mp hq').elim (fun e => by rw [e]; exact hq) (fun h => h3 q' h), h4, h5, h6, h7, h8, h9, h10, h11, h12, h13⟩
/-- a number that is known -/
theorem zB_cst {V : List zk_F} {N : List Int} {P : Nat → Option Nat} (hV : zk_all2 (zk_ok P) V N) {x t k : Nat} {o n : Int} {v : Value} (hv : zk_sv V N (x, o) v) (hx : V[x]? = some (k, t, n, n)) (hk : k ≤ 1) : zp_num v = n + o := by
  obtain ⟨f, n', e1, e2, e3, e4⟩ := hv
  cases hx.symm.trans e1
  obtain ⟨m, m1, m2⟩ := zk_all2_get hV hx
  obtain rfl : m = n' := Option.some.inj (m1.symm.trans e2)
  have hm : m = n := by
    match k, m2, hk with
    | 0, m2, _ => exact Int.le_antisymm m2.2.1 m2.1
    | 1, m2, _ => exact Int.le_antisymm m2.2.1 m2.1
  rw [e4, ← hm]
  match k, e3, hk with
  | 0, e3, _ => exact zk_i32 e3
  | 1, e3, _ => exact zk_i64 e3
theorem zB_el {V : List zk_F} {N : List Int} {P : Nat → Option Nat} {F : Nat → va_E} {A : List (Nat × Nat × zk_S)} (hV : zk_all2 (zk_ok P) V N) (hF : zk_fa V N P F A) {x y r k kd t : Nat} {c0 o : Int} (hm : (x, k, (y, o)) ∈ A) (hx : N[x]? = some (r : Int)) (hy : V[y]? = some (kd, t, c0, c0)) (hk : kd ≤ 1) : zp_n F r k = c0 + o := by
  obtain ⟨v, hv, sv⟩ := zh_rdf hF hm hx
  rw [zC_num hv]
  exact zB_cst hV sv hy hk
theorem zp_n_up {F : Nat → va_E} {n b k : Nat} {x : va_E} (h : b ≠ n) : zp_n (zk_up F n x) b k = zp_n F b k := by
  unfold zp_n
  rw [zk_up_ne h]
theorem zp_n_upo {F : Nat → va_E} {n k ci : Nat} {fs : List Value} {v : Value} (h : fs[k]? = some v) : zp_n (zk_up F n (.inr (ci, fs))) n k = zp_num v := by
  unfold zp_n
  rw [zk_up_self]
  show (match fs[k]? with
  | some v => zp_num v
  | none => 0) = _
  rw [h]
/-- a new object: what was there stays -/
theorem zp_n_new {P0 P : Nat → Option Nat} {G0 F : Nat → va_E} {ps : List Int} {n : Nat} {x : va_E} (hef : zk_ef [] ps P0 G0 F) (hext : ∀ a t, P0 a = some t → P a = some t) (hn : P n = none) : ∀ a t k, P0 a = some t → zp_n (zk_up F n x) a k = zp_n G0 a k := fun a t k ha => by
  have hne : a ≠ n := fun e => by
    have := hext a t ha
    rw [e, hn] at this
    cases this
  rw [zp_n_up hne]
  exact zp_ef_fr hef a t k ha (fun ⟨q, q1, _⟩ => absurd q1 List.not_mem_nil)
