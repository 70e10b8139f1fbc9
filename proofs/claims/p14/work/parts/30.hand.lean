/-! part 50: methods done by hand: segments by the checker, what is wanting between them -/
theorem zk_methH {l : Launch} {w : zk_W} {TB : List Jvm.Cond} {E : zk_Ev} {mn : Nat → MethodName} {A : zk_Q} {B : zk_B} (hk2 : zk_Kk (zk_ev E) ≠ 2) (hc0 : zk_e0b E = true) (hw : w.1 = E.1) (hdv : zk_dvok w E.2.2.1) (hcl : zk_cls w TB) (hTB : GoodIn TB TB) (hKS : ∀ (j : Nat) (K : zk_K), E.2.2.2.1[j]? = some K → zk_met l w E.2.2.1 TB K ∧ zk_cok w TB K) (hkm : ∀ (j : Nat) (K : zk_K) (k : Nat), E.2.2.2.1[j]? = some K → E.2.2.2.2.1[j]? = some k → K.1 = mn k)
    (hst : zk_stab w) (hlk : ∀ (s : State) (args : Array Value), w.2.2.2.2.2 s → (∀ x ∈ TB, x.before args s = true) → ∀ q ∈ E.2.1, zk_lkok w s args (zk_ev E).1.cls q) (hlc : ∀ (s : State) (args : Array Value), w.2.2.2.2.2 s → (∀ x ∈ TB, x.before args s = true) → ∀ q ∈ E.2.2.2.2.2.1, zk_lc s args (zk_ev E).1.cls q.1 q.2.1 (mn q.2.2)) (hC : zk_cok w TB (zk_ev E)) 
    (hJ : ∀ (p : Program) (e : Env) (R : Room) (s : State) (m : MethodId) (args : Array Value) (below : List Frame) (meth : Method) (c : Code) (Q : State → Prop) (P0 : Nat → Option Nat) (G0 : Nat → va_E) (ps : List Int) (X : Nat → Prop), p.tables.exec = Jvm.exec → c.code = (zk_ev E).2.1 → A P0 G0 ps → zk_all2 (zk_ok P0) (zk_Kp (zk_ev E)) ps → (∀ N' P1 G1 eff ca ps' kp', ps'.length = (kp' : List zk_F).length → (∀ a t, P0 a = some t → P1 a = some t) → zk_ctx l R s m args meth c w (P1, G1, ps', eff, N', (zk_ev E).2.2.1, X) TB (zk_ev E).1.cls TB mn (E.1, E.2.1, E.2.2.1, E.2.2.2.1, E.2.2.2.2.1, E.2.2.2.2.2.1, (zk_ev E).1, (zk_ev E).2.1, (zk_ev E).2.2.1, (zk_ev E).2.2.2.1, zk_Kk (zk_ev E), zk_Kc (zk_ev E), kp', ca, eff, zk_Kr (zk_ev E))) → Q = MQ below (fun _ st o t => zk_postX w (zk_ev E) B P0 G0 ps st t o) args s (zk_Kr (zk_ev E)).2.2.1 (zk_Kr (zk_ev E)).2.2.2 (fun q => w.2.2.2.1 ≤ q) → ∀ (H : Heap) (locs : List Loc) (ls : Array Slot), zk_G w s (P0, G0, ps, zk_Ke (zk_ev E), [], (zk_ev E).2.2.1, X) (zk_k0 E) ([0, 0, -1] ++ ps) P0 G0 H locs ls → W p l e R s m args below meth c H locs 0 0 Q (F0 m 0 ls [])) : zk_metX l w E.2.2.1 TB (zk_ev E) A B := by
  intro P0 F0 ps sz hps hAA
  unfold zk_e0b at hc0
  rw [Bool.and_eq_true] at hc0
  obtain ⟨hz, hct⟩ := hc0
  have hz := of_decide_eq_true hz
  have hlen := zk_all2_len hps
  refine Met.ofW (cc := (zk_ev E).2.1) (maxL := (zk_ev E).2.2.1) (ret := (zk_ev E).2.2.2.1) hC.1 rfl ?_
  intro p e s m args below meth c s₁ B hml hv
  obtain ⟨rfl, hsz, hbs, hwt, hK, hth, hZ, htx⟩ := hv
  have hx := B.exec
  have hb := B.bytes
  have hts0 := atoms_spec B.pre
  have hts : ∀ x ∈ TB, x.before (zk_avs (zk_Kp (zk_ev E)) ps).toArray s = true := fun x h => hts0 x (List.mem_cons_of_mem _ h)
  have hown : s.vm.findClass (zk_ev E).1.cls = some m.cls := findClass_of_methodNamed B.named
  have hin : zk_Kk (zk_ev E) = 2 → meth.name = "<init>" := fun h => (name_of_methodNamed B.named B.method).1.trans (hC.2.2.2.2.2.2 h).1
  subst hsz
  let X : Nat → Prop := fun q => P0 q = none ∧ ¬ (zk_Kk (zk_ev E) = 2 ∧ ps[0]? = some (q : Int))
  have hE : ∀ N' P1 G1 eff ca ps' kp', ps'.length = (kp' : List zk_F).length → (∀ a t, P0 a = some t → P1 a = some t) → zk_ctx l (headSpec (Cond.code (zk_ev E).1 (zk_ev E).2.1 (zk_ev E).2.2.1 (zk_ev E).2.2.2.1 :: TB) (zk_rm (zk_ev E))).room s m (zk_avs (zk_Kp (zk_ev E)) ps).toArray meth c w (P1, G1, ps', eff, N', (zk_ev E).2.2.1, X) TB (zk_ev E).1.cls TB mn (E.1, E.2.1, E.2.2.1, E.2.2.2.1, E.2.2.2.2.1, E.2.2.2.2.2.1, (zk_ev E).1, (zk_ev E).2.1, (zk_ev E).2.2.1, (zk_ev E).2.2.2.1, zk_Kk (zk_ev E), zk_Kc (zk_ev E), kp', ca, eff, zk_Kr (zk_ev E)) := fun N' P1 G1 eff ca ps' kp' hpl hP1 =>
    ⟨⟨hml, rfl, rfl⟩, hts, hcl, hown, hK, hw, hbs, hlk s _ hZ hts, hdv, hin, ⟨Nat.le_refl _, Nat.le_refl _, Nat.le_refl _, Nat.le_refl _⟩, hTB, hKS, hkm, hlc s _ hZ hts, ⟨B.notSynchronized, B.returns, hpl.symm⟩, fun q h1 h2 => ⟨(by
      have h1 : P1 q = none := h1
      cases hq : P0 q with
      | none => rfl
      | some t => rw [hP1 q t hq] at h1; exact absurd h1 (by simp)), fun z => hk2 z.1⟩, hst, hZ, fun t a h => hP1 a t (htx t a h)⟩
  have hl := lv_entry (zk_avs (zk_Kp (zk_ev E)) ps) (n := (zk_ev E).2.2.1) (by rw [zk_lsz_ok hlen]; exact hz)
  rw [lg_entry_eq]
  generalize (lg_sl (zk_avs (zk_Kp (zk_ev E)) ps) ++ List.replicate ((zk_ev E).2.2.1 - (lg_sl (zk_avs (zk_Kp (zk_ev E)) ps)).length) Slot.unset).toArray = ls at hl ⊢
  have hV : ∀ (t : Nat) (f : zk_F), (zk_Kp (zk_ev E))[t]? = some f → (zk_V0 ++ zk_Kp (zk_ev E))[3 + t]? = some f := fun t f h => by
    rw [List.getElem?_append_right (by show 3 ≤ 3 + t; omega)]
    show (zk_Kp (zk_ev E))[3 + t - 3]? = some f
    rw [show 3 + t - 3 = t by omega]
    exact h
  have hN : ∀ (t : Nat) (n : Int), ps[t]? = some n → ([0, 0, -1] ++ ps : List Int)[3 + t]? = some n := fun t f h => by
    rw [List.getElem?_append_right (by show 3 ≤ 3 + t; omega)]
    show ps[3 + t - 3]? = some f
    rw [show 3 + t - 3 = t by omega]
    exact h
  refine hJ p e _ s m _ below meth c _ P0 F0 ps X hx hb hAA hps hE rfl s.heap [] ls ⟨zk_all2_app ⟨⟨by decide, by decide, by decide, by decide⟩, ⟨by decide, by decide, by decide, by decide⟩, ⟨by decide, by decide, fun _ => by decide, fun h => absurd h (by decide)⟩, trivial⟩ hps, fun q h => absurd h List.not_mem_nil, fun q h => absurd h List.not_mem_nil, ?_, hwt, ⟨_, hl, zk_larg_ok hps hV hN⟩, fun _ _ h => h, fun a t h => zk_same.rf, va_S.rf, fun q hq => ?_, fun q h => absurd h List.not_mem_nil, fun i n h => by simp at h, fun q _ h => ⟨h.1, rfl⟩⟩
  · show zk_rw w _ _ _ P0 s.heap (zk_rw0 E) s.heap.size
    unfold zk_rw0
    split
    · rename_i hk
      obtain ⟨n, f, T, ds, t1, t2, t3, t4, t5, t6, t7, t8, t9⟩ := hth hk
      rw [hw] at t3
      rw [if_pos hk] at hct
      rw [t2]
      dsimp only
      rw [t3]
      dsimp only
      have hds : E.2.2.1.getD T.2.1 [] = ds := by rw [List.getD_eq_getElem?_getD, t5]; rfl
      rw [hds]
      refine ⟨n, ds.map zk_dval, hN 0 n t1, t6, ⟨t7, fun h => h.2.2 ⟨hk, t1⟩⟩, t8, t9, zk_dval_sv (E := E) ⟨rfl, rfl, rfl⟩ (List.all_eq_true.mp hct ds (List.mem_of_getElem? t5)), trivial⟩
    · trivial
  · obtain ⟨j, h1, rfl⟩ := List.mem_map.mp hq
    have h1 := List.mem_range.mp h1
    have hj : j < ps.length := by rw [← hlen]; exact h1
    exact ⟨ps[j], hN j _ (List.getElem?_eq_getElem hj), List.getElem?_eq_getElem hj⟩
/-- what a segment needs from outside -/
noncomputable def zh_E (l : Launch) (R : Room) (s : State) (m : MethodId) (args : Array Value) (meth : Method) (c : Code) (w : zk_W) (E : zk_Ev) (P0 : Nat → Option Nat) (X : Nat → Prop) : Prop := ∀ N' P1 G1 eff ca ps' kp', ps'.length = (kp' : List zk_F).length → (∀ a t, P0 a = some t → P1 a = some t) → zk_ctx l R s m args meth c w (P1, G1, ps', eff, N', (zk_ev E).2.2.1, X) zt_TB (zk_ev E).1.cls zt_TB zt_mn (E.1, E.2.1, E.2.2.1, E.2.2.2.1, E.2.2.2.2.1, E.2.2.2.2.2.1, (zk_ev E).1, (zk_ev E).2.1, (zk_ev E).2.2.1, (zk_ev E).2.2.2.1, zk_Kk (zk_ev E), zk_Kc (zk_ev E), kp', ca, eff, zk_Kr (zk_ev E))
/-- the tables for a segment: the effects, the parameters -/
noncomputable def zh_Es (E : zk_Ev) (kp' : List zk_F) (eff : List (Nat × Nat × Nat)) : zk_Ev := (E.1, E.2.1, E.2.2.1, E.2.2.2.1, E.2.2.2.2.1, E.2.2.2.2.2.1, (zk_ev E).1, (zk_ev E).2.1, (zk_ev E).2.2.1, (zk_ev E).2.2.2.1, zk_Kk (zk_ev E), zk_Kc (zk_ev E), kp', [], eff, zk_Kr (zk_ev E))
section ZK50
variable {p : Program} {l : Launch} {e : Env} {R : Room} {s : State} {m : MethodId} {args : Array Value} {below : List Frame} {meth : Method} {c : Code} {Q : State → Prop}
variable {cc : ByteArray} {w : zk_W} {u : zk_M} {Ts : List Jvm.Cond} {own : String}
theorem zh_seg (hx : p.tables.exec = Jvm.exec) (hb : c.code = cc) {E : zk_Ev} {P0 : Nat → Option Nat} {X : Nat → Prop} (hE : zh_E l R s m args meth c w E P0 X) {kp' : List zk_F} {eff : List (Nat × Nat × Nat)} {ps' : List Int} (hlen : ps'.length = kp'.length) {CL : List zk_Ci} (hCL : ∀ q ∈ CL, decode cc q.1 = .ok (q.2.1, q.2.2.1)) {AL AN : List zk_An} {fuel pc : Nat} {κ : zk_C} {st : List zk_S} {cu su : Nat}
    (h0 : (zk_go (zh_Es E kp' eff) CL AN none fuel pc κ st cu su && AL.all (fun A => A.2.2.2.2.2.2.all (fun t => decide (t.2 < A.2.1.1.length)) && (match zk_lbd A.2.1.1 A.2.2.2.2.2.2 with
    | some b => decide (0 ≤ A.2.2.2.2.2.1 + b)
    | none => false) && zk_go (zh_Es E kp' eff) CL AN (some A.2.2.2.2.2) fuel A.1 A.2.1 A.2.2.1 A.2.2.2.1 A.2.2.2.2.1)) = true)
    {N : List Int} {P : Nat → Option Nat} {F : Nat → va_E} {H : Heap} {locs : List Loc} {ls : Array Slot} {sv : List Value} (hext : ∀ a t, P0 a = some t → P a = some t) (hG : zk_G w s (P, F, ps', eff, [], (zk_ev E).2.2.1, X) κ N P F H locs ls) (hS : zk_all2 (zk_sv κ.1 N) st sv)
    (hAN : ∀ A ∈ AN, A ∈ AL ∨ ∀ (N' : List Int) (P' : Nat → Option Nat) (F' : Nat → va_E) (H' : Heap) (locs' : List Loc) (ls' : Array Slot) (sv' : List Value), zk_G w s (P, F, ps', eff, N', (zk_ev E).2.2.1, X) A.2.1 N' P' F' H' locs' ls' → zk_all2 (zk_sv A.2.1.1 N') A.2.2.1 sv' → W p l e R s m args below meth c H' locs' A.2.2.2.1 A.2.2.2.2.1 Q (F0 m A.1 ls' sv')) : W p l e R s m args below meth c H locs cu su Q (F0 m pc ls sv) := by
  rw [Bool.and_eq_true] at h0
  refine zk_seg (u := (P, F, ps', eff, [], (zk_ev E).2.2.1, X)) (E := zh_Es E kp' eff) (Ts := zt_TB) (own := (zk_ev E).1.cls) hx hb (fun N' => hE N' P F eff [] ps' kp' hlen hext) rfl hCL h0.1 h0.2 (fun A hA => ?_) N P F H locs ls sv hG hS
  rcases hAN A hA with g | g
  · exact Or.inl g
  · refine Or.inr (fun N' hl N2 P2 F2 H2 locs2 ls2 sv2 hG2 hS2 => ?_)
    have e : N2 = N' := zk_pre_eq hG2.2.2.2.2.2.2.2.2.2.2.2.1 (by have := zk_all2_len hG2.1; omega)
    subst e
    exact g _ P2 F2 H2 locs2 ls2 sv2 hG2 hS2
/-- one begins anew, with other numbers for parameters -/
theorem zh_reb {ps : List Int} {eff eff' : List (Nat × Nat × Nat)} {nL : Nat} {X : Nat → Prop} {P1 : Nat → Option Nat} {G1 : Nat → va_E} {N1 : List Int} {κ : zk_C} {N : List Int} {P : Nat → Option Nat} {F : Nat → va_E} {H : Heap} {locs : List Loc} {ls : Array Slot} (hG : zk_G w s (P1, G1, ps, eff, N1, nL, X) κ N P F H locs ls) {ps' : List Int} {pa : List (Nat × Nat)} (hpa : zk_pa N ps' pa) : zk_G w s (P, F, ps', eff', [], nL, X) (κ.1, κ.2.1, κ.2.2.1, κ.2.2.2.1, κ.2.2.2.2.1, pa, []) N P F H locs ls := by
  obtain ⟨h1, h2, h3, h4, h5, h6, h7, h8, h9, h10, h11, h12, h13⟩ := hG
  exact ⟨h1, h2, h3, h4, h5, h6, fun _ _ h => h, fun _ _ _ => zk_same.rf, h9, hpa, fun q h => absurd h List.not_mem_nil, fun i n h => by simp at h, h13⟩
/-- what was written by two ways one behind the other -/
theorem zh_ef {e1 e2 e3 : List (Nat × Nat × Nat)} {ps1 ps2 ps3 : List Int} {P1 P2 : Nat → Option Nat} {G1 G2 G3 : Nat → va_E} (h1 : zk_ef e1 ps1 P1 G1 G2) (h2 : zk_ef e2 ps2 P2 G2 G3) (hP : ∀ a t, P1 a = some t → P2 a = some t) (i1 : ∀ e ∈ e1, e ∈ e3 ∧ e.2.2 = 0) (i2 : ∀ e ∈ e2, e ∈ e3 ∧ e.2.2 = 0) : zk_ef e3 ps3 P1 G1 G3 := by
  intro a t ha
  refine ((h1 a t ha).mono (fun k hk => ?_)).trans ((h2 a t (hP a t ha)).mono (fun k hk => ?_))
  · obtain ⟨q, q1, q2, q3, -⟩ := hk
    exact ⟨q, (i1 q q1).1, q2, q3, Or.inl (i1 q q1).2⟩
  · obtain ⟨q, q1, q2, q3, -⟩ := hk
    exact ⟨q, (i2 q q1).1, q2, q3, Or.inl (i2 q q1).2⟩
/-- back to the method's own beginning -/
theorem zh_back {ps ps1 : List Int} {eff e1 : List (Nat × Nat × Nat)} {nL : Nat} {X : Nat → Prop} {P0 P1 : Nat → Option Nat} {G0 G1 : Nat → va_E} {N1 : List Int} {κ : zk_C} {N : List Int} {P : Nat → Option Nat} {F : Nat → va_E} {H : Heap} {locs : List Loc} {ls : Array Slot} (hG : zk_G w s (P1, G1, ps1, e1, N1, nL, X) κ N P F H locs ls) (hext : ∀ a t, P0 a = some t → P1 a = some t) (hef : zk_ef eff ps P0 G0 F) {pa : List (Nat × Nat)} (hpa : zk_pa N ps pa) : zk_G w s (P0, G0, ps, eff, [], nL, X) (κ.1, κ.2.1, κ.2.2.1, κ.2.2.2.1, κ.2.2.2.2.1, pa, []) N P F H locs ls := by
  obtain ⟨h1, h2, h3, h4, h5, h6, h7, h8, h9, h10, h11, h12, h13⟩ := hG
  exact ⟨h1, h2, h3, h4, h5, h6, fun a t h => h7 a t (hext a t h), hef, h9, hpa, fun q h => absurd h List.not_mem_nil, fun i n h => by simp at h, h13⟩
theorem zh_i {P : Nat → Option Nat} {V : List zk_F} {N : List Int} (h : zk_all2 (zk_ok P) V N) {i : Nat} {lo hi : Int} (hv : V[i]? = some (0, 0, lo, hi)) : ∃ n, N[i]? = some n ∧ lo ≤ n ∧ n ≤ hi := by
  obtain ⟨n, e1, e2⟩ := zk_all2_get h hv
  exact ⟨n, e1, e2.1, e2.2.1⟩
theorem zh_r {P : Nat → Option Nat} {V : List zk_F} {N : List Int} (h : zk_all2 (zk_ok P) V N) {i t : Nat} (hv : V[i]? = some (2, t, 0, 0)) : ∃ a : Nat, N[i]? = some (a : Int) ∧ P a = some t := by
  obtain ⟨n, e1, e2⟩ := zk_all2_get h hv
  have e2 : (0 : Int) ≤ n ∧ -1 ≤ n ∧ _ ∧ (0 ≤ n → P n.toNat = some t) := e2
  refine ⟨n.toNat, by rw [e1]; congr 1; omega, e2.2.2.2 e2.1⟩
theorem zh_d {N : List Int} {D : List (Nat × Nat × Int)} (h : zk_df N D) {x y : Nat} {d a b : Int} (hm : (x, y, d) ∈ D) (hx : N[x]? = some a) (hy : N[y]? = some b) : a ≤ b + d := by
  obtain ⟨n, k, e1, e2, e3⟩ := h _ hm
  rw [hx] at e1
  rw [hy] at e2
  cases e1
  cases e2
  exact e3
end ZK50
section ZK50B
variable {p : Program} {l : Launch} {e : Env} {R : Room} {s : State} {m : MethodId} {args : Array Value} {below : List Frame} {meth : Method} {c : Code} {Q : State → Prop}
variable {cc : ByteArray} {w : zk_W} {u : zk_M} {Ts : List Jvm.Cond} {own : String}
theorem zh_tail (hx : p.tables.exec = Jvm.exec) (hb : c.code = cc) {E : zk_Ev} {P0 : Nat → Option Nat} {G0 : Nat → va_E} {ps : List Int} {X : Nat → Prop} (hE : zh_E l R s m args meth c w E P0 X) (hQ : Q = MQ below (fun _ st o t => zk_post w (zk_ev E) P0 G0 ps st t o) args s (zk_Kr (zk_ev E)).2.2.1 (zk_Kr (zk_ev E)).2.2.2 (fun q => w.2.2.2.1 ≤ q)) (hps : ps.length = (zk_Kp (zk_ev E)).length) {CL : List zk_Ci} (hCL : ∀ q ∈ CL, decode cc q.1 = .ok (q.2.1, q.2.2.1)) {fuel pc : Nat} {κ : zk_C} {st : List zk_S} {cu su : Nat}
    (h0 : zk_go E CL [] none fuel pc κ st cu su = true) {N : List Int} {P : Nat → Option Nat} {F : Nat → va_E} {H : Heap} {locs : List Loc} {ls : Array Slot} {sv : List Value} (hG : zk_G w s (P0, G0, ps, zk_Ke (zk_ev E), [], (zk_ev E).2.2.1, X) κ N P F H locs ls) (hS : zk_all2 (zk_sv κ.1 N) st sv) : W p l e R s m args below meth c H locs cu su Q (F0 m pc ls sv) :=
  zk_go_ok (u := (P0, G0, ps, zk_Ke (zk_ev E), [], (zk_ev E).2.2.1, X)) (E := E) (M0 := none) (AN := []) (Ts := zt_TB) (own := (zk_ev E).1.cls) (TB := zt_TB) (mn := zt_mn) hx hb (hE [] P0 G0 (zk_Ke (zk_ev E)) (zk_Ka (zk_ev E)) ps (zk_Kp (zk_ev E)) hps (fun _ _ h => h)) (Or.inl hQ) hCL (fun M h => by cases h) (fun A hA => absurd hA List.not_mem_nil) h0 N P F H locs ls sv hG hS
theorem zh_un {ps : List Int} {eff : List (Nat × Nat × Nat)} {nL : Nat} {X : Nat → Prop} {P1 : Nat → Option Nat} {G1 : Nat → va_E} {N1 : List Int} {κ : zk_C} {N : List Int} {P : Nat → Option Nat} {F : Nat → va_E} {H : Heap} {locs : List Loc} {ls : Array Slot} (hG : zk_G w s (P1, G1, ps, eff, N1, nL, X) κ N P F H locs ls) : zk_G w s (P1, G1, ps, eff, [], nL, X) κ N P F H locs ls := by
  obtain ⟨h1, h2, h3, h4, h5, h6, h7, h8, h9, h10, h11, h12, h13⟩ := hG
  exact ⟨h1, h2, h3, h4, h5, h6, h7, h8, h9, h10, h11, fun i n h => by simp at h, h13⟩
/-- what is known fits what is asked -/
theorem zh_fit {ps : List Int} {eff : List (Nat × Nat × Nat)} {nL : Nat} {X : Nat → Prop} {P1 : Nat → Option Nat} {G1 : Nat → va_E} {N1 : List Int} {κ : zk_C} {N : List Int} {P : Nat → Option Nat} {F : Nat → va_E} {H : Heap} {locs : List Loc} {ls : Array Slot} {st : List zk_S} {sv : List Value} (hG : zk_G w s (P1, G1, ps, eff, N1, nL, X) κ N P F H locs ls) (hS : zk_all2 (zk_sv κ.1 N) st sv) (A : zk_An) (th : List zk_S) (h : zk_mt κ st 0 0 A th = true) : zk_G w s (P1, G1, ps, eff, [], nL, X) A.2.1 (th.map (zk_val N)) P F H locs ls ∧ zk_all2 (zk_sv A.2.1.1 (th.map (zk_val N))) A.2.2.1 sv := by
  obtain ⟨g1, g2, -⟩ := zk_mt_ok hG hS h
  exact ⟨zh_un g1, g2⟩
/-- a field's number comes to what is known -/
theorem zh_fact {u : zk_M} {κ : zk_C} {N : List Int} {P : Nat → Option Nat} {F : Nat → va_E} {H : Heap} {locs : List Loc} {ls : Array Slot} (hG : zk_G w s u κ N P F H locs ls) {x a t k : Nat} {f : zk_F} {n : Int} {v : Value} (hx : N[x]? = some (a : Int)) (hp : P a = some t) (hrd : zk_rd (F a) k = some v) (hv : v = zk_mk f.1 n) (hf : zk_ok P f n) : zk_G w s u (κ.1 ++ [f], κ.2.1, (x, k, (κ.1.length, 0)) :: κ.2.2.1, κ.2.2.2) (N ++ [n]) P F H locs ls := by
  have hG2 := hG.push hf
  refine ⟨hG2.1, hG2.2.1, fun q hq => ?_, hG2.2.2.2⟩
  rcases List.mem_cons.mp hq with rfl | hq
  · exact ⟨(a : Int), t, v, zk_get_snoc hx, Int.natCast_nonneg _, by rw [Int.toNat_natCast]; exact hp, by rw [Int.toNat_natCast]; exact hrd, by rw [hv]; exact zk_sv_last hG.1 hf⟩
  · exact hG2.2.2.1 q hq
theorem zh_factc {u : zk_M} {κ : zk_C} {N : List Int} {P : Nat → Option Nat} {F : Nat → va_E} {H : Heap} {locs : List Loc} {ls : Array Slot} (hG : zk_G w s u κ N P F H locs ls) {x a t k : Nat} {q : zk_S} {v : Value} (hx : N[x]? = some (a : Int)) (hp : P a = some t) (hrd : zk_rd (F a) k = some v) (hv : zk_sv κ.1 N q v) : zk_G w s u (κ.1, κ.2.1, (x, k, q) :: κ.2.2.1, κ.2.2.2) N P F H locs ls := by
  obtain ⟨h1, h2, h3, h4⟩ := hG
  refine ⟨h1, h2, fun z hz => ?_, h4⟩
  rcases List.mem_cons.mp hz with rfl | hz
  · exact ⟨(a : Int), t, v, hx, Int.natCast_nonneg _, by rw [Int.toNat_natCast]; exact hp, by rw [Int.toNat_natCast]; exact hrd, hv⟩
  · exact h3 z hz
/-- a fact read back -/
theorem zh_rdf {V : List zk_F} {N : List Int} {P : Nat → Option Nat} {F : Nat → va_E} {A : List (Nat × Nat × zk_S)} (h : zk_fa V N P F A) {x a k : Nat} {q : zk_S} (hm : (x, k, q) ∈ A) (hx : N[x]? = some (a : Int)) : ∃ v, zk_rd (F a) k = some v ∧ zk_sv V N q v := by
  obtain ⟨n, t, v, e1, e2, e3, e4, e5⟩ := h _ hm
  rw [hx] at e1
  cases e1
  rw [Int.toNat_natCast] at e4
  exact ⟨v, e4, e5⟩
theorem zh_pa {N ps : List Int} {A : List (Nat × Nat)} (h : zk_pa N ps A) {j x : Nat} {v : Int} (hm : (j, x) ∈ A) (hp : ps[j]? = some v) : N[x]? = some v := by
  obtain ⟨n, e1, e2⟩ := h _ hm
  rw [hp] at e2
  rw [e1, e2]
theorem zh_vi {V : List zk_F} {N : List Int} {x t : Nat} {o lo hi n : Int} {v : Value} (hv : zk_sv V N (x, o) v) (hV : V[x]? = some (0, t, lo, hi)) (hn : N[x]? = some n) : v = .int (Int32.ofInt (n + o)) ∧ zk_rg 0 (n + o) := by
  obtain ⟨f, n', e1, e2, e3, e4⟩ := hv
  cases hV.symm.trans e1
  cases hn.symm.trans e2
  exact ⟨e4, e3⟩
theorem zh_vr {V : List zk_F} {N : List Int} {x t : Nat} {lo hi : Int} {a : Nat} {v : Value} (hv : zk_sv V N (x, 0) v) (hV : V[x]? = some (2, t, lo, hi)) (hn : N[x]? = some (a : Int)) : v = .ref a := by
  obtain ⟨f, n', e1, e2, e3, e4⟩ := hv
  cases hV.symm.trans e1
  cases hn.symm.trans e2
  rw [e4]
  show (if (a : Int) + 0 < 0 then Value.null else .ref ((a : Int) + 0).toNat) = _
  rw [if_neg (by omega)]
  congr 1
/-- an array of ints that nothing wrote to is the same -/
theorem zh_same {eff : List (Nat × Nat × Nat)} {ps : List Int} {P0 : Nat → Option Nat} {G0 G : Nat → va_E} (h : zk_ef eff ps P0 G0 G) {r t : Nat} (hp : P0 r = some t) (he : eff.all (fun e => e.1 != t) = true) {cA : ClassId} {n : Nat} {f : Nat → Int32} (hf : G0 r = .inl (cA, n, .inl f)) {cA' : ClassId} {n' : Nat} {f' : Nat → Int32} (hf' : G r = .inl (cA', n', .inl f')) : n' = n ∧ ∀ j, j < n → f' j = f j := by
  have h1 := h r t hp
  rw [hf, hf'] at h1
  obtain ⟨-, h2, h3⟩ := h1
  have h2 : n = n' := h2
  refine ⟨h2.symm, fun j hj => ?_⟩
  have := h3 j hj (by
    rintro ⟨q, q1, q2, -⟩
    have := List.all_eq_true.mp he q q1
    rw [bne_iff_ne] at this
    exact this q2)
  have : some (Value.int (f j)) = some (.int (f' j)) := this
  exact (Value.int.inj (Option.some.inj this)).symm
end ZK50B
theorem zh_in {i : Int} {n : Nat} (hr : zk_rg 0 i) (h0 : 0 ≤ i) (h1 : i < n) : vp_in (Int32.ofInt i) n := by
  rw [vp_in_iff, zk_i32 hr]
  omega
theorem zh_nil {V : List zk_F} {N : List Int} : zk_all2 (zk_sv V N) [] [] := trivial
theorem zh_one {V : List zk_F} {N : List Int} {x : zk_S} {v : Value} (h : zk_sv V N x v) : zk_all2 (zk_sv V N) [x] [v] := ⟨h, trivial⟩
theorem zh_ok32 {P : Nat → Option Nat} {n : Int} (h : zk_rg 0 n) : zk_ok P (0, 0, -2147483648, 2147483647) n := ⟨h.1, h.2, h⟩
/-- a method done by hand keeps its contract -/
theorem zh_methH {l : Launch} {w : zk_W} (hW : zh_W w) {lk : List zk_L} {KS : List zk_K} {km : List Nat} {lc : List (Nat × Nat × Nat)} {K : zk_K} {pl : Nat} {A : zk_Q} {B : zk_B} (hk2 : zk_Kk K ≠ 2) (he0 : zk_e0b (zt_types, lk, zt_dv, KS, km, lc, K) = true) (hb : (zt_cokb pl K && (decide (KS.map (fun K => K.1) = km.map zt_mn) && (lk.all (zt_lkin K.1.cls) && lc.all (zt_lcin K.1.cls)))) = true) (hKS : ∀ K' ∈ KS, zh_K l w K')
    (hJ : ∀ (p : Program) (e : Env) (R : Room) (s : State) (m : MethodId) (args : Array Value) (below : List Frame) (meth : Method) (c : Code) (Q : State → Prop) (P0 : Nat → Option Nat) (G0 : Nat → va_E) (ps : List Int) (X : Nat → Prop), p.tables.exec = Jvm.exec → c.code = K.2.1 → A P0 G0 ps → zk_all2 (zk_ok P0) (zk_Kp K) ps → zh_E l R s m args meth c w (zt_types, lk, zt_dv, KS, km, lc, K) P0 X → Q = MQ below (fun _ st o t => zk_postX w K B P0 G0 ps st t o) args s (zk_Kr K).2.2.1 (zk_Kr K).2.2.2 (fun q => w.2.2.2.1 ≤ q) → ∀ (H : Heap) (locs : List Loc) (ls : Array Slot), zk_G w s (P0, G0, ps, zk_Ke K, [], K.2.2.1, X) (zk_k0 (zt_types, lk, zt_dv, KS, km, lc, K)) ([0, 0, -1] ++ ps) P0 G0 H locs ls → W p l e R s m args below meth c H locs 0 0 Q (F0 m 0 ls [])) : zk_metX l w zt_dv zt_TB K A B ∧ zk_cok w zt_TB K := by
  simp only [Bool.and_eq_true, decide_eq_true_eq] at hb
  obtain ⟨h1, h2, h3, h4⟩ := hb
  have hcok := zt_cok_ok hW.2.1 h1
  refine ⟨zk_methH (E := (zt_types, lk, zt_dv, KS, km, lc, K)) (mn := zt_mn) hk2 he0 hW.1 (zt_dvok hW.2.1) (zt_clsok hW.2.1) zt_good (fun j K' hj => hKS K' (List.mem_of_getElem? hj)) (fun j K' k hj hk => ?_) hW.2.2.1 (fun s args hZ hts q hq => zt_lkin_ok hW (List.all_eq_true.mp h3 q hq) hZ hts) (fun s args hZ hts q hq => zt_lcin_ok hW (List.all_eq_true.mp h4 q hq) hZ hts) hcok hJ, hcok⟩
  have e1 : (KS.map (fun K => K.1))[j]? = some K'.1 := by rw [List.getElem?_map, hj]; rfl
  rw [h2, List.getElem?_map, hk] at e1
  exact (Option.some.inj e1).symm
