/-! part 22: a method keeps its contract -/
noncomputable def zk_larg : Nat → Nat → List zk_F → List (Nat × zk_S)
  | _, _, [] => []
  | i, j, f :: fs => (i, (j, 0)) :: zk_larg (if f.1 = 1 then i + 2 else i + 1) (j + 1) fs
noncomputable def zk_lsz : List zk_F → Nat
  | [] => 0
  | f :: fs => (if f.1 = 1 then 2 else 1) + zk_lsz fs
theorem zk_mk_cat {k : Nat} {n : Int} : (zk_mk k n).category = if k = 1 then 2 else 1 := by
  match k with
  | 0 => rfl
  | 1 => rfl
  | k + 2 =>
    rw [zk_mk_ref (by omega), if_neg (c := k + 2 = 1) (by omega)]
    split <;> rfl
theorem zk_lsz_ok : ∀ {fs : List zk_F} {ps : List Int}, fs.length = ps.length → (lg_sl (zk_avs fs ps)).length = zk_lsz fs
  | [], [], _ => rfl
  | f :: fs, n :: ps, h => by
    have ih := zk_lsz_ok (fs := fs) (ps := ps) (by simpa using h)
    have e : lg_sl (zk_avs (f :: fs) (n :: ps)) = (if (zk_mk f.1 n).category = 2 then [Slot.val (zk_mk f.1 n), .second] else [.val (zk_mk f.1 n)]) ++ lg_sl (zk_avs fs ps) := rfl
    rw [e, List.length_append, ih, zk_mk_cat]
    show _ = (if f.1 = 1 then 2 else 1) + zk_lsz fs
    by_cases hf : f.1 = 1
    · rw [if_pos hf, if_pos rfl]
      rfl
    · rw [if_neg hf, if_neg (by decide)]
      rfl
  | [], _ :: _, h => by simp at h
  | _ :: _, [], h => by simp at h
theorem zk_larg_ok {V : List zk_F} {N : List Int} {P : Nat → Option Nat} : ∀ {fs : List zk_F} {ps : List Int} {i j : Nat}, zk_all2 (zk_ok P) fs ps → (∀ (t : Nat) (f : zk_F), fs[t]? = some f → V[j + t]? = some f) → (∀ (t : Nat) (n : Int), ps[t]? = some n → N[j + t]? = some n) → zk_all2 (zk_lr V N) (zk_larg i j fs) (lv_args i (zk_avs fs ps))
  | [], [], _, _, _, _, _ => trivial
  | f :: fs, n :: ps, i, j, h, hV, hN => by
    have e : lv_args i (zk_avs (f :: fs) (n :: ps)) = (i, zk_mk f.1 n) :: lv_args (if (zk_mk f.1 n).category = 2 then i + 2 else i + 1) (zk_avs fs ps) := rfl
    have e2 : (if (zk_mk f.1 n).category = 2 then i + 2 else i + 1) = (if f.1 = 1 then i + 2 else i + 1) := by
      rw [zk_mk_cat]
      by_cases hf : f.1 = 1
      · rw [if_pos hf, if_pos hf, if_pos rfl]
      · rw [if_neg hf, if_neg hf, if_neg (by decide)]
    rw [e, e2]
    refine ⟨⟨rfl, f, n, by simpa using hV 0 f rfl, by simpa using hN 0 n rfl, ?_, ?_⟩, zk_larg_ok h.2 (fun t g hg => ?_) (fun t g hg => ?_)⟩
    · show zk_rg f.1 (n + 0)
      rw [Int.add_zero]
      exact h.1.rg
    · show zk_mk f.1 n = zk_mk f.1 (n + 0)
      rw [Int.add_zero]
    · have := hV (t + 1) g (by simpa using hg)
      rw [show j + 1 + t = j + (t + 1) by omega]
      exact this
    · have := hN (t + 1) g (by simpa using hg)
      rw [show j + 1 + t = j + (t + 1) by omega]
      exact this
  | [], _ :: _, _, _, h, _, _ => h.elim
  | _ :: _, [], _, _, h, _, _ => h.elim
noncomputable def zk_V0 : List zk_F := [(0, 0, 0, 0), (1, 0, 0, 0), (2, 0, -1, -1)]
noncomputable def zk_rw0 (E : zk_Ev) : List (Nat × Nat × List zk_S) := if zk_Kk (zk_ev E) = 2 then (match (zk_Kp (zk_ev E))[0]? with
  | some f => (match E.1[f.2.1]? with
    | some T => [(3, T.2.1, E.2.2.1.getD T.2.1 [])]
    | none => [])
  | none => []) else []
noncomputable def zk_k0 (E : zk_Ev) : zk_C := (zk_V0 ++ zk_Kp (zk_ev E), [], [], zk_rw0 E, zk_larg 0 3 (zk_Kp (zk_ev E)), (List.range (zk_Kp (zk_ev E)).length).map (fun j => (j, 3 + j)), [])
noncomputable def zk_e0b (E : zk_Ev) : Bool := decide (zk_lsz (zk_Kp (zk_ev E)) ≤ (zk_ev E).2.2.1) && (if zk_Kk (zk_ev E) = 2 then E.2.2.1.all (fun ds => ds.all (fun q => decide (q.1 ≤ 2) && q.2 == 0)) else true)
/-- the whole look through a method -/
noncomputable def zk_chk (E : zk_Ev) (CL : List zk_Ci) (AN : List zk_An) (fuel : Nat) : Bool := zk_e0b E && zk_go E CL AN none fuel 0 (zk_k0 E) [] 0 0
  && AN.all (fun A => A.2.2.2.2.2.2.all (fun t => decide (t.2 < A.2.1.1.length)) && (match zk_lbd A.2.1.1 A.2.2.2.2.2.2 with
    | some b => decide (0 ≤ A.2.2.2.2.2.1 + b)
    | none => false) && zk_go E CL AN (some A.2.2.2.2.2) fuel A.1 A.2.1 A.2.2.1 A.2.2.2.1 A.2.2.2.2.1)
theorem zk_pre_eq {N N' : List Int} (h : ∀ (i : Nat) (n : Int), N'[i]? = some n → N[i]? = some n) (hl : N.length = N'.length) : N = N' := by
  apply List.ext_getElem? fun i => ?_
  cases hi : N'[i]? with
  | some n => exact h i n hi
  | none =>
    rw [List.getElem?_eq_none_iff] at hi ⊢
    omega
theorem zk_dval_sv {E : zk_Ev} {N : List Int} (hN : N[0]? = some 0 ∧ N[1]? = some 0 ∧ N[2]? = some (-1)) : ∀ {ds : List zk_S}, ds.all (fun q => decide (q.1 ≤ 2) && q.2 == 0) = true → zk_all2 (zk_sv (zk_V0 ++ zk_Kp (zk_ev E)) N) ds (ds.map zk_dval)
  | [], _ => trivial
  | q :: ds, h => by
    simp only [List.all_cons, Bool.and_eq_true, decide_eq_true_eq, beq_iff_eq] at h
    obtain ⟨⟨d1, d2⟩, d3⟩ := h
    refine ⟨?_, zk_dval_sv hN (by simpa using d3)⟩
    obtain ⟨qk, qc⟩ := q
    dsimp only at d1 d2
    subst d2
    have hq : qk = 0 ∨ qk = 1 ∨ qk = 2 := by omega
    rcases hq with rfl | rfl | rfl
    · exact ⟨(0, 0, 0, 0), 0, rfl, hN.1, ⟨by decide, by decide⟩, rfl⟩
    · exact ⟨(1, 0, 0, 0), 0, rfl, hN.2.1, ⟨by decide, by decide⟩, rfl⟩
    · exact ⟨(2, 0, -1, -1), -1, rfl, hN.2.2, trivial, rfl⟩
section ZK22
variable {p : Program} {l : Launch} {e : Env} {R : Room} {s : State} {m : MethodId} {args : Array Value} {below : List Frame} {meth : Method} {c : Code} {Q : State → Prop}
variable {cc : ByteArray} {w : zk_W} {u : zk_M} {Ts : List Jvm.Cond} {own : String}
/-- the loops: by the measures all the marked places hold -/
theorem zk_arrs (hx : p.tables.exec = Jvm.exec) (hb : c.code = cc) {TB : List Jvm.Cond} {mn : Nat → MethodName} {E : zk_Ev} (hE : ∀ N', zk_ctx l R s m args meth c w (u.1, u.2.1, u.2.2.1, u.2.2.2.1, N', u.2.2.2.2.2) Ts own TB mn E)
    (hQ : Q = MQ below (fun _ st o t => zk_post w (zk_ev E) u.1 u.2.1 u.2.2.1 st t o) args s (zk_Kr (zk_ev E)).2.2.1 (zk_Kr (zk_ev E)).2.2.2 (fun q => w.2.2.2.1 ≤ q) ∨ zk_Ka (zk_ev E) = []) {CL : List zk_Ci} (hCL : ∀ q ∈ CL, decode cc q.1 = .ok (q.2.1, q.2.2.1)) {AL AN : List zk_An} {fuel : Nat} (hAN : ∀ A ∈ AN, A ∈ AL ∨ ∀ N' : List Int, N'.length = A.2.1.1.length → zk_J p l e R s m args below meth c Q w (u.1, u.2.1, u.2.2.1, u.2.2.2.1, N', u.2.2.2.2.2) A.2.1 A.2.2.1 A.2.2.2.1 A.2.2.2.2.1 A.1) (h : AL.all (fun A => A.2.2.2.2.2.2.all (fun t => decide (t.2 < A.2.1.1.length)) && (match zk_lbd A.2.1.1 A.2.2.2.2.2.2 with
    | some b => decide (0 ≤ A.2.2.2.2.2.1 + b)
    | none => false) && zk_go E CL AN (some A.2.2.2.2.2) fuel A.1 A.2.1 A.2.2.1 A.2.2.2.1 A.2.2.2.2.1) = true) : ∀ (k : Nat), ∀ A ∈ AL, ∀ N' : List Int, N'.length = A.2.1.1.length → A.2.2.2.2.2.1 + zk_lev N' A.2.2.2.2.2.2 < k → zk_J p l e R s m args below meth c Q w (u.1, u.2.1, u.2.2.1, u.2.2.2.1, N', u.2.2.2.2.2) A.2.1 A.2.2.1 A.2.2.2.1 A.2.2.2.2.1 A.1
  | 0, A, hA, N', hl, hk => by
    have hc := List.all_eq_true.mp h A hA
    simp only [Bool.and_eq_true] at hc
    obtain ⟨⟨c1, c2⟩, c3⟩ := hc
    intro N P F H locs ls sv hG hS
    exfalso
    have hN := zk_pre_eq hG.2.2.2.2.2.2.2.2.2.2.2.1 (by have := zk_all2_len hG.1; dsimp only at hl ⊢; omega)
    dsimp only at hN
    subst hN
    split at c2
    · rename_i b hb
      have := zk_lbd_ok hG.1 hb
      have := of_decide_eq_true c2
      omega
    · cases c2
  | k + 1, A, hA, N', hl, hk => by
    have hc := List.all_eq_true.mp h A hA
    simp only [Bool.and_eq_true] at hc
    obtain ⟨⟨c1, c2⟩, c3⟩ := hc
    refine zk_go_ok (u := (u.1, u.2.1, u.2.2.1, u.2.2.2.1, N', u.2.2.2.2.2)) hx hb (hE N') hQ hCL (M0 := some A.2.2.2.2.2) (fun M hM => ?_) (fun A' hA' N'' hl' hM => ?_) c3
    · cases hM
      dsimp only
      rw [hl]
      exact c1
    · have := hM _ rfl
      dsimp only at this
      rcases hAN A' hA' with g | g
      · exact zk_arrs hx hb hE hQ hCL hAN h k A' g N'' hl' (by omega)
      · exact g N'' hl'
/-- a way through a method, from where something is known to marked places: those of AL are loops, of the others it is shown elsewhere -/
theorem zk_seg (hx : p.tables.exec = Jvm.exec) (hb : c.code = cc) {TB : List Jvm.Cond} {mn : Nat → MethodName} {E : zk_Ev} (hE : ∀ N', zk_ctx l R s m args meth c w (u.1, u.2.1, u.2.2.1, u.2.2.2.1, N', u.2.2.2.2.2) Ts own TB mn E) (hKa : zk_Ka (zk_ev E) = []) {CL : List zk_Ci} (hCL : ∀ q ∈ CL, decode cc q.1 = .ok (q.2.1, q.2.2.1)) {AL AN : List zk_An} {fuel : Nat} {pc : Nat} {κ : zk_C} {st : List zk_S} {cu su : Nat} (h0 : zk_go E CL AN none fuel pc κ st cu su = true)
    (h : AL.all (fun A => A.2.2.2.2.2.2.all (fun t => decide (t.2 < A.2.1.1.length)) && (match zk_lbd A.2.1.1 A.2.2.2.2.2.2 with
    | some b => decide (0 ≤ A.2.2.2.2.2.1 + b)
    | none => false) && zk_go E CL AN (some A.2.2.2.2.2) fuel A.1 A.2.1 A.2.2.1 A.2.2.2.1 A.2.2.2.2.1) = true)
    (hAN : ∀ A ∈ AN, A ∈ AL ∨ ∀ N' : List Int, N'.length = A.2.1.1.length → zk_J p l e R s m args below meth c Q w (u.1, u.2.1, u.2.2.1, u.2.2.2.1, N', u.2.2.2.2.2) A.2.1 A.2.2.1 A.2.2.2.1 A.2.2.2.2.1 A.1) : zk_J p l e R s m args below meth c Q w (u.1, u.2.1, u.2.2.1, u.2.2.2.1, [], u.2.2.2.2.2) κ st cu su pc := by
  refine zk_go_ok (u := (u.1, u.2.1, u.2.2.1, u.2.2.2.1, [], u.2.2.2.2.2)) hx hb (hE []) (Or.inr hKa) hCL (M0 := none) (fun M hM => by cases hM) (fun A hA N' hl _ => ?_) h0
  rcases hAN A hA with g | g
  · exact zk_arrs hx hb hE (Or.inr hKa) hCL hAN h (A.2.2.2.2.2.1 + zk_lev N' A.2.2.2.2.2.2 + 1).toNat A g N' hl (by omega)
  · exact g N' hl
/-- and back -/
theorem zk_G.back {κ κ' : zk_C} {N N' : List Int} {P P' : Nat → Option Nat} {F F' : Nat → va_E} {H H' : Heap} {locs locs' : List Loc} {ls ls' : Array Slot} (hG : zk_G w s u κ N P F H locs ls) {eff : List (Nat × Nat × Nat)} {N0 : List Int} (hG' : zk_G w s (P, F, u.2.2.1, eff, N0, u.2.2.2.2.2) κ' N' P' F' H' locs' ls') (hu : u.2.2.2.2.1 = []) (he : ∀ e ∈ eff, e ∈ u.2.2.2.1) : zk_G w s u (κ'.1, κ'.2.1, κ'.2.2.1, κ'.2.2.2.1, κ'.2.2.2.2.1, κ'.2.2.2.2.2.1, []) N' P' F' H' locs' ls' := by
  obtain ⟨h1, h2, h3, h4, h5, h6, h7, h8, h9, h10, h11, h12, h13⟩ := hG'
  obtain ⟨-, -, -, -, -, -, g7, g8, -⟩ := hG
  refine ⟨h1, h2, h3, h4, h5, h6, fun a t h => h7 a t (g7 a t h), fun a t h => (g8 a t h).trans ((h8 a t (g7 a t h)).mono (fun k hk => ?_)), h9, h10, fun q h => absurd h List.not_mem_nil, fun i n h => by rw [hu] at h; simp at h, h13⟩
  obtain ⟨q, q1, q2⟩ := hk
  exact ⟨q, he q q1, q2⟩
end ZK22
theorem zk_methJ {l : Launch} {w : zk_W} {TB : List Jvm.Cond} {E : zk_Ev} {mn : Nat → MethodName} {A : zk_Q} {B : zk_B} (hc0 : zk_e0b E = true) (hw : w.1 = E.1) (hdv : zk_dvok w E.2.2.1) (hcl : zk_cls w TB) (hTB : GoodIn TB TB) (hKS : ∀ (j : Nat) (K : zk_K), E.2.2.2.1[j]? = some K → zk_met l w E.2.2.1 TB K ∧ zk_cok w TB K) (hkm : ∀ (j : Nat) (K : zk_K) (k : Nat), E.2.2.2.1[j]? = some K → E.2.2.2.2.1[j]? = some k → K.1 = mn k)
    (hst : zk_stab w) (hlk : ∀ (s : State) (args : Array Value), w.2.2.2.2.2 s → (∀ x ∈ TB, x.before args s = true) → ∀ q ∈ E.2.1, zk_lkok w s args (zk_ev E).1.cls q) (hlc : ∀ (s : State) (args : Array Value), w.2.2.2.2.2 s → (∀ x ∈ TB, x.before args s = true) → ∀ q ∈ E.2.2.2.2.2.1, zk_lc s args (zk_ev E).1.cls q.1 q.2.1 (mn q.2.2)) (hC : zk_cok w TB (zk_ev E)) 
    (hJ : ∀ (p : Program) (e : Env) (R : Room) (s : State) (m : MethodId) (args : Array Value) (below : List Frame) (meth : Method) (c : Code) (Q : State → Prop) (P0 : Nat → Option Nat) (G0 : Nat → va_E) (ps : List Int) (X : Nat → Prop), p.tables.exec = Jvm.exec → c.code = (zk_ev E).2.1 → A P0 G0 ps → zk_all2 (zk_ok P0) (zk_Kp (zk_ev E)) ps → (∀ N' P1 G1 eff ca, (∀ a t, P0 a = some t → P1 a = some t) → zk_ctx l R s m args meth c w (P1, G1, ps, eff, N', (zk_ev E).2.2.1, X) TB (zk_ev E).1.cls TB mn (E.1, E.2.1, E.2.2.1, E.2.2.2.1, E.2.2.2.2.1, E.2.2.2.2.2.1, (zk_ev E).1, (zk_ev E).2.1, (zk_ev E).2.2.1, (zk_ev E).2.2.2.1, zk_Kk (zk_ev E), zk_Kc (zk_ev E), zk_Kp (zk_ev E), ca, eff, zk_Kr (zk_ev E))) → Q = MQ below (fun _ st o t => zk_postX w (zk_ev E) B P0 G0 ps st t o) args s (zk_Kr (zk_ev E)).2.2.1 (zk_Kr (zk_ev E)).2.2.2 (fun q => w.2.2.2.1 ≤ q) → ∀ (H : Heap) (locs : List Loc) (ls : Array Slot), zk_G w s (P0, G0, ps, zk_Ke (zk_ev E), [], (zk_ev E).2.2.1, X) (zk_k0 E) ([0, 0, -1] ++ ps) P0 G0 H locs ls → W p l e R s m args below meth c H locs 0 0 Q (F0 m 0 ls [])) : zk_metX l w E.2.2.1 TB (zk_ev E) A B := by
  intro P0 F0 ps sz hps hAA
  unfold zk_e0b at hc0
  rw [Bool.and_eq_true] at hc0
  obtain ⟨hz, hct⟩ := hc0
  have hz := of_decide_eq_true hz
  have hlen := zk_all2_len hps
  refine Met.ofW (cc := (zk_ev E).2.1) (maxL := (zk_ev E).2.2.1) (ret := (zk_ev E).2.2.2.1) hC.1 rfl ?_
  intro p e s m args below meth c s₁ B hml hv
  obtain ⟨rfl, hsz, hbs, hwt, hK, hth, hZ, htx⟩ := hv
  have hx := B.exec
  have hb := B.bytes
  have hts0 := atoms_spec B.pre
  have hts : ∀ x ∈ TB, x.before (zk_avs (zk_Kp (zk_ev E)) ps).toArray s = true := fun x h => hts0 x (List.mem_cons_of_mem _ h)
  have hown : s.vm.findClass (zk_ev E).1.cls = some m.cls := findClass_of_methodNamed B.named
  have hin : zk_Kk (zk_ev E) = 2 → meth.name = "<init>" := fun h => (name_of_methodNamed B.named B.method).1.trans (hC.2.2.2.2.2.2 h).1
  subst hsz
  let X : Nat → Prop := fun q => P0 q = none ∧ ¬ (zk_Kk (zk_ev E) = 2 ∧ ps[0]? = some (q : Int))
  have hE : ∀ N' P1 G1 eff ca, (∀ a t, P0 a = some t → P1 a = some t) → zk_ctx l (headSpec (Cond.code (zk_ev E).1 (zk_ev E).2.1 (zk_ev E).2.2.1 (zk_ev E).2.2.2.1 :: TB) (zk_rm (zk_ev E))).room s m (zk_avs (zk_Kp (zk_ev E)) ps).toArray meth c w (P1, G1, ps, eff, N', (zk_ev E).2.2.1, X) TB (zk_ev E).1.cls TB mn (E.1, E.2.1, E.2.2.1, E.2.2.2.1, E.2.2.2.2.1, E.2.2.2.2.2.1, (zk_ev E).1, (zk_ev E).2.1, (zk_ev E).2.2.1, (zk_ev E).2.2.2.1, zk_Kk (zk_ev E), zk_Kc (zk_ev E), zk_Kp (zk_ev E), ca, eff, zk_Kr (zk_ev E)) := fun N' P1 G1 eff ca hP1 =>
    ⟨⟨hml, rfl, rfl⟩, hts, hcl, hown, hK, hw, hbs, hlk s _ hZ hts, hdv, hin, ⟨Nat.le_refl _, Nat.le_refl _, Nat.le_refl _, Nat.le_refl _⟩, hTB, hKS, hkm, hlc s _ hZ hts, ⟨B.notSynchronized, B.returns, hlen⟩, fun q h1 h2 => ⟨(by
      have h1 : P1 q = none := h1
      cases hq : P0 q with
      | none => rfl
      | some t => rw [hP1 q t hq] at h1; exact absurd h1 (by simp)), h2⟩, hst, hZ, fun t a h => hP1 a t (htx t a h)⟩
  have hl := lv_entry (zk_avs (zk_Kp (zk_ev E)) ps) (n := (zk_ev E).2.2.1) (by rw [zk_lsz_ok hlen]; exact hz)
  rw [lg_entry_eq]
  generalize (lg_sl (zk_avs (zk_Kp (zk_ev E)) ps) ++ List.replicate ((zk_ev E).2.2.1 - (lg_sl (zk_avs (zk_Kp (zk_ev E)) ps)).length) Slot.unset).toArray = ls at hl ⊢
  have hV : ∀ (t : Nat) (f : zk_F), (zk_Kp (zk_ev E))[t]? = some f → (zk_V0 ++ zk_Kp (zk_ev E))[3 + t]? = some f := fun t f h => by
    rw [List.getElem?_append_right (by show 3 ≤ 3 + t; omega)]
    show (zk_Kp (zk_ev E))[3 + t - 3]? = some f
    rw [show 3 + t - 3 = t by omega]
    exact h
  have hN : ∀ (t : Nat) (n : Int), ps[t]? = some n → ([0, 0, -1] ++ ps : List Int)[3 + t]? = some n := fun t f h => by
    rw [List.getElem?_append_right (by show 3 ≤ 3 + t; omega)]
    show ps[3 + t - 3]? = some f
    rw [show 3 + t - 3 = t by omega]
    exact h
  refine hJ p e _ s m _ below meth c _ P0 F0 ps X hx hb hAA hps hE rfl s.heap [] ls ⟨zk_all2_app ⟨⟨by decide, by decide, by decide, by decide⟩, ⟨by decide, by decide, by decide, by decide⟩, ⟨by decide, by decide, fun _ => by decide, fun h => absurd h (by decide)⟩, trivial⟩ hps, fun q h => absurd h List.not_mem_nil, fun q h => absurd h List.not_mem_nil, ?_, hwt, ⟨_, hl, zk_larg_ok hps hV hN⟩, fun _ _ h => h, fun a t h => zk_same.rf, va_S.rf, fun q hq => ?_, fun q h => absurd h List.not_mem_nil, fun i n h => by simp at h, fun q _ h => ⟨h.1, rfl⟩⟩
  · show zk_rw w _ _ _ P0 s.heap (zk_rw0 E) s.heap.size
    unfold zk_rw0
    split
    · rename_i hk
      obtain ⟨n, f, T, ds, t1, t2, t3, t4, t5, t6, t7, t8, t9⟩ := hth hk
      rw [hw] at t3
      rw [if_pos hk] at hct
      rw [t2]
      dsimp only
      rw [t3]
      dsimp only
      have hds : E.2.2.1.getD T.2.1 [] = ds := by rw [List.getD_eq_getElem?_getD, t5]; rfl
      rw [hds]
      refine ⟨n, ds.map zk_dval, hN 0 n t1, t6, ⟨t7, fun h => h.2.2 ⟨hk, t1⟩⟩, t8, t9, zk_dval_sv (E := E) ⟨rfl, rfl, rfl⟩ (List.all_eq_true.mp hct ds (List.mem_of_getElem? t5)), trivial⟩
    · trivial
  · obtain ⟨j, h1, rfl⟩ := List.mem_map.mp hq
    have h1 := List.mem_range.mp h1
    have hj : j < ps.length := by rw [← hlen]; exact h1
    exact ⟨ps[j], hN j _ (List.getElem?_eq_getElem hj), List.getElem?_eq_getElem hj⟩
theorem zk_meth {l : Launch} {w : zk_W} {TB : List Jvm.Cond} {E : zk_Ev} {CL : List zk_Ci} {AN : List zk_An} {fuel : Nat} {mn : Nat → MethodName} (hc : zk_chk E CL AN fuel = true) (hCL : ∀ q ∈ CL, decode (zk_ev E).2.1 q.1 = .ok (q.2.1, q.2.2.1)) (hw : w.1 = E.1) (hdv : zk_dvok w E.2.2.1) (hcl : zk_cls w TB) (hTB : GoodIn TB TB) (hKS : ∀ (j : Nat) (K : zk_K), E.2.2.2.1[j]? = some K → zk_met l w E.2.2.1 TB K ∧ zk_cok w TB K) (hkm : ∀ (j : Nat) (K : zk_K) (k : Nat), E.2.2.2.1[j]? = some K → E.2.2.2.2.1[j]? = some k → K.1 = mn k)
    (hst : zk_stab w) (hlk : ∀ (s : State) (args : Array Value), w.2.2.2.2.2 s → (∀ x ∈ TB, x.before args s = true) → ∀ q ∈ E.2.1, zk_lkok w s args (zk_ev E).1.cls q) (hlc : ∀ (s : State) (args : Array Value), w.2.2.2.2.2 s → (∀ x ∈ TB, x.before args s = true) → ∀ q ∈ E.2.2.2.2.2.1, zk_lc s args (zk_ev E).1.cls q.1 q.2.1 (mn q.2.2)) (hC : zk_cok w TB (zk_ev E)) : zk_met l w E.2.2.1 TB (zk_ev E) := by
  unfold zk_chk at hc
  rw [Bool.and_eq_true, Bool.and_eq_true] at hc
  obtain ⟨⟨hc0, hc1⟩, hc2⟩ := hc
  refine zk_methJ hc0 hw hdv hcl hTB hKS hkm hst hlk hlc hC (fun p e R s m args below meth c Q P0 G0 ps X hx hb _ hps hE hQ H locs ls hG => ?_)
  have hE' : ∀ N', zk_ctx l R s m args meth c w (P0, G0, ps, zk_Ke (zk_ev E), N', (zk_ev E).2.2.1, X) TB (zk_ev E).1.cls TB mn E := fun N' => hE N' P0 G0 (zk_Ke (zk_ev E)) (zk_Ka (zk_ev E)) (fun _ _ h => h)
  have hA := zk_arrs (u := (P0, G0, ps, zk_Ke (zk_ev E), [], (zk_ev E).2.2.1, X)) (Q := Q) (e := e) (p := p) (below := below) hx hb hE' (Or.inl hQ) hCL (AL := AN) (AN := AN) (fun A h => Or.inl h) hc2
  exact zk_go_ok (u := (P0, G0, ps, zk_Ke (zk_ev E), [], (zk_ev E).2.2.1, X)) (M0 := none) (Q := Q) (e := e) (p := p) (below := below) hx hb (hE' []) (Or.inl hQ) hCL (fun M h => by cases h) (fun A hA' N' hl hM => hA ((A.2.2.2.2.2.1 + zk_lev N' A.2.2.2.2.2.2 + 1).toNat) A hA' N' hl (by omega)) hc1 _ P0 G0 H locs ls [] hG trivial
