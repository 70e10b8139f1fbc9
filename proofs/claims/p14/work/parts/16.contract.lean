/-! part 16: contracts -/
/-- one way in which a method ends: its answer; inequalities (99 is 0, behind the parameters the answer) -/
abbrev zk_A : Type := Option zk_F × List (Nat × Nat × Int)
/-- a contract: the method, its code, how many locals, what it answers; 0 static, 1 of an object, 2 a constructor; its class's place; its parameters; its ends; what it may write; its room (frames, locals, cells, slots) -/
abbrev zk_K : Type := MethodName × ByteArray × Nat × Option FieldType × Nat × Nat × List zk_F × List zk_A × List (Nat × Nat × Nat) × (Nat × Nat × Nat × Nat)
noncomputable def zk_Kp (K : zk_K) : List zk_F := K.2.2.2.2.2.2.1
noncomputable def zk_Ka (K : zk_K) : List zk_A := K.2.2.2.2.2.2.2.1
noncomputable def zk_Ke (K : zk_K) : List (Nat × Nat × Nat) := K.2.2.2.2.2.2.2.2.1
noncomputable def zk_Kr (K : zk_K) : Nat × Nat × Nat × Nat := K.2.2.2.2.2.2.2.2.2
noncomputable def zk_Kk (K : zk_K) : Nat := K.2.2.2.2.1
noncomputable def zk_Kc (K : zk_K) : Nat := K.2.2.2.2.2.1
noncomputable def zk_num (ps : List Int) (rn : Int) (j : Nat) : Int := if j = 99 then 0 else if j = ps.length then rn else ps.getD j 0
noncomputable def zk_avs (fs : List zk_F) (ps : List Int) : List Value := List.zipWith (fun f n => zk_mk f.1 n) fs ps
/-- the object to be made lies there, its fields as at first -/
noncomputable def zk_th (w : zk_W) (dv : List (List zk_S)) (K : zk_K) (P0 : Nat → Option Nat) (ps : List Int) (U : State) : Prop := ∃ (n : Nat) (f : zk_F) (T : zk_T) (ds : List zk_S), ps[0]? = some (n : Int) ∧ (zk_Kp K)[0]? = some f ∧ w.1[f.2.1]? = some T ∧ T.1 = 0 ∧ dv[T.2.1]? = some ds ∧ n < U.heap.size ∧ w.2.2.2.1 ≤ n ∧ P0 n = none ∧ va_at w.2.2.1 w.2.1 (n, .inr (T.2.1, ds.map zk_dval)) U.heap
/-- what holds of the state besides stays: the classes warmed, the cells below the base the same; a text constant is a String -/
noncomputable def zk_stab (w : zk_W) : Prop := (∀ s U : State, s.WarmedH U.vm → (∀ q, q < w.2.2.2.1 → U.heap[q]? = s.heap[q]?) → w.2.2.2.2.2 s → w.2.2.2.2.2 U) ∧ (∀ s U : State, U.vm = s.vm → U.heap = s.heap → w.2.2.2.2.2 s → w.2.2.2.2.2 U) ∧ ∀ s : State, w.2.2.2.2.2 s → ∀ t a, w.2.2.2.2.1 t a → ∃ cell : Cell, s.heap[a]? = some cell ∧ cell.vm.isStatics = false ∧ s.vm.findClass "java/lang/String" = some cell.cls
noncomputable def zk_pre (w : zk_W) (dv : List (List zk_S)) (K : zk_K) (P0 : Nat → Option Nat) (F0 : Nat → va_E) (ps : List Int) (sz : Nat) (U : State) : Prop := U.heap.size = sz ∧ w.2.2.2.1 ≤ sz ∧ zk_wt w U P0 F0 U.heap ∧ va_K w.2.2.1 w.2.1 [] U ∧ (zk_Kk K = 2 → zk_th w dv K P0 ps U) ∧ w.2.2.2.2.2 U ∧ ∀ t a, w.2.2.2.2.1 t a → P0 a = some t
/-- what a method done by hand tells besides: by what stood there, the parameters, what stands there behind it, the answer -/
abbrev zk_B : Type := (Nat → Option Nat) → (Nat → va_E) → List Int → (Nat → Option Nat) → (Nat → va_E) → Int → Prop
abbrev zk_Q : Type := (Nat → Option Nat) → (Nat → va_E) → List Int → Prop
noncomputable def zk_postX (w : zk_W) (K : zk_K) (B : zk_B) (P0 : Nat → Option Nat) (F0 : Nat → va_E) (ps : List Int) (st t : State) (o : Outcome) : Prop := ∃ al ∈ zk_Ka K, ∃ (rn : Int) (P' : Nat → Option Nat) (F' : Nat → va_E), o = .returned (al.1.map (fun f => zk_mk f.1 rn)) ∧ (∀ f, al.1 = some f → zk_ok P' f rn ∧ f.1 ≤ 2) ∧ (∀ q ∈ al.2, zk_num ps rn q.1 ≤ zk_num ps rn q.2.1 + q.2.2) ∧ zk_wt w t P' F' t.heap ∧ va_K w.2.2.1 w.2.1 [] t ∧ (∀ a y, P0 a = some y → P' a = some y) ∧ zk_ef (zk_Ke K) ps P0 F0 F' ∧
  st.heap.size ≤ t.heap.size ∧ (∀ q, q < st.heap.size → q < w.2.2.2.1 → t.heap[q]? = st.heap[q]?) ∧ (∀ q, q < st.heap.size → P0 q = none → ¬ (zk_Kk K = 2 ∧ ps[0]? = some (q : Int)) → P' q = none ∧ t.heap[q]? = st.heap[q]?) ∧ (zk_Kk K = 2 → ∀ (n : Nat) (f : zk_F), ps[0]? = some (n : Int) → (zk_Kp K)[0]? = some f → P' n = some f.2.1) ∧ B P0 F0 ps P' F' rn
noncomputable def zk_tB : zk_B := fun _ _ _ _ _ _ => True
noncomputable def zk_tA : zk_Q := fun _ _ _ => True
noncomputable def zk_post (w : zk_W) (K : zk_K) (P0 : Nat → Option Nat) (F0 : Nat → va_E) (ps : List Int) (st t : State) (o : Outcome) : Prop := zk_postX w K zk_tB P0 F0 ps st t o
noncomputable def zk_rm (K : zk_K) : Room := { frames := (zk_Kr K).1, cells := (zk_Kr K).2.2.1, slots := (zk_Kr K).2.2.2, locals := (zk_Kr K).2.1 }
noncomputable def zk_metX (l : Launch) (w : zk_W) (dv : List (List zk_S)) (TB : List Jvm.Cond) (K : zk_K) (A : zk_Q) (B : zk_B) : Prop := ∀ (P0 : Nat → Option Nat) (F0 : Nat → va_E) (ps : List Int) (sz : Nat), zk_all2 (zk_ok P0) (zk_Kp K) ps → A P0 F0 ps →
  Met l K.1 (Jvm.Cond.code K.1 K.2.1 K.2.2.1 K.2.2.2.1 :: TB) (zk_rm K) (va_Pc (zk_avs (zk_Kp K) ps) (zk_pre w dv K P0 F0 ps sz)) (fun _ st o t => zk_postX w K B P0 F0 ps st t o) (zk_Kr K).2.2.1 (zk_Kr K).2.2.2 (fun q => w.2.2.2.1 ≤ q)
noncomputable def zk_met (l : Launch) (w : zk_W) (dv : List (List zk_S)) (TB : List Jvm.Cond) (K : zk_K) : Prop := zk_metX l w dv TB K zk_tA zk_tB
theorem zk_th.moved {w : zk_W} {dv : List (List zk_S)} {K : zk_K} {P0 : Nat → Option Nat} {ps : List Int} {u U : State} (hh : U.heap = u.heap) (h : zk_th w dv K P0 ps u) : zk_th w dv K P0 ps U := by
  unfold zk_th at h ⊢
  rw [hh]
  exact h
theorem zk_blind {w : zk_W} (hst : zk_stab w) {dv : List (List zk_S)} {K : zk_K} {P0 : Nat → Option Nat} {F0 : Nat → va_E} {ps : List Int} {sz : Nat} : FrameBlind (va_Pc (zk_avs (zk_Kp K) ps) (zk_pre w dv K P0 F0 ps sz)) := by
  intro a U g mk q
  obtain ⟨q1, q2, q3, q4, q5, q6, q7, q8⟩ := q
  exact ⟨q1, q2, q3, zk_wt.moved (u := U) (U := U.calling g mk a) (Vm.Alike.refl U.vm) q4, va_K.moved (u := U) (U := U.calling g mk a) (Vm.Alike.refl U.vm) q5, fun h => (q6 h).moved rfl, hst.2.1 U _ rfl rfl q7, q8⟩
/-- what a contract's method is, as the tables have it -/
noncomputable def zk_cok (w : zk_W) (TB : List Jvm.Cond) (K : zk_K) : Prop := plainName K.1.cls = true ∧ K.1.cls ≠ "java/lang/invoke/MethodHandle" ∧ K.1.cls ≠ "java/lang/invoke/VarHandle" ∧ (parseMethodDescriptor K.1.desc).map (fun d => d.parameters.length) = some ((zk_Kp K).length - (if zk_Kk K = 0 then 0 else 1)) ∧ Jvm.Cond.code K.1 K.2.1 K.2.2.1 K.2.2.2.1 ∈ TB ∧ (zk_Kk K ≠ 0 → (zk_Kc K ≠ 999 ∧ ∃ (T : u_T) (N : Nat), w.2.1[zk_Kc K]? = some (K.1.cls, T, N)) ∨ (zk_Kc K = 999 ∧ K.1.cls = "java/lang/String")) ∧ (zk_Kk K = 2 → K.1.name = "<init>" ∧ K.2.2.2.1 = none)
/-- how a place in the pool calls a method: 0 of an object, 1 static, 2 a constructor; 3, 4, 5: the same, private, of a nest mate -/
noncomputable def zk_lc (s : State) (args : Array Value) (own : String) (how idx : Nat) (y : MethodName) : Prop := match how with
  | 0 => (Jvm.Cond.methodLink own idx y).before args s = true ∧ (Jvm.Cond.initialized y.cls).before args s = true ∧ (Jvm.Cond.instanceMethod y).before args s = true ∧ (Jvm.Cond.selects y.cls y y).before args s = true
  | 1 => (Jvm.Cond.methodLink own idx y).before args s = true ∧ (Jvm.Cond.initialized y.cls).before args s = true ∧ (Jvm.Cond.static y).before args s = true
  | 2 => (Jvm.Cond.methodLink own idx y).before args s = true ∧ (Jvm.Cond.initialized y.cls).before args s = true ∧ (Jvm.Cond.instanceMethod y).before args s = true
  | 3 => (∃ host, va_Nw (.methodLinkNest own idx y host) s) ∧ (Jvm.Cond.initialized y.cls).before args s = true ∧ (Jvm.Cond.instanceMethod y).before args s = true ∧ (Jvm.Cond.selects y.cls y y).before args s = true
  | 4 => (∃ host, va_Nw (.methodLinkNest own idx y host) s) ∧ (Jvm.Cond.initialized y.cls).before args s = true ∧ (Jvm.Cond.static y).before args s = true
  | _ => (∃ host, va_Nw (.methodLinkNest own idx y host) s) ∧ (Jvm.Cond.initialized y.cls).before args s = true ∧ (Jvm.Cond.instanceMethod y).before args s = true
noncomputable def zk_ins (how idx : Nat) : ClassFile.Instr := match how with
  | 0 => .invokevirtual idx
  | 1 => .invokestatic idx
  | 2 => .invokespecial idx
  | 3 => .invokevirtual idx
  | 4 => .invokestatic idx
  | _ => .invokespecial idx
noncomputable def zk_hk (how : Nat) : Nat := match how with
  | 0 => 1
  | 1 => 0
  | 2 => 2
  | 3 => 1
  | 4 => 0
  | _ => 2
section ZK16
variable {p : Program} {l : Launch} {e : Env} {R : Room} {s : State} {m : MethodId} {args : Array Value} {below : List Frame} {meth : Method} {c : Code} {Q : State → Prop}
variable {cc : ByteArray} {w : zk_W} {u : zk_M} {Ts : List Jvm.Cond} {own : String}
theorem zk_run (hx : p.tables.exec = Jvm.exec) (hb : c.code = cc) (hst : zk_stab w) {nL pc : Nat} (hml : c.maxLocals = nL) (hown : s.vm.findClass own = some m.cls) (hts : ∀ x ∈ Ts, x.before args s = true) {TB : List Jvm.Cond} {dv : List (List zk_S)} {K : zk_K} {A : zk_Q} {B : zk_B} (hM : zk_metX l w dv TB K A B) (hK : zk_cok w TB K) (hG : GoodIn Ts (Jvm.Cond.code K.1 K.2.1 K.2.2.1 K.2.2.2.1 :: TB)) {how idx : Nat} (hl : zk_lc s args own how idx K.1) (hh : zk_hk how = zk_Kk K)
    {H : Heap} {locs : List Loc} {cu su : Nat} {ls : Array Slot} {P0 : Nat → Option Nat} {F0' : Nat → va_E} {ps : List Int} (hps : zk_all2 (zk_ok P0) (zk_Kp K) ps) (hA : A P0 F0' ps) (hpre : ∀ U : State, U.heap = H → s.WarmedH U.vm → zk_pre w dv K P0 F0' ps H.size U) (hrc : zk_Kk K = 1 → ∃ b : Nat, ps[0]? = some (b : Int) ∧ (∃ f, (zk_Kp K)[0]? = some f ∧ 2 ≤ f.1) ∧ ∃ cell : Cell, H[b]? = some cell ∧ cell.vm.isStatics = false ∧ s.vm.findClass K.1.cls = some cell.cls) (hrc2 : zk_Kk K = 2 → ∃ b : Nat, ps[0]? = some (b : Int) ∧ ∃ f, (zk_Kp K)[0]? = some f ∧ 2 ≤ f.1)
    {rest : List Value} (hsz : ls.size = nL) (hcat : (rest.map fun v => v.category).sum ≤ 8) (hR : (zk_Kr K).1 + 1 ≤ R.frames ∧ 8 + (K.2.2.1 + 11) + (zk_Kr K).2.1 ≤ R.locals) (hf : cu + (zk_Kr K).2.2.1 ≤ R.cells ∧ su + (zk_Kr K).2.2.2 ≤ R.slots) (hdg : decode cc pc = .ok (zk_ins how idx, 3)) :
    va_Run p l e R s m args below meth c H locs cu su (zk_Kr K).2.2.1 (zk_Kr K).2.2.2 (F0 m pc ls ((zk_avs (zk_Kp K) ps).reverse ++ rest)) rest (fun st o t => zk_postX w K B P0 F0' ps st t o) (fun q => w.2.2.2.1 ≤ q) := by
  obtain ⟨h1, h2, h3, h4, h5, h6, h7⟩ := hK
  have S : CallFix p m c cc nL s args Ts own := ⟨hx, hb, hml, hown, hts⟩
  have M := hM P0 F0' ps H.size hps hA
  have hW : 2 * (F0 m pc ls ((zk_avs (zk_Kp K) ps).reverse ++ rest)).monitorRoom + (rest.map fun v => v.category).sum ≤ 8 := by
    show 2 * 0 + _ ≤ 8
    omega
  have hPS : ∀ av, av = zk_avs (zk_Kp K) ps → PreS s H (va_Pc (zk_avs (zk_Kp K) ps) (zk_pre w dv K P0 F0' ps H.size)) av := fun av hav => ⟨zk_blind hst, fun U hU hWm => ⟨by rw [hav], hpre U hU hWm⟩⟩
  have hlen : (zk_avs (zk_Kp K) ps).length = (zk_Kp K).length := by
    unfold zk_avs
    rw [List.length_zipWith, zk_all2_len hps, Nat.min_self]
  have head : ∀ {b : Nat}, ps[0]? = some (b : Int) → (∃ f, (zk_Kp K)[0]? = some f ∧ 2 ≤ f.1) → ∃ As, zk_avs (zk_Kp K) ps = .ref b :: As ∧ As.length = (zk_Kp K).length - 1 := by
    intro b hb0 ⟨f, hf1, hf2⟩
    cases hp : zk_Kp K with
    | nil => rw [hp] at hf1; simp at hf1
    | cons f' r =>
      cases hq : ps with
      | nil => rw [hq] at hb0; simp at hb0
      | cons n' r' =>
        rw [hp] at hf1 hps hlen
        rw [hq] at hb0 hps hlen
        simp at hf1 hb0
        subst hf1; subst hb0
        refine ⟨zk_avs r r', ?_, ?_⟩
        · show zk_mk f'.1 (b : Int) :: _ = _
          rw [zk_mk_ref hf2, if_neg (by omega), Int.toNat_natCast]
          rfl
        · have : (zk_avs (f' :: r) ((b : Int) :: r')).length = (zk_avs r r').length + 1 := rfl
          rw [this] at hlen
          simpa using hlen
  match how, hl, hh, hdg with
  | 0, hl, hh, hdg =>
    have hk : zk_Kk K = 1 := hh.symm
    obtain ⟨b, b1, b2, b3⟩ := hrc hk
    obtain ⟨As, a1, a2⟩ := head b1 b2
    have h4' : (parseMethodDescriptor K.1.desc).map (fun d => d.parameters.length) = some As.length := by rw [h4, hk, a2]; rfl
    have hstk : (F0 m pc ls ((zk_avs (zk_Kp K) ps).reverse ++ rest)).stack = As.reverse ++ .ref b :: rest := by
      show (zk_avs (zk_Kp K) ps).reverse ++ rest = _
      rw [a1, List.reverse_cons, List.append_assoc]
      rfl
    exact va_runV (C := K.1.cls) (b := b) (As := As) S M ⟨callB_of As.length hts hG rfl rfl rfl hl.2.1 hl.1 ⟨h2, h3, h4'⟩ hR, hl.2.2.1, hl.2.2.2⟩ ⟨zk_blind hst, b3, fun U hU hWm => ⟨by rw [a1], hpre U hU hWm⟩⟩ rfl rfl hsz hstk hW hdg hf
  | 1, hl, hh, hdg =>
    have hk : zk_Kk K = 0 := hh.symm
    have h4' : (parseMethodDescriptor K.1.desc).map (fun d => d.parameters.length) = some (zk_avs (zk_Kp K) ps).length := by rw [h4, hk, hlen]; rfl
    exact va_runS (As := zk_avs (zk_Kp K) ps) S M ⟨callB_of (zk_avs (zk_Kp K) ps).length hts hG rfl rfl rfl hl.2.1 hl.1 ⟨h2, h3, h4'⟩ hR, hl.2.2⟩ (hPS _ rfl) rfl rfl hsz rfl hW hdg hf
  | 2, hl, hh, hdg =>
    have hk : zk_Kk K = 2 := hh.symm
    obtain ⟨b, b1, b2⟩ := hrc2 hk
    obtain ⟨As, a1, a2⟩ := head b1 b2
    have h4' : (parseMethodDescriptor K.1.desc).map (fun d => d.parameters.length) = some As.length := by rw [h4, hk, a2]; rfl
    have hstk : (F0 m pc ls ((zk_avs (zk_Kp K) ps).reverse ++ rest)).stack = As.reverse ++ .ref b :: rest := by
      show (zk_avs (zk_Kp K) ps).reverse ++ rest = _
      rw [a1, List.reverse_cons, List.append_assoc]
      rfl
    obtain ⟨g1, g2⟩ := h7 hk
    rw [g2] at M hG h5
    exact va_runI (b := b) (As := As) S M ⟨callB_of As.length hts hG rfl rfl rfl hl.2.1 hl.1 ⟨h2, h3, h4'⟩ hR, g1, hl.2.2⟩ (by rw [← a1]; exact hPS _ rfl) rfl rfl hsz hstk hW hdg hf
  | 3, hl, hh, hdg =>
    have hk : zk_Kk K = 1 := hh.symm
    obtain ⟨b, b1, b2, b3⟩ := hrc hk
    obtain ⟨As, a1, a2⟩ := head b1 b2
    have h4' : (parseMethodDescriptor K.1.desc).map (fun d => d.parameters.length) = some As.length := by rw [h4, hk, a2]; rfl
    have hstk : (F0 m pc ls ((zk_avs (zk_Kp K) ps).reverse ++ rest)).stack = As.reverse ++ .ref b :: rest := by
      show (zk_avs (zk_Kp K) ps).reverse ++ rest = _
      rw [a1, List.reverse_cons, List.append_assoc]
      rfl
    obtain ⟨⟨host, hn⟩, hl2, hl3, hl4⟩ := hl
    exact va_runVN (C := K.1.cls) (b := b) (As := As) S M ⟨va_cnB As.length hts hG rfl rfl rfl hn hl2 ⟨h2, h3, h4'⟩ hR, hl3, hl4⟩ ⟨zk_blind hst, b3, fun U hU hWm => ⟨by rw [a1], hpre U hU hWm⟩⟩ rfl rfl hsz hstk hW hdg hf
  | 4, hl, hh, hdg =>
    have hk : zk_Kk K = 0 := hh.symm
    have h4' : (parseMethodDescriptor K.1.desc).map (fun d => d.parameters.length) = some (zk_avs (zk_Kp K) ps).length := by rw [h4, hk, hlen]; rfl
    obtain ⟨⟨host, hn⟩, hl2, hl3⟩ := hl
    exact va_runSN (As := zk_avs (zk_Kp K) ps) S M ⟨va_cnB (zk_avs (zk_Kp K) ps).length hts hG rfl rfl rfl hn hl2 ⟨h2, h3, h4'⟩ hR, hl3, trivial⟩ (hPS _ rfl) rfl rfl hsz rfl hW hdg hf
  | i + 5, hl, hh, hdg =>
    have hk : zk_Kk K = 2 := hh.symm
    obtain ⟨b, b1, b2⟩ := hrc2 hk
    obtain ⟨As, a1, a2⟩ := head b1 b2
    have h4' : (parseMethodDescriptor K.1.desc).map (fun d => d.parameters.length) = some As.length := by rw [h4, hk, a2]; rfl
    have hstk : (F0 m pc ls ((zk_avs (zk_Kp K) ps).reverse ++ rest)).stack = As.reverse ++ .ref b :: rest := by
      show (zk_avs (zk_Kp K) ps).reverse ++ rest = _
      rw [a1, List.reverse_cons, List.append_assoc]
      rfl
    obtain ⟨g1, g2⟩ := h7 hk
    rw [g2] at M hG h5
    obtain ⟨⟨host, hn⟩, hl2, hl3⟩ := hl
    exact va_runIN (b := b) (As := As) S M ⟨va_cnB As.length hts hG rfl rfl rfl hn hl2 ⟨h2, h3, h4'⟩ hR, g1, hl3⟩ (by rw [← a1]; exact hPS _ rfl) rfl rfl hsz hstk hW hdg hf
end ZK16
