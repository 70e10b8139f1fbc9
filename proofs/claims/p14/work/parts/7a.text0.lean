/-! part 7a: String.length, charAt: by hand, by what the world says of the texts -/
/-- a method that writes nothing: what it answers -/
noncomputable def zj_M (l : Launch) (w : zk_W) (y : MethodName) (bytes : ByteArray) (maxL : Nat) (ret : Option FieldType) (rm : Room) (av : List Value) (B : State → Prop) (r : Option Value) : Prop := Met l y (Jvm.Cond.code y bytes maxL ret :: zt_TB) rm (va_Pc av B) (fun _ st o t => o = .returned r ∧ t.heap = st.heap) 0 0 (fun q => w.2.2.2.1 ≤ q)
noncomputable def zj_r (f lo : Nat) : Room := { frames := f, cells := 0, slots := 0, locals := lo }
theorem zj_of {l : Launch} {w : zk_W} {y : MethodName} {bytes : ByteArray} {maxL : Nat} {ret : Option FieldType} {rm : Room} {av : List Value} {B : State → Prop} {r : Option Value} (hy : plainName y.cls = true) (hn : (lg_sl av).length ≤ maxL)
    (hJ : ∀ (p : Program) (e : Env) (R : Room) (s : State) (m : MethodId) (below : List Frame) (meth : Method) (c : Code) (ls : Array Slot) (Q : State → Prop), R = rm → p.tables.exec = Jvm.exec → c.code = bytes → c.maxLocals = maxL → meth.sig.returnType = ret → meth.locks = false → s.vm.findClass y.cls = some m.cls → (∀ x ∈ zt_TB, x.before av.toArray s = true) → B s → lv_has ls maxL (lv_args 0 av) → Q = MQ below (fun _ st o t => o = .returned r ∧ t.heap = st.heap) av.toArray s 0 0 (fun q => w.2.2.2.1 ≤ q) → W p l e R s m av.toArray below meth c s.heap [] 0 0 Q (F0 m 0 ls [])) : zj_M l w y bytes maxL ret rm av B r := by
  refine Met.ofW (cc := bytes) (maxL := maxL) (ret := ret) hy rfl ?_
  intro p e s m args below meth c s₁ X hml hv
  obtain ⟨rfl, hB⟩ := hv
  have hts0 := atoms_spec X.pre
  rw [lg_entry_eq]
  exact hJ p e _ s m below meth c _ _ rfl X.exec X.bytes hml X.returns X.notSynchronized (findClass_of_methodNamed X.named) (fun x h => hts0 x (List.mem_cons_of_mem _ h)) hB (lv_entry av hn) rfl
theorem zj_blind {w : zk_W} (hst : zk_stab w) {av : List Value} : FrameBlind (va_Pc av w.2.2.2.2.2) := fun a U g mk q => ⟨q.1, hst.2.1 U _ rfl rfl q.2⟩
theorem zj_Z {w : zk_W} (hst : zk_stab w) {s : State} {H : Heap} {locs : List Loc} (hbs : w.2.2.2.1 ≤ s.heap.size) (hS : va_S (fun q => w.2.2.2.1 ≤ q) s.heap H locs) (hZ : w.2.2.2.2.2 s) : ∀ U : State, U.heap = H → s.WarmedH U.vm → w.2.2.2.2.2 U := fun U hU hWm => hst.1 s U hWm (fun q hq => by rw [hU]; exact hS.2.1 q (by omega) (Nat.not_le.mpr hq)) hZ
noncomputable def zj_T (w : zk_W) (v n : Nat) (f : Nat → Int32) (U : State) : Prop := (w.2.2.2.2.2 U ∧ w.2.2.2.1 ≤ U.heap.size) ∧ va_T .byte v n (fun j => .int (f j)) (fun q => w.2.2.2.1 ≤ q) U U.heap
theorem zj_Tblind {w : zk_W} (hst : zk_stab w) {av : List Value} {v n : Nat} {f : Nat → Int32} : FrameBlind (va_Pc av (zj_T w v n f)) := fun a U g mk q => ⟨q.1, ⟨hst.2.1 U _ rfl rfl q.2.1.1, q.2.1.2⟩, va_T.moved (u := U) (U := U.calling g mk a) (Vm.Alike.refl U.vm) q.2.2⟩
theorem zj_Tpre {w : zk_W} (hst : zk_stab w) {s : State} {H : Heap} {locs : List Loc} (hbs : w.2.2.2.1 ≤ s.heap.size) (hS : va_S (fun q => w.2.2.2.1 ≤ q) s.heap H locs) (hZ : w.2.2.2.2.2 s) {v n : Nat} {f : Nat → Int32} (hT : va_T .byte v n (fun j => .int (f j)) (fun q => w.2.2.2.1 ≤ q) s s.heap) : ∀ U : State, U.heap = H → s.WarmedH U.vm → zj_T w v n f U := fun U hU hWm => ⟨⟨zj_Z hst hbs hS hZ U hU hWm, by rw [hU]; exact Nat.le_trans hbs hS.1⟩, by rw [hU]; exact va_T.moved hWm.alike (hT.kept hS.2.1)⟩
section ZJ
variable {p : Program} {l : Launch} {e : Env} {R : Room} {s : State} {m : MethodId} {args : Array Value} {below : List Frame} {meth : Method} {c : Code} {Q : State → Prop}
variable {cc : ByteArray} {w : zk_W} {u : zk_M} {Ts : List Jvm.Cond} {own : String}
variable {H : Heap} {locs : List Loc} {cells slots pc : Nat} {ls : Array Slot} {rest st0 : List Value} {r : Option Value}
theorem zj_call (hr : va_Run p l e R s m args below meth c H locs cells slots 0 0 (F0 m pc ls st0) rest (fun st o t => o = .returned r ∧ t.heap = st.heap) (fun q => w.2.2.2.1 ≤ q)) (hS : va_S (fun q => w.2.2.2.1 ≤ q) s.heap H locs) (kk : ∀ locs1 : List Loc, va_S (fun q => w.2.2.2.1 ≤ q) s.heap H locs1 → W p l e R s m args below meth c H locs1 cells slots Q (F0 m (pc + 3) ls (r.toList ++ rest))) : W p l e R s m args below meth c H locs cells slots Q (F0 m pc ls st0) := by
  intro T hT X
  obtain ⟨v, st₀, t, T', L, h0, X', hL, e1, e2, ⟨hv, hh⟩, st⟩ := hr T hT X
  cases hv
  obtain ⟨t2, a1, b1⟩ := kk (locs ++ L) ⟨hS.1, hS.2.1, fun q hq => (List.mem_append.mp hq).elim (hS.2.2 q) (hL q)⟩ T' (by rw [e1, hh, h0]) X'
  exact ⟨t2, st t2 a1, b1⟩
theorem zj_good {y : MethodName} {bytes : ByteArray} {maxL p1 : Nat} {ret : Option FieldType} (h : zt_wd p1 (.code y bytes maxL ret) = true) : GoodIn zt_TB (Jvm.Cond.code y bytes maxL ret :: zt_TB) := fun x hx => zt_good x (by
  rcases List.mem_cons.mp hx with rfl | hx
  · exact zt_wd_mem h
  · exact hx)
theorem zj_stat (hx : p.tables.exec = Jvm.exec) (hb : c.code = cc) {nL : Nat} (hml : c.maxLocals = nL) (hown : s.vm.findClass own = some m.cls) (hts : ∀ x ∈ zt_TB, x.before args s = true) {y : MethodName} {bytes : ByteArray} {maxL : Nat} {ret : Option FieldType} {rm : Room} {av : List Value} {B : State → Prop} (hM : zj_M l w y bytes maxL ret rm av B r) {p1 p2 p3 p4 idx : Nat} (hwd : (zt_wd p1 (.code y bytes maxL ret) && (zt_wd p2 (.methodLink own idx y) && (zt_wd p3 (.initialized y.cls) && zt_wd p4 (.static y)))) = true) (hd : y.cls ≠ "java/lang/invoke/MethodHandle" ∧ y.cls ≠ "java/lang/invoke/VarHandle" ∧ (parseMethodDescriptor y.desc).map (fun d => d.parameters.length) = some av.length) (hbl : FrameBlind (va_Pc av B)) (hpre : ∀ U : State, U.heap = H → s.WarmedH U.vm → B U) (hsz : ls.size = nL) (hcat : (rest.map fun v => v.category).sum ≤ 8) (hR : rm.frames + 1 ≤ R.frames ∧ 8 + (maxL + 11) + rm.locals ≤ R.locals) (hrc : rm.cells = 0) (hrs : rm.slots = 0) (hf : cells + 0 ≤ R.cells ∧ slots + 0 ≤ R.slots) (hdg : decode cc pc = .ok (.invokestatic idx, 3)) : va_Run p l e R s m args below meth c H locs cells slots 0 0 (F0 m pc ls (av.reverse ++ rest)) rest (fun st o t => o = .returned r ∧ t.heap = st.heap) (fun q => w.2.2.2.1 ≤ q) := by
  simp only [Bool.and_eq_true] at hwd
  obtain ⟨h1, h2, h3, h4⟩ := hwd
  have hW8 : 2 * (F0 m pc ls (av.reverse ++ rest)).monitorRoom + (rest.map fun v => v.category).sum ≤ 8 := by
    show 2 * 0 + _ ≤ 8
    omega
  have S : CallFix p m c cc nL s args zt_TB own := ⟨hx, hb, hml, hown, hts⟩
  exact va_runS (As := av) S hM ⟨callB_of av.length hts (zj_good h1) rfl hrc hrs (zt_wd_ok h3 hts) (zt_wd_ok h2 hts) hd hR, zt_wd_ok h4 hts⟩ ⟨hbl, fun U hU hWm => ⟨rfl, hpre U hU hWm⟩⟩ rfl rfl hsz rfl hW8 hdg hf
theorem zj_inst (hx : p.tables.exec = Jvm.exec) (hb : c.code = cc) {nL : Nat} (hml : c.maxLocals = nL) (hown : s.vm.findClass own = some m.cls) (hts : ∀ x ∈ zt_TB, x.before args s = true) {y : MethodName} {bytes : ByteArray} {maxL a : Nat} {ret : Option FieldType} {rm : Room} {As : List Value} {B : State → Prop} (hM : zj_M l w y bytes maxL ret rm (.ref a :: As) B r) {p1 p2 p3 p4 p5 idx : Nat} (hwd : (zt_wd p1 (.code y bytes maxL ret) && (zt_wd p2 (.methodLink own idx y) && (zt_wd p3 (.initialized y.cls) && (zt_wd p4 (.instanceMethod y) && zt_wd p5 (.selects y.cls y y))))) = true) (hd : y.cls ≠ "java/lang/invoke/MethodHandle" ∧ y.cls ≠ "java/lang/invoke/VarHandle" ∧ (parseMethodDescriptor y.desc).map (fun d => d.parameters.length) = some As.length) (hbl : FrameBlind (va_Pc (.ref a :: As) B)) (hpre : ∀ U : State, U.heap = H → s.WarmedH U.vm → B U) (hrc2 : ∃ cell : Cell, H[a]? = some cell ∧ cell.vm.isStatics = false ∧ s.vm.findClass y.cls = some cell.cls) (hsz : ls.size = nL) (hcat : (rest.map fun v => v.category).sum ≤ 8) (hR : rm.frames + 1 ≤ R.frames ∧ 8 + (maxL + 11) + rm.locals ≤ R.locals) (hrc : rm.cells = 0) (hrs : rm.slots = 0) (hf : cells + 0 ≤ R.cells ∧ slots + 0 ≤ R.slots) (hdg : decode cc pc = .ok (.invokevirtual idx, 3)) : va_Run p l e R s m args below meth c H locs cells slots 0 0 (F0 m pc ls (As.reverse ++ .ref a :: rest)) rest (fun st o t => o = .returned r ∧ t.heap = st.heap) (fun q => w.2.2.2.1 ≤ q) := by
  simp only [Bool.and_eq_true] at hwd
  obtain ⟨h1, h2, h3, h4, h5⟩ := hwd
  have hW8 : 2 * (F0 m pc ls (As.reverse ++ .ref a :: rest)).monitorRoom + (rest.map fun v => v.category).sum ≤ 8 := by
    show 2 * 0 + _ ≤ 8
    omega
  have S : CallFix p m c cc nL s args zt_TB own := ⟨hx, hb, hml, hown, hts⟩
  exact va_runV (C := y.cls) (b := a) (As := As) S hM ⟨callB_of As.length hts (zj_good h1) rfl hrc hrs (zt_wd_ok h3 hts) (zt_wd_ok h2 hts) hd hR, zt_wd_ok h4 hts, zt_wd_ok h5 hts⟩ ⟨hbl, hrc2, fun U hU hWm => ⟨rfl, hpre U hU hWm⟩⟩ rfl rfl hsz rfl hW8 hdg hf
end ZJ
theorem zj_coder {l : Launch} {w : zk_W} (hW : zh_W w) {t a : Nat} (hta : w.2.2.2.2.1 t a) : zj_M l w (zt_mn 48) prog_17_method_152_code 1 (some .byte) (zj_r 0 0) [.ref a] w.2.2.2.2.2 (some (.int 0)) := by
  refine zj_of (by decide +kernel) (Nat.le_refl 1) ?_
  intro p e R s m below meth c ls Q hR hx hb hml hret hlk hown hts hZ hl hQ
  obtain ⟨n, v, f, q1, q2, q3, q4, q5, q6⟩ := hW.2.2.2.2.2.2.2.1 s hZ t a hta
  obtain ⟨z1, z2⟩ := hW.2.2.2.2.2.2.2.2 s hZ
  have hS : va_S (fun q => w.2.2.2.1 ≤ q) s.heap s.heap [] := va_S.rf
  have hl0 : ls[0]? = some (.val (.ref a)) := lv_at hl 0 rfl
  have hown : s.vm.findClass "java/lang/String" = some m.cls := hown
  refine va_gets (own := "java/lang/String") (pc := 0) (index := 38) hx hb z1 hS hown (zt_wd_ok (i := 742) (by decide +kernel) hts) (fun x h => h) (by decide +kernel) ?_
  refine lv_if_eq (pc := 3) (off := 10) (tgt := 13) hx hb (by decide +kernel) (by decide) (fun h => absurd h (by decide)) (fun _ => ?_)
  refine lv_aload_n (pc := 6) (k := 0) hx hb (i := 0) (by decide +kernel) rfl hl0 ?_
  refine vk_getf (own := "java/lang/String") (pc := 7) (index := 15) hx hb q3 hS hown (zt_wd_ok (i := 2064) (by decide +kernel) hts) (fun x h => h) (by decide +kernel) ?_
  refine lv_goto (pc := 10) (off := 4) (tgt := 14) hx hb (by decide +kernel) (by decide) ?_
  rw [hQ]
  exact W.zret hx hb hret (by decide) (fun t ht hWm => ⟨rfl, ht⟩) (fun q h => absurd h List.not_mem_nil) (by decide +kernel) hlk
theorem zj_isLatin {l : Launch} {w : zk_W} (hW : zh_W w) {t a : Nat} (hta : w.2.2.2.2.1 t a) : zj_M l w (zt_mn 50) prog_17_method_154_code 1 (some .boolean) (zj_r 0 0) [.ref a] w.2.2.2.2.2 (some (.int 1)) := by
  refine zj_of (by decide +kernel) (Nat.le_refl 1) ?_
  intro p e R s m below meth c ls Q hR hx hb hml hret hlk hown hts hZ hl hQ
  obtain ⟨n, v, f, q1, q2, q3, q4, q5, q6⟩ := hW.2.2.2.2.2.2.2.1 s hZ t a hta
  obtain ⟨z1, z2⟩ := hW.2.2.2.2.2.2.2.2 s hZ
  have hS : va_S (fun q => w.2.2.2.1 ≤ q) s.heap s.heap [] := va_S.rf
  have hl0 : ls[0]? = some (.val (.ref a)) := lv_at hl 0 rfl
  have hown : s.vm.findClass "java/lang/String" = some m.cls := hown
  refine va_gets (own := "java/lang/String") (pc := 0) (index := 38) hx hb z1 hS hown (zt_wd_ok (i := 742) (by decide +kernel) hts) (fun x h => h) (by decide +kernel) ?_
  refine lv_if_eq (pc := 3) (off := 14) (tgt := 17) hx hb (by decide +kernel) (by decide) (fun h => absurd h (by decide)) (fun _ => ?_)
  refine lv_aload_n (pc := 6) (k := 0) hx hb (i := 0) (by decide +kernel) rfl hl0 ?_
  refine vk_getf (own := "java/lang/String") (pc := 7) (index := 15) hx hb q3 hS hown (zt_wd_ok (i := 2064) (by decide +kernel) hts) (fun x h => h) (by decide +kernel) ?_
  refine lv_if_ne (pc := 10) (off := 7) (tgt := 17) hx hb (by decide +kernel) (by decide) (fun h => absurd rfl h) (fun _ => ?_)
  refine lv_iconst (pc := 13) (n := 1) (v := 1) hx hb (by decide +kernel) (by decide) ?_
  refine lv_goto (pc := 14) (off := 4) (tgt := 18) hx hb (by decide +kernel) (by decide) ?_
  rw [hQ]
  exact W.zret hx hb hret (by decide) (fun t ht hWm => ⟨rfl, ht⟩) (fun q h => absurd h List.not_mem_nil) (by decide +kernel) hlk
theorem zj_pre {l : Launch} {w : zk_W} {i n : Int32} {fm : Value} (hfm : fm = .null ∨ ∃ t : Nat, fm = .ref t) (h0 : ¬ i < 0) (h1 : i < n) : zj_M l w (zt_mn 53) prog_22_method_11_code 3 (some .int) (zj_r 0 0) [.int i, .int n, fm] w.2.2.2.2.2 (some (.int i)) := by
  refine zj_of (by decide +kernel) (by rcases hfm with rfl | ⟨t, rfl⟩ <;> exact Nat.le_refl 3) ?_
  intro p e R s m below meth c ls Q hR hx hb hml hret hlk hown hts hZ hl hQ
  have hl0 : ls[0]? = some (.val (.int i)) := lv_at hl 0 rfl
  have hl1 : ls[1]? = some (.val (.int n)) := lv_at hl 1 rfl
  refine lv_iload_n (pc := 0) (k := 0) hx hb (i := 0) (by decide +kernel) rfl hl0 ?_
  refine lv_if_lt (pc := 1) (off := 8) (tgt := 9) hx hb (by decide +kernel) (by decide) (fun h => absurd h h0) (fun _ => ?_)
  refine lv_iload_n (pc := 4) (k := 0) hx hb (i := 0) (by decide +kernel) rfl hl0 ?_
  refine lv_iload_n (pc := 5) (k := 1) hx hb (i := 1) (by decide +kernel) rfl hl1 ?_
  refine lv_icmp_lt (pc := 6) (off := 10) (tgt := 16) hx hb (by decide +kernel) (by decide) (fun _ => ?_) (fun h => absurd h1 h)
  refine lv_iload_n (pc := 16) (k := 0) hx hb (i := 0) (by decide +kernel) rfl hl0 ?_
  rw [hQ]
  exact W.iret hx hb hret (fun t ht hWm => ⟨rfl, ht⟩) (fun q h => absurd h List.not_mem_nil) (by decide +kernel) hlk
noncomputable def zj_B (w : zk_W) (U : State) : Prop := w.2.2.2.2.2 U ∧ w.2.2.2.1 ≤ U.heap.size
theorem zj_chk {l : Launch} {w : zk_W} (hW : zh_W w) {i n : Int32} (h0 : ¬ i < 0) (h1 : i < n) : zj_M l w (zt_mn 52) prog_17_method_155_code 2 none (zj_r 1 22) [.int i, .int n] (zj_B w) none := by
  refine zj_of (by decide +kernel) (Nat.le_refl 2) ?_
  intro p e R s m below meth c ls Q hR hx hb hml hret hlk hown hts hZ hl hQ
  obtain ⟨hZ, hbs⟩ := hZ
  have hl0 : ls[0]? = some (.val (.int i)) := lv_at hl 0 rfl
  have hl1 : ls[1]? = some (.val (.int n)) := lv_at hl 1 rfl
  obtain ⟨z1, z2⟩ := hW.2.2.2.2.2.2.2.2 s hZ
  have hS : va_S (fun q => w.2.2.2.1 ≤ q) s.heap s.heap [] := va_S.rf
  have hown : s.vm.findClass "java/lang/String" = some m.cls := hown
  subst hR
  have fin : ∀ {fm : Value}, (fm = .null ∨ ∃ t : Nat, fm = .ref t) → W p l e (zj_r 1 22) s m ([.int i, .int n] : List Value).toArray below meth c s.heap [] 0 0 Q (F0 m 5 ls [fm, .int n, .int i]) := by
    intro fm hfm
    refine zj_call (w := w) (rest := []) (zj_stat (own := "java/lang/String") (pc := 5) (idx := 1059) (p1 := 762) (p2 := 760) (p3 := 131) (p4 := 761) hx hb hml hown hts (zj_pre hfm h0 h1) (by decide +kernel) (show (zt_mn 53).cls ≠ "java/lang/invoke/MethodHandle" ∧ (zt_mn 53).cls ≠ "java/lang/invoke/VarHandle" ∧ (parseMethodDescriptor (zt_mn 53).desc).map (fun d => d.parameters.length) = some 3 by decide +kernel) (zj_blind hW.2.2.1) (zj_Z hW.2.2.1 hbs hS hZ) hl.1 (by decide) (by decide) rfl rfl (by decide) (by decide +kernel)) hS (fun locs1 hS1 => ?_)
    refine lv_pop (pc := 8) hx hb (by decide +kernel) rfl ?_
    rw [hQ]
    exact W.vret hx hb hret (fun t ht hWm => ⟨rfl, ht⟩) hS1.2.2 (by decide +kernel) hlk
  refine lv_iload_n (pc := 0) (k := 0) hx hb (i := 0) (by decide +kernel) rfl hl0 ?_
  refine lv_iload_n (pc := 1) (k := 1) hx hb (i := 1) (by decide +kernel) rfl hl1 ?_
  rcases z2 with z2 | ⟨t, z2⟩
  · exact va_gets (own := "java/lang/String") (pc := 2) (index := 1053) hx hb z2 hS hown (zt_wd_ok (i := 758) (by decide +kernel) hts) (fun x h => h) (by decide +kernel) (fin (Or.inl rfl))
  · exact va_gets (own := "java/lang/String") (pc := 2) (index := 1053) hx hb z2 hS hown (zt_wd_ok (i := 758) (by decide +kernel) hts) (fun x h => h) (by decide +kernel) (fin (Or.inr ⟨t, rfl⟩))
theorem zj_byte : ∀ k, k < 128 → ((nI k &&& 255).toUInt32 % 65536).toInt32 = nI k ∧ narrow .char (.int (nI k)) = .int (nI k) := by decide +kernel
theorem zj_byte2 {x : Int32} (h0 : 0 ≤ x.toInt) (h1 : x.toInt ≤ 127) : ((x &&& 255).toUInt32 % 65536).toInt32 = x ∧ narrow .char (.int x) = .int x := by
  have e : x = nI x.toInt.toNat := by
    apply Int32.toInt_inj.mp
    rw [nI_toInt (by omega)]
    omega
  rw [e]
  exact zj_byte _ (by omega)
theorem zj_at {l : Launch} {w : zk_W} (hW : zh_W w) {v n k : Nat} {f : Nat → Int32} (hn : n ≤ 1000) (hk : k < n) (hf : 0 ≤ (f k).toInt ∧ (f k).toInt ≤ 127) : zj_M l w (zt_mn 51) prog_18_method_2_code 2 (some .char) (zj_r 2 43) [.ref v, .int (nI k)] (zj_T w v n f) (some (.int (f k))) := by
  refine zj_of (by decide +kernel) (Nat.le_refl 2) ?_
  intro p e R s m below meth c ls Q hR hx hb hml hret hlk hown hts hZ hl hQ
  obtain ⟨⟨hZ, hbs⟩, hT⟩ := hZ
  have hl0 : ls[0]? = some (.val (.ref v)) := lv_at hl 0 rfl
  have hl1 : ls[1]? = some (.val (.int (nI k))) := lv_at hl 1 rfl
  have hS : va_S (fun q => w.2.2.2.1 ≤ q) s.heap s.heap [] := va_S.rf
  have hown : s.vm.findClass "java/lang/StringLatin1" = some m.cls := hown
  subst hR
  have tk : (nI k).toInt = k := nI_toInt (by omega)
  have tn : (Int32.ofNat n).toInt = n := nI_toInt (by omega)
  have h0 : ¬ nI k < 0 := by
    rw [Int32.lt_iff_toInt_lt, tk, Int32.toInt_zero]
    omega
  have h1 : nI k < Int32.ofNat n := by
    rw [Int32.lt_iff_toInt_lt, tk, tn]
    omega
  have hc : (nI k).toNatClampNeg = k := by
    show (nI k).toInt.toNat = k
    rw [tk]
    omega
  have hin : vp_in (nI k) n := by
    intro q
    rcases q with q | q
    · exact h0 q
    · rw [hc] at q
      omega
  refine lv_iload_n (pc := 0) (k := 1) hx hb (i := 1) (by decide +kernel) rfl hl1 ?_
  refine lv_aload_n (pc := 1) (k := 0) hx hb (i := 0) (by decide +kernel) rfl hl0 ?_
  refine va_tlen (pc := 2) hx hb hT hS rfl (by decide +kernel) ?_
  refine zj_call (w := w) (rest := []) (zj_stat (own := "java/lang/StringLatin1") (pc := 3) (idx := 9) (p1 := 757) (p2 := 755) (p3 := 129) (p4 := 756) (av := [.int (nI k), .int (Int32.ofNat n)]) hx hb hml hown hts (zj_chk hW h0 h1) (by decide +kernel) (show (zt_mn 52).cls ≠ "java/lang/invoke/MethodHandle" ∧ (zt_mn 52).cls ≠ "java/lang/invoke/VarHandle" ∧ (parseMethodDescriptor (zt_mn 52).desc).map (fun d => d.parameters.length) = some 2 by decide +kernel) (fun a U g mk q => ⟨q.1, hW.2.2.1.2.1 U _ rfl rfl q.2.1, q.2.2⟩) (fun U hU hWm => ⟨zj_Z hW.2.2.1 hbs hS hZ U hU hWm, by rw [hU]; exact hbs⟩) hl.1 (by decide) (by decide) rfl rfl (by decide) (by decide +kernel)) hS (fun locs1 hS1 => ?_)
  refine lv_aload_n (pc := 6) (k := 0) hx hb (i := 0) (by decide +kernel) rfl hl0 ?_
  refine lv_iload_n (pc := 7) (k := 1) hx hb (i := 1) (by decide +kernel) rfl hl1 ?_
  refine va_tb (pc := 8) (v := .int (f k)) hx hb hT hS1 hin (by rw [hc]) (by decide +kernel) ?_
  refine lv_sipush (pc := 9) (n := 255) (v := 255) hx hb (by decide +kernel) (by decide) ?_
  refine lv_iand (pc := 12) hx hb (by decide +kernel) ?_
  refine lv_i2c (pc := 13) (v := f k) hx hb (by decide +kernel) (zj_byte2 hf.1 hf.2).1 ?_
  rw [hQ]
  exact W.zret hx hb hret (zj_byte2 hf.1 hf.2).2 (fun t ht hWm => ⟨rfl, ht⟩) hS1.2.2 (by decide +kernel) hlk
noncomputable def zj_Kl (t : Nat) (n : Int) : zk_K := (zt_mn 47, prog_17_method_54_code, 1, (Option.some Jvm.ClassFile.FieldType.int), 1, 999, [(2, t, 0, 0)], [(some (0, 0, n, n), [])], [], (8, 200, 0, 0))
noncomputable def zj_Kc (t : Nat) (n : Int) : zk_K := (zt_mn 49, prog_17_method_56_code, 2, (Option.some Jvm.ClassFile.FieldType.char), 1, 999, [(2, t, 0, 0), (0, 0, 0, n)], [(some (0, 0, 0, 127), [])], [], (8, 200, 0, 0))
/-- a text's type: it is a text -/
theorem zj_text {w : zk_W} (hW : zh_W w) {s : State} {P : Nat → Option Nat} {F : Nat → va_E} {H : Heap} (hwt : zk_wt w s P F H) {a t : Nat} (ht : 200 ≤ t) (hp : P a = some t) : w.2.2.2.2.1 t a := by
  have h := hwt a t hp
  unfold zk_wt1 at h
  rw [hW.1, List.getElem?_eq_none (by have : zt_types.length ≤ 200 := by decide +kernel
                                      omega)] at h
  exact h.2.1