/-! part b0: String.charAt exactly; calls of String -/
/-- what stands at a place of a text -/
noncomputable def zj_ψ (t : Nat) : (Nat → Option Nat) → (Nat → Nat → Int) → List Int → (Nat → Option Nat) → (Nat → Nat → Int) → Int → Prop := fun P G ps P' G' rn => P' = P ∧ G' = G ∧ rn = zt_by (t - 200) (ps.getD 1 0).toNat
theorem zj_metB {l : Launch} {w : zk_W} (hW : zh_W w) {K : zk_K} {B : zk_B} (hk2 : zk_Kk K ≠ 2) (he0 : zk_e0b (zt_types, [], zt_dv, [], [], [], K) = true) (hcok : zk_cok w zt_TB K)
    (hJ : ∀ (p : Program) (e : Env) (R : Room) (s : State) (m : MethodId) (args : Array Value) (below : List Frame) (meth : Method) (c : Code) (Q : State → Prop) (P0 : Nat → Option Nat) (G0 : Nat → va_E) (ps : List Int) (X : Nat → Prop), p.tables.exec = Jvm.exec → c.code = K.2.1 → zk_tA P0 G0 ps → zk_all2 (zk_ok P0) (zk_Kp K) ps → zh_E l R s m args meth c w (zt_types, [], zt_dv, [], [], [], K) P0 X → Q = MQ below (fun _ st o t => zk_postX w K B P0 G0 ps st t o) args s (zk_Kr K).2.2.1 (zk_Kr K).2.2.2 (fun q => w.2.2.2.1 ≤ q) → ∀ (H : Heap) (locs : List Loc) (ls : Array Slot), zk_G w s (P0, G0, ps, zk_Ke K, [], K.2.2.1, X) (zk_k0 (zt_types, [], zt_dv, [], [], [], K)) ([0, 0, -1] ++ ps) P0 G0 H locs ls → W p l e R s m args below meth c H locs 0 0 Q (F0 m 0 ls [])) : zk_metX l w zt_dv zt_TB K zk_tA B ∧ zk_cok w zt_TB K :=
  ⟨zk_methH (E := (zt_types, [], zt_dv, [], [], [], K)) (mn := zt_mn) hk2 he0 hW.1 (zt_dvok hW.2.1) (zt_clsok hW.2.1) zt_good (fun j K' hj => by simp at hj) (fun j K' k hj => by simp at hj) hW.2.2.1 (fun s args hZ hts q hq => absurd hq List.not_mem_nil) (fun s args hZ hts q hq => absurd hq List.not_mem_nil) hcok hJ, hcok⟩
theorem zj_charX {l : Launch} {w : zk_W} (hW : zh_W w) {t n : Nat} (ht : 200 ≤ t) (hn : zt_tn[t - 200]? = some n) (hn1 : n ≤ 1000) : zk_metX l w zt_dv zt_TB (zj_Kc t ((n : Int) - 1)) zk_tA (zp_B (zj_ψ t)) ∧ zk_cok w zt_TB (zj_Kc t ((n : Int) - 1)) := by
  have hcok : zk_cok w zt_TB (zj_Kc t ((n : Int) - 1)) := zt_cok_ok (pl := 747) (K := zj_Kc 200 0) hW.2.1 (by decide +kernel)
  refine zj_metB hW (show (1 : Nat) ≠ 2 by decide) rfl hcok ?_
  intro p e R s m args below meth c Q P0 G0 ps X hx hb _ hps hE hQ H locs ls hG
  obtain ⟨⟨e1, e2, e3⟩, e4, e5, e6, e7, e8, e9, e10, e11, e12, e13, e14, e15, e16, e17, e18, e19, y1, y2, y3⟩ := hE [] P0 G0 [] (zk_Ka (zj_Kc t ((n : Int) - 1))) ps (zk_Kp (zj_Kc t ((n : Int) - 1))) (zk_all2_len hps).symm (fun _ _ h => h)
  have hb : c.code = prog_17_method_56_code := hb
  have hr : meth.sig.returnType = some .char := e18.2.1
  have hlk := e18.1
  have hown : s.vm.findClass "java/lang/String" = some m.cls := e6
  have hml : c.maxLocals = 2 := e1
  have hR1 : 8 ≤ R.frames := e13.1
  have hR2 : 200 ≤ R.locals := e13.2.1
  have hS : va_S (fun q => w.2.2.2.1 ≤ q) s.heap H locs := hG.2.2.2.2.2.2.2.2.1
  match ps, hps with
  | [a0, i0], hps =>
  obtain ⟨hp0, hp1, hp2, hp3⟩ : (0 : Int) ≤ a0 ∧ -1 ≤ a0 ∧ ((0 : Int) < 0 → a0 < 0) ∧ (0 ≤ a0 → P0 a0.toNat = some t) := hps.1
  obtain ⟨hi0, hi1, hi2⟩ : (0 : Int) ≤ i0 ∧ i0 ≤ (n : Int) - 1 ∧ zk_rg 0 i0 := hps.2.1
  obtain ⟨a, rfl⟩ : ∃ a : Nat, a0 = (a : Int) := ⟨a0.toNat, by omega⟩
  obtain ⟨k, rfl⟩ : ∃ k : Nat, i0 = (k : Int) := ⟨i0.toNat, by omega⟩
  have hpa : P0 a = some t := by
    have := hp3 hp0
    rwa [Int.toNat_natCast] at this
  have hta := zj_text hW hG.2.2.2.2.1 ht hpa
  obtain ⟨lv, hl, hlv⟩ := hG.2.2.2.2.2.1
  match lv, hlv with
  | [(j0, v0), (j1, v1)], hlv =>
  obtain ⟨hj, hv0⟩ : 0 = j0 ∧ zk_sv (zk_k0 (zt_types, [], zt_dv, [], [], [], zj_Kc t ((n : Int) - 1))).1 ([0, 0, -1] ++ [(a : Int), (k : Int)]) (3, 0) v0 := hlv.1
  obtain ⟨hj1, hv1⟩ : 1 = j1 ∧ zk_sv (zk_k0 (zt_types, [], zt_dv, [], [], [], zj_Kc t ((n : Int) - 1))).1 ([0, 0, -1] ++ [(a : Int), (k : Int)]) (4, 0) v1 := hlv.2.1
  subst hj
  subst hj1
  have hv0 := zh_vr hv0 (t := t) (lo := 0) (hi := 0) (a := a) rfl rfl
  obtain ⟨hv1, -⟩ := zh_vi hv1 (t := 0) (lo := 0) (hi := (n : Int) - 1) (n := (k : Int)) rfl rfl
  rw [Int.add_zero] at hv1
  subst hv0
  subst hv1
  have hl0 : ls[0]? = some (.val (.ref a)) := lv_at hl 0 rfl
  have hl1 : ls[1]? = some (.val (.int (nI k))) := lv_at hl 1 rfl
  obtain ⟨n', v, f, q1, q2, q3, q4, q5, q6⟩ := hW.2.2.2.2.2.2.2.1 s y2 t a hta
  obtain rfl : n = n' := Option.some.inj (hn.symm.trans q1)
  have hkn : k < n := by omega
  have hrc2 : ∃ cell : Cell, H[a]? = some cell ∧ cell.vm.isStatics = false ∧ s.vm.findClass "java/lang/String" = some cell.cls := by
    obtain ⟨cell, c1, c2, c3, -⟩ := q2.kept hS.2.1
    exact ⟨cell, c1, c2, c3⟩
  refine lv_aload_n (pc := 0) (k := 0) hx hb (i := 0) (by decide +kernel) rfl hl0 ?_
  refine zj_call (w := w) (rest := []) (zj_inst (own := "java/lang/String") (pc := 1) (As := []) (idx := 492) (p1 := 751) (p2 := 748) (p3 := 129) (p4 := 749) (p5 := 750) hx hb hml hown e4 (zj_isLatin hW hta) (by decide +kernel) (by decide +kernel) (zj_blind hW.2.2.1) (zj_Z hW.2.2.1 e9 hS y2) hrc2 hl.1 (by decide) ⟨by show 0 + 1 ≤ _; omega, by show 8 + (1 + 11) + 0 ≤ _; omega⟩ rfl rfl ⟨Nat.zero_le _, Nat.zero_le _⟩ (by decide +kernel)) hS (fun locs1 hS1 => ?_)
  refine lv_if_eq (pc := 4) (off := 12) (tgt := 16) hx hb (by decide +kernel) (by decide) (fun h => absurd h (by decide)) (fun _ => ?_)
  refine lv_aload_n (pc := 7) (k := 0) hx hb (i := 0) (by decide +kernel) rfl hl0 ?_
  refine vk_getf (own := "java/lang/String") (pc := 8) (index := 9) hx hb q4 hS1 hown (zt_wd_ok (i := 2063) (by decide +kernel) e4) (fun x h => h) (by decide +kernel) ?_
  refine lv_iload_n (pc := 11) (k := 1) hx hb (i := 1) (by decide +kernel) rfl hl1 ?_
  refine zj_call (w := w) (rest := []) (zj_stat (own := "java/lang/String") (pc := 12) (idx := 495) (p1 := 754) (p2 := 752) (p3 := 130) (p4 := 753) (av := [.ref v, .int (nI k)]) hx hb hml hown e4 (zj_at hW hn1 hkn (q6 k hkn).1) (by decide +kernel) (show (zt_mn 51).cls ≠ "java/lang/invoke/MethodHandle" ∧ (zt_mn 51).cls ≠ "java/lang/invoke/VarHandle" ∧ (parseMethodDescriptor (zt_mn 51).desc).map (fun d => d.parameters.length) = some 2 by decide +kernel) (zj_Tblind hW.2.2.1) (zj_Tpre hW.2.2.1 e9 hS1 y2 q5) hl.1 (by decide) ⟨by show 2 + 1 ≤ _; omega, by show 8 + (2 + 11) + 43 ≤ _; omega⟩ rfl rfl ⟨Nat.zero_le _, Nat.zero_le _⟩ (by decide +kernel)) hS1 (fun locs2 hS2 => ?_)
  have hG2 : zk_G w s (P0, G0, [(a : Int), (k : Int)], zk_Ke (zj_Kc t ((n : Int) - 1)), [], (zj_Kc t ((n : Int) - 1)).2.2.1, X) (zk_k0 (zt_types, [], zt_dv, [], [], [], zj_Kc t ((n : Int) - 1))) ([0, 0, -1] ++ [(a : Int), (k : Int)]) P0 G0 H locs2 ls := by
    obtain ⟨g1, g2, g3, g4, g5, g6, g7, g8, g9, g10, g11, g12, g13⟩ := hG
    exact ⟨g1, g2, g3, g4, g5, g6, g7, g8, hS2, g10, g11, g12, g13⟩
  have hfk := (q6 k hkn).1
  have hfi : f k = Int32.ofInt (f k).toInt := (Int32.ofInt_toInt (f k)).symm
  have fin : ∀ t' : State, t'.heap = H → s.WarmedH t'.vm → zk_postX w (zj_Kc t ((n : Int) - 1)) (zp_B (zj_ψ t)) P0 G0 [(a : Int), (k : Int)] s t' (.returned (some (.int (f k)))) := fun t' ht' hW' => by
    rw [hfi]
    exact zk_fin (u := (P0, G0, [(a : Int), (k : Int)], zk_Ke (zj_Kc t ((n : Int) - 1)), [], (zj_Kc t ((n : Int) - 1)).2.2.1, X)) (K := zj_Kc t ((n : Int) - 1)) (al := (some (0, 0, 0, 127), [])) (rn := (f k).toInt) (X0 := fun _ => True) e8 e7 rfl e19 hG2 (by unfold zk_rct; exact if_neg (show ¬ (1 : Nat) = 2 by decide)) (List.mem_singleton.mpr rfl) (fun f h => by cases h; exact ⟨⟨hfk.1, hfk.2, by constructor <;> omega⟩, Nat.zero_le _⟩) (fun q h => absurd h List.not_mem_nil) (Or.inl ⟨by show (1 : Nat) ≠ 2; decide, rfl, rfl, (q6 k hkn).2⟩) t' ht' hW'
  rw [hQ]
  exact W.zret hx hb hr (zj_byte2 hfk.1 hfk.2).2 (fun t' ht' hW' => fin t' ht' hW') hS2.2.2 (by decide +kernel) hlk
noncomputable def zp_rcS (K : zk_K) : Bool := match (zk_Kp K)[0]? with
  | some f => zk_Kk K == 1 && (f.1 == 2 && (decide (0 ≤ f.2.2.1) && (decide (200 ≤ f.2.1) && zk_Kc K == 999)))
  | none => false
noncomputable def zp_cbS (eff : List (Nat × Nat × Nat)) (rm : Nat × Nat × Nat × Nat) (K : zk_K) (how : Nat) : Bool := zp_rcS K && (zk_hk how == zk_Kk K && (decide ((zk_Kr K).1 + 1 ≤ rm.1) && (decide (8 + (K.2.2.1 + 11) + (zk_Kr K).2.1 ≤ rm.2.1) && (decide ((zk_Kr K).2.2.1 = 0) && (decide ((zk_Kr K).2.2.2 = 0) && (zk_Ke K).all (fun e => e.2.2 == 0 && eff.any (fun q => q.1 == e.1 && zk_cov q.2.1 e.2.1 && q.2.2 == 0)))))))
section ZB0
variable {p : Program} {l : Launch} {e : Env} {R : Room} {s : State} {m : MethodId} {args : Array Value} {below : List Frame} {meth : Method} {c : Code} {Q : State → Prop}
variable {cc : ByteArray} {w : zk_W} {u : zk_M} {Ts : List Jvm.Cond} {own : String}
variable {pc : Nat} {L : List (Nat × Nat × Int)} {S : List (Nat × Int)} {P : Nat → Option Nat} {G : Nat → Nat → Int}
theorem zp_callS (hx : p.tables.exec = Jvm.exec) (hb : c.code = cc) {E : zk_Ev} (hE : zk_ctx l R s m args meth c w u zt_TB own zt_TB zt_mn E) (hw : w.1 = zt_types) {eff : List (Nat × Nat × Nat)} (heff : u.2.2.2.1 = eff) {rm : Nat × Nat × Nat × Nat} (hrm : zk_Kr (zk_ev E) = rm) {K : zk_K} {φ : (Nat → Option Nat) → (Nat → Nat → Int) → List Int → Prop} {ψ : (Nat → Option Nat) → (Nat → Nat → Int) → List Int → (Nat → Option Nat) → (Nat → Nat → Int) → Int → Prop} (hKX : zk_metX l w zt_dv zt_TB K (zp_A φ) (zp_B ψ) ∧ zk_cok w zt_TB K) (hdv : E.2.2.1 = zt_dv) {how idx mi j : Nat} (hlc : E.2.2.2.2.2.1[j]? = some (how, idx, mi)) (hmn : K.1 = zt_mn mi) (hcb : zp_cbS eff rm K how = true) (hdg : decode cc pc = .ok (zk_ins how idx, 3)) {S0 : List (Nat × Int)} (ps : List Int) (hS : zp_as K ps ++ S = S0) (hok : zk_all2 (zk_ok P) (zk_Kp K) ps) (hcs : zp_cs S ≤ 8) (hA : φ P G ps)
    (kk : ∀ al ∈ zk_Ka K, ∀ (rn : Int) (P' : Nat → Option Nat) (G' : Nat → Nat → Int), (∀ a t, P a = some t → P' a = some t) → zp_fr (zk_Ke K) ps P G G' → (∀ f, al.1 = some f → zk_ok P' f rn ∧ f.1 ≤ 2) → (∀ q ∈ al.2, zk_num ps rn q.1 ≤ zk_num ps rn q.2.1 + q.2.2) → ψ P G ps P' G' rn → zp_J p l e R s m args below meth c Q w u [] (pc + 3) L (match al.1 with
      | some f => (f.1, rn) :: S
      | none => S) P' G') : zp_J p l e R s m args below meth c Q w u [] pc L S0 P G := by
  obtain ⟨⟨e1, e2, e3⟩, e4, e5, e6, e7, e8, e9, e10, e11, e12, e13, e14, e15, e16, e17, e18, e19, y1, y2, y3⟩ := hE
  unfold zp_cbS at hcb
  simp only [Bool.and_eq_true, decide_eq_true_eq, beq_iff_eq] at hcb
  obtain ⟨c1, c2, c3, c4, c5, c6, c7⟩ := hcb
  subst hS
  intro F H locs ls hF hI hL hkL hkS
  obtain ⟨i1, i2, i3, i4, i5⟩ := hI
  have hwt := i1.strong
  obtain ⟨hM, hC⟩ := hKX
  have hk2 : zk_Kk K ≠ 2 := by
    unfold zp_rcS at c1
    split at c1
    · simp only [Bool.and_eq_true, beq_iff_eq] at c1
      omega
    · cases c1
  have hlcq := e17 _ (List.mem_of_getElem? hlc)
  dsimp only at hlcq
  rw [← hmn] at hlcq
  have hgood : GoodIn zt_TB (Jvm.Cond.code K.1 K.2.1 K.2.2.1 K.2.2.2.1 :: zt_TB) := by
    intro x hx'
    rcases List.mem_cons.mp hx' with rfl | hx'
    · exact e14 _ hC.2.2.2.2.1
    · exact e14 x hx'
  have hbH : w.2.2.2.1 ≤ H.size := Nat.le_trans e9 i4.1
  have hpre : ∀ U : State, U.heap = H → s.WarmedH U.vm → zk_pre w zt_dv K P F ps H.size U := fun U hU hWm =>
    ⟨by rw [hU], hbH, by rw [hU]; exact hwt.moved hWm.alike, va_K.moved hWm.alike e7, fun hk => absurd hk hk2, y1.1 s U hWm (fun q hq => by rw [hU]; exact i4.2.1 q (Nat.lt_of_lt_of_le hq e9) (Nat.not_le.mpr hq)) y2, fun t a h => i2 a t (y3 t a h)⟩
  have hrc : zk_Kk K = 1 → ∃ b : Nat, ps[0]? = some (b : Int) ∧ (∃ f, (zk_Kp K)[0]? = some f ∧ 2 ≤ f.1) ∧ ∃ cell : Cell, H[b]? = some cell ∧ cell.vm.isStatics = false ∧ s.vm.findClass K.1.cls = some cell.cls := by
    intro hk
    unfold zp_rcS at c1
    split at c1
    · rename_i f hf
      simp only [Bool.and_eq_true, beq_iff_eq, decide_eq_true_eq] at c1
      obtain ⟨z0, z1, z2, z3, z4⟩ := c1
      obtain ⟨n, n1, n2⟩ := zk_all2_get hok hf
      obtain ⟨fk, ft, fl, fh⟩ := f
      dsimp only at z1 z2 z3
      subst z1
      have n2 : fl ≤ n ∧ -1 ≤ n ∧ (fh < 0 → n < 0) ∧ (0 ≤ n → P n.toNat = some ft) := n2
      have hp := n2.2.2.2 (by omega)
      have hT : w.1[ft]? = none := by
        rw [hw]
        exact List.getElem?_eq_none (by have : zt_types.length ≤ 200 := by decide +kernel
                                        omega)
      obtain ⟨o1, o2, -⟩ := (zk_wt1.none hT).mp (hwt _ _ hp)
      obtain ⟨cell, g1, g2, g3⟩ := y1.2.2 s y2 _ _ o2
      refine ⟨n.toNat, by rw [n1]; congr 1; omega, ⟨_, hf, Nat.le_refl _⟩, cell, ?_, g2, ?_⟩
      · rw [i4.2.1 _ (Nat.lt_of_lt_of_le o1 e9) (Nat.not_le.mpr o1)]
        exact g1
      · rcases hC.2.2.2.2.2.1 (by omega) with ⟨h9, -⟩ | ⟨-, h9⟩
        · exact absurd z4 h9
        · rw [h9]
          exact g3
    · cases c1
  have hlen := zk_all2_len hok
  have hstk : ((zp_as K ps ++ S).map (fun q => zk_mk q.1 q.2)) = (zk_avs (zk_Kp K) ps).reverse ++ S.map (fun q => zk_mk q.1 q.2) := by
    unfold zp_as zk_avs
    rw [List.map_append, List.map_reverse, List.map_zipWith]
  have hcat : ((S.map (fun q => zk_mk q.1 q.2)).map fun v => v.category).sum ≤ 8 := by
    rw [List.map_map]
    have : (S.map ((fun v => v.category) ∘ fun q => zk_mk q.1 q.2)) = S.map (fun q => if q.1 = 1 then 2 else 1) := List.map_congr_left (fun q _ => zk_mk_cat)
    rw [this]
    exact hcs
  rw [hdv] at e11
  rw [hrm] at e13
  have hrun := zk_run hx hb y1 (locs := locs) (cu := 0) (su := 0) (pc := pc) (ls := ls) (rest := S.map (fun q => zk_mk q.1 q.2)) (e := e) (below := below) (meth := meth) e1 e6 e4 hM hC hgood hlcq c2 hok (show φ P (zp_n F) ps by rw [hF]; exact hA) hpre hrc (fun h => absurd h hk2) hL.1 hcat (R := R) ⟨by have := e13.1; omega, by have := e13.2.1; omega⟩ ⟨by omega, by omega⟩ hdg
  rw [hstk]
  intro T hT X
  obtain ⟨v, st₀, t, T', Lc, h0, X', hLc, f1', f2', hpost, st'⟩ := hrun T hT X
  obtain ⟨al, al1, rn, P', F', f1, f2, f3, f4, f5, f6, f7, f8, f9, g1, g2, hBB⟩ := hpost
  rw [h0] at f8 f9 g1
  have hvm : t.vm.Alike s.vm := by
    have := X'.warmed.alike
    rw [f2'] at this
    exact this.symm
  rw [← f1'] at f4 f8 f9 g1
  have hwt' : zk_wt w s P' F' T'.heap := f4.moved hvm
  rw [c5, c6] at X'
  have hI' : zp_I w s u [] P' F' T'.heap (locs ++ Lc) := by
    refine ⟨zp_wt.of hwt', fun a t h => f6 a t (i2 a t h), fun a t h => (i3 a t h).trans ((f7 a t (i2 a t h)).mono (fun k hk => ?_)), ⟨Nat.le_trans i4.1 f8, fun q g1 g2 => ?_, fun q hq => ?_⟩, fun q z1 z2 => ?_⟩
    · obtain ⟨q, q1, q2, q3, q4⟩ := hk
      have h7 := List.all_eq_true.mp c7 q q1
      simp only [Bool.and_eq_true, beq_iff_eq] at h7
      obtain ⟨h71, h72⟩ := h7
      obtain ⟨q', r1, r2⟩ := List.any_eq_true.mp h72
      simp only [Bool.and_eq_true, beq_iff_eq] at r2
      exact ⟨q', by rw [heff]; exact r1, r2.1.1.trans q2, zk_cov_ok r2.1.2 q3, Or.inl r2.2⟩
    · rw [f9 q (Nat.lt_of_lt_of_le g1 i4.1) (Nat.not_le.mp g2)]
      exact i4.2.1 q g1 g2
    · rcases List.mem_append.mp hq with g | g
      · exact i4.2.2 q g
      · exact hLc q g
    · obtain ⟨y1, y2⟩ := i5 q z1 z2
      obtain ⟨y3, y4⟩ := g1 q (Nat.lt_of_lt_of_le z1 i4.1) y1 (fun h => hk2 h.1)
      exact ⟨y3, y4.trans y2⟩
  have hfr := zp_ef_fr f7
  rw [hF] at hfr
  have hψ : ψ P G ps P' (zp_n F') rn := by
    have h := hBB
    unfold zp_B at h
    rw [hF] at h
    exact h
  have hkS' := fun q h => hkS q (List.mem_append_right _ h)
  have K2 := kk al al1 rn P' (zp_n F') f6 hfr f2 f3 hψ
  cases hal : al.1 with
  | some f =>
    rw [hal] at f1 K2
    have f1 : v = some (zk_mk f.1 rn) := by cases f1; rfl
    subst f1
    obtain ⟨k1, k2⟩ := f2 f hal
    obtain ⟨t2, a1, b1'⟩ := K2 F' T'.heap _ ls rfl hI' hL hkL (List.forall_mem_cons.mpr ⟨zp_ok_k k1 k2, hkS'⟩) T' rfl X'
    exact ⟨t2, st' t2 a1, b1'⟩
  | none =>
    rw [hal] at f1 K2
    have f1 : v = none := by cases f1; rfl
    subst f1
    obtain ⟨t2, a1, b1'⟩ := K2 F' T'.heap _ ls rfl hI' hL hkL hkS' T' rfl X'
    exact ⟨t2, st' t2 a1, b1'⟩
end ZB0
