/-! part k0: a new text; its copy -/
section ZK0A
variable {p : Program} {l : Launch} {e : Env} {R : Room} {s : State} {m : MethodId} {args : Array Value} {below : List Frame} {meth : Method} {c : Code} {Q : State → Prop}
variable {cc : ByteArray} {w : zk_W} {u : zk_M} {Ts : List Jvm.Cond} {own : String}
variable {lk : List zk_L} {KS : List zk_K} {km : List Nat} {lc : List (Nat × Nat × Nat)} {K : zk_K} {P0 : Nat → Option Nat} {G0 : Nat → va_E} {ps : List Int} {X : Nat → Prop}
/-- Math.max, Math.min where it is known which it is (the upper one of the two) -/
theorem zh_mmx (hx : p.tables.exec = Jvm.exec) (hb : c.code = cc) (hE : ∀ N' ca, zk_ctx l R s m args meth c w (P0, G0, ps, zk_Ke K, N', K.2.2.1, X) zt_TB K.1.cls zt_TB zt_mn (zt_types, lk, zt_dv, KS, km, lc, K.1, K.2.1, K.2.2.1, K.2.2.2.1, zk_Kk K, zk_Kc K, zk_Kp K, ca, zk_Ke K, zk_Kr K)) {idx j k b pc cu su : Nat} {v : Int} {κ : zk_C} {x y : zk_S} {st : List zk_S} (hdg : decode cc pc = .ok (.invokestatic idx, 3)) (hlk : lk[j]? = some (6, idx, k, b, v)) (hk : (k = 0 ∧ zk_hg κ.1 x ≤ zk_lw κ.1 y) ∨ (k = 1 ∧ zk_hg κ.1 y ≤ zk_lw κ.1 x)) (hkx : zk_kd κ.1 x = 0) (hky : zk_kd κ.1 y = 0) (hr : 1 ≤ (zk_Kr K).1 ∧ zk_cs κ.1 st + 15 ≤ (zk_Kr K).2.1 ∧ cu ≤ (zk_Kr K).2.2.1 ∧ su ≤ (zk_Kr K).2.2.2) {N : List Int} {P : Nat → Option Nat} {F : Nat → va_E} {H : Heap} {locs : List Loc} {ls : Array Slot} {sv : List Value} (hG : zk_G w s (P0, G0, ps, zk_Ke K, [], K.2.2.1, X) κ N P F H locs ls) (hS : zk_all2 (zk_sv κ.1 N) (y :: x :: st) sv)
    (kk : ∀ sv' : List Value, zk_all2 (zk_sv κ.1 N) (y :: st) sv' → W p l e R s m args below meth c H locs cu su Q (F0 m (pc + 3) ls sv')) : W p l e R s m args below meth c H locs cu su Q (F0 m pc ls sv) := by
  obtain ⟨⟨e1, e2, e3⟩, e4, e5, e6, e7, e8, e9, e10, e11, e12, e13, -⟩ := hE [] []
  have e0 := (e10 _ (List.mem_of_getElem? hlk))
  have hV := hG.1
  have hls : c.maxLocals = ls.size := by
    obtain ⟨lv, g1, -⟩ := hG.2.2.2.2.2.1
    exact e1.trans g1.1.symm
  have r1 : (zk_Kr K).1 ≤ R.frames := e13.1
  have r2 : (zk_Kr K).2.1 ≤ R.locals := e13.2.1
  have r3 : (zk_Kr K).2.2.1 ≤ R.cells := e13.2.2.1
  have r4 : (zk_Kr K).2.2.2 ≤ R.slots := e13.2.2.2
  match sv, hS with
  | vy :: vx :: sv', hS =>
    have hy := hS.1
    have hcs := zk_cs_ok hS.2.2
    obtain ⟨a, rfl, ra, la, ha, -⟩ := hS.2.1.int hV hkx
    obtain ⟨b9, rfl, rb, lb, hb', -⟩ := hS.1.int hV hky
    rcases hk with ⟨rfl, hk⟩ | ⟨rfl, hk⟩
    · have hm : (if Int32.ofInt a < Int32.ofInt b9 then Int32.ofInt b9 else Int32.ofInt a) = Int32.ofInt b9 := by
        by_cases h : a < b9
        · rw [if_pos ((zk_lt32 ra rb).mpr h)]
        · rw [if_neg (fun z => h ((zk_lt32 ra rb).mp z))]; congr 1; omega
      refine va_mmax hx hb hls e6 e0.1 e0.2.1 e0.2.2.1 e0.2.2.2 (by omega) (by omega) (by omega) (by omega) hdg ?_
      rw [hm]
      exact kk _ ⟨hy, hS.2.2⟩
    · have hm : (if Int32.ofInt b9 < Int32.ofInt a then Int32.ofInt b9 else Int32.ofInt a) = Int32.ofInt b9 := by
        by_cases h : b9 < a
        · rw [if_pos ((zk_lt32 rb ra).mpr h)]
        · rw [if_neg (fun z => h ((zk_lt32 rb ra).mp z))]; congr 1; omega
      refine va_mmin hx hb hls e6 e0.1 e0.2.1 e0.2.2.1 e0.2.2.2 (by omega) (by omega) (by omega) (by omega) hdg ?_
      rw [hm]
      exact kk _ ⟨hy, hS.2.2⟩
end ZK0A
/-- an int that is known by its name -/
theorem zB_nmx {V : List zk_F} {N : List Int} {x t : Nat} {lo hi n : Int} {v : Value} (hv : zk_sv V N (x, 0) v) (hV : V[x]? = some (0, t, lo, hi)) (hn : N[x]? = some n) : zp_num v = n := by
  obtain ⟨e1, e2⟩ := zh_vi hv hV hn
  rw [e1]
  rw [Int.add_zero] at e2 ⊢
  exact zk_i32 e2
theorem zB_fr {N : List Int} {P0 : Nat → Option Nat} {A : List Nat} (h : zk_fr N P0 A) {x b : Nat} (hx : x ∈ A) (hn : N[x]? = some (b : Int)) : P0 b = none := by
  obtain ⟨n, e1, e2, e3⟩ := h x hx
  cases e1.symm.trans hn
  rw [Int.toNat_natCast] at e3
  exact e3
noncomputable def zK_ntx : zk_K := (zt_mn 11, prog_10_method_1_code, 4, (Option.none : Option Jvm.ClassFile.FieldType), 2, 8, [(3, 9, 0, 0), (0, 0, 0, 12), (0, 0, 0, 872)], [(none, [])], [], (1, 60, 6, 932))
theorem zq_ntx {l : Launch} {w : zk_W} (hW : zh_W w) : zh_K l w zK_ntx := zh_meth hW (lk := [(7, 7, 0, 0, 0), (6, 13, 1, 0, 0), (6, 19, 0, 0, 0), (5, 1, 1, 0, 0), (2, 22, 8, 0, 18), (2, 26, 8, 1, 18), (2, 29, 8, 2, 18), (2, 32, 8, 3, 18), (2, 35, 8, 4, 18), (2, 38, 8, 5, 18)]) (KS := []) (km := []) (lc := []) (CL0 := zc_X8_init) (ns := [(17, 36, []), (24, 37, []), (31, 38, []), (38, 39, []), (45, 40, []), (62, 41, [])]) (AN := []) (fuel := 198) (pl := 471) (by decide +kernel) (by decide +kernel) zd_X8_init (fun K h => nomatch h)
noncomputable def zR_n1 : zk_An := (8, ([(0, 0, 0, 0), (1, 0, 0, 0), (2, 0, (-1), (-1)), (3, 9, 0, 0), (0, 0, 0, 12), (0, 0, 0, 872)], [], [], [(3, 8, [(2, 0), (2, 0), (2, 0), (2, 0), (2, 0), (2, 0), (0, 0), (0, 0)])], [(0, (3, 0)), (1, (4, 0)), (2, (5, 0))], [(0, 3), (1, 4), (2, 5)], []), [(4, 0), (0, 12), (0, 0)], 0, 0, ((-1), []))
noncomputable def zR_n2 : zk_An := (56, ([(0, 0, 0, 0), (1, 0, 0, 0), (2, 0, (-1), (-1)), (3, 9, 0, 0), (0, 0, 0, 12), (0, 0, 0, 872), (2, 36, 0, 0), (2, 37, 0, 0), (2, 38, 0, 0), (2, 39, 0, 0), (2, 40, 0, 0)], [], [(10, 1000, (4, 0)), (9, 1000, (4, 0)), (8, 1000, (4, 0)), (7, 1000, (4, 0)), (6, 1000, (4, 0))], [(3, 8, [(6, 0), (7, 0), (8, 0), (9, 0), (10, 0), (2, 0), (0, 0), (0, 0)])], [(3, (4, 0)), (0, (3, 0)), (1, (4, 0)), (2, (5, 0))], [(0, 3), (1, 4), (2, 5)], [10, 9, 8, 7, 6]), [(5, 0), (0, 872), (0, 0), (3, 0)], 5, 60, ((-1), []))
noncomputable def zR_n3 : zk_An := (67, ([(0, 0, 0, 0), (1, 0, 0, 0), (2, 0, (-1), (-1)), (3, 9, 0, 0), (0, 0, 0, 12), (0, 0, 0, 872), (2, 36, 0, 0), (2, 37, 0, 0), (2, 38, 0, 0), (2, 39, 0, 0), (2, 40, 0, 0), (2, 41, 0, 0)], [], [(11, 1000, (5, 0)), (10, 1000, (4, 0)), (9, 1000, (4, 0)), (8, 1000, (4, 0)), (7, 1000, (4, 0)), (6, 1000, (4, 0))], [(3, 8, [(6, 0), (7, 0), (8, 0), (9, 0), (10, 0), (11, 0), (0, 0), (0, 0)])], [(3, (4, 0)), (0, (3, 0)), (1, (4, 0)), (2, (5, 0))], [(0, 3), (1, 4), (2, 5)], [11, 10, 9, 8, 7, 6]), [], 6, 932, ((-1), []))
/-- what a new text is -/
noncomputable def zB_ntx : zk_B := fun P G ps P' F' _ => (∀ a t k, P a = some t → zp_n F' a k = zp_n G a k) ∧ ∀ (a : Nat) (c1 s1 : Int), ps = [(a : Int), c1, s1] → ∃ b : Nat → Nat, ∀ i : Nat, i < 6 → zp_n F' a i = (b i : Int) ∧ P' (b i) = some (36 + i) ∧ P (b i) = none ∧ zp_n F' (b i) 1000 = if i = 5 then s1 else c1
set_option maxHeartbeats 4000000 in
theorem zX_ntx {l : Launch} {w : zk_W} (hW : zh_W w) : zk_metX l w zt_dv zt_TB zK_ntx zk_tA zB_ntx ∧ zk_cok w zt_TB zK_ntx := by
  have hCL := zq_note_ok zd_X8_init [(17, 36, []), (24, 37, []), (31, 38, []), (38, 39, []), (45, 40, []), (62, 41, [])]
  refine zh_methK hW (lk := [(7, 7, 0, 0, 0), (6, 13, 1, 0, 0), (6, 19, 0, 0, 0), (5, 1, 1, 0, 0), (2, 22, 8, 0, 18), (2, 26, 8, 1, 18), (2, 29, 8, 2, 18), (2, 32, 8, 3, 18), (2, 35, 8, 4, 18), (2, 38, 8, 5, 18)]) (KS := []) (km := []) (lc := []) (K := zK_ntx) (pl := 471) (by decide +kernel) (by decide +kernel) (fun K h => nomatch h) (fun p e R s m args below meth c Q P0 G0 ps X hx hb hps hE hQ H locs ls hG => ?_)
  refine zh_segC (K := zK_ntx) hx hb hE hCL (pc := 0) (st := []) (cu := 0) (su := 0) (sv := []) (AN := [zR_n1]) (fuel := 120) (by decide +kernel) hG trivial (fun A hA N P F H locs ls sv hG hS => ?_)
  obtain rfl := List.mem_singleton.mp hA
  have hS : zk_all2 (zk_sv zR_n1.2.1.1 N) [(4, 0), (0, 12), (0, 0)] sv := hS
  refine zh_mmx (K := zK_ntx) (κ := zR_n1.2.1) (x := (0, 12)) (y := (4, 0)) (st := [(0, 0)]) (j := 1) (pc := 8) hx hb hE (zd_X8_init (8, .invokestatic 13, 3, 0, []) (List.mem_of_getElem? (i := 5) rfl)) rfl (Or.inr ⟨rfl, by decide⟩) (by decide) (by decide) ⟨by decide, by decide, by decide, by decide⟩ hG hS (fun sv hS => ?_)
  refine zh_mmx (K := zK_ntx) (κ := zR_n1.2.1) (x := (0, 0)) (y := (4, 0)) (st := []) (j := 2) (pc := 11) hx hb hE (zd_X8_init (11, .invokestatic 19, 3, 0, []) (List.mem_of_getElem? (i := 6) rfl)) rfl (Or.inl ⟨rfl, by decide⟩) (by decide) (by decide) ⟨by decide, by decide, by decide, by decide⟩ hG hS (fun sv hS => ?_)
  refine zh_segC (K := zK_ntx) hx hb hE hCL (pc := 14) (κ := zR_n1.2.1) (st := [(4, 0)]) (cu := 0) (su := 0) (AN := [zR_n2]) (fuel := 120) (by decide +kernel) hG hS (fun A hA N P F H locs ls sv hG hS => ?_)
  obtain rfl := List.mem_singleton.mp hA
  have hS : zk_all2 (zk_sv zR_n2.2.1.1 N) [(5, 0), (0, 872), (0, 0), (3, 0)] sv := hS
  refine zh_mmx (K := zK_ntx) (κ := zR_n2.2.1) (x := (0, 872)) (y := (5, 0)) (st := [(0, 0), (3, 0)]) (j := 1) (pc := 56) hx hb hE (zd_X8_init (56, .invokestatic 13, 3, 0, []) (List.mem_of_getElem? (i := 32) rfl)) rfl (Or.inr ⟨rfl, by decide⟩) (by decide) (by decide) ⟨by decide, by decide, by decide, by decide⟩ hG hS (fun sv hS => ?_)
  refine zh_mmx (K := zK_ntx) (κ := zR_n2.2.1) (x := (0, 0)) (y := (5, 0)) (st := [(3, 0)]) (j := 2) (pc := 59) hx hb hE (zd_X8_init (59, .invokestatic 19, 3, 0, []) (List.mem_of_getElem? (i := 33) rfl)) rfl (Or.inl ⟨rfl, by decide⟩) (by decide) (by decide) ⟨by decide, by decide, by decide, by decide⟩ hG hS (fun sv hS => ?_)
  refine zh_segC (K := zK_ntx) hx hb hE hCL (pc := 62) (κ := zR_n2.2.1) (st := [(5, 0), (3, 0)]) (cu := 5) (su := 60) (AN := [zR_n3]) (fuel := 120) (by decide +kernel) hG hS (fun A hA N P F H locs ls sv hG hS => ?_)
  obtain rfl := List.mem_singleton.mp hA
  refine zh_retC (K := zK_ntx) hx hb hE hQ rfl rfl (List.mem_singleton.mpr rfl) (zd_X8_init (67, .return_, 1, 0, []) (List.mem_of_getElem? (i := 36) rfl)) (by decide +kernel) (by decide +kernel) (by decide +kernel) hG hS (fun z f n fs hz hf hn hnP hfs => ?_)
  have hV := hG.1
  have hF := hG.2.2.1
  have hef : zk_ef [] ps P0 G0 F := hG.2.2.2.2.2.2.2.1
  have hext : ∀ a t, P0 a = some t → P a = some t := hG.2.2.2.2.2.2.1
  have hfr : zk_fr N P0 [11, 10, 9, 8, 7, 6] := hG.2.2.2.2.2.2.2.2.2.2.1
  have hpa := hG.2.2.2.2.2.2.2.2.2.1
  obtain rfl := (List.cons.inj hz).1
  have hf : some ((3, 9, 0, 0) : zk_F) = some f := hf
  obtain rfl := Option.some.inj hf
  refine ⟨zp_n_new hef hext hnP, fun a c1 s1 hps2 => ?_⟩
  subst hps2
  have hn : some (a : Int) = some (n : Int) := hn
  obtain rfl : a = n := by have := Option.some.inj hn; omega
  have hc1 : N[4]? = some c1 := zh_pa (j := 1) hpa (List.mem_cons_of_mem _ List.mem_cons_self) rfl
  have hs1 : N[5]? = some s1 := zh_pa (j := 2) hpa (List.mem_cons_of_mem _ (List.mem_cons_of_mem _ List.mem_cons_self)) rfl
  obtain ⟨b0, hb0, qb0⟩ := zh_r (i := 6) (t := 36) hV rfl
  have nb0 : b0 ≠ a := fun e => by rw [e, hnP] at qb0; cases qb0
  obtain ⟨v0, x0, sv0⟩ := zk_all2_get hfs (i := 0) rfl
  obtain ⟨y0, hy0, sy0⟩ := zh_rdf hF (x := 6) (k := 1000) (List.mem_of_getElem? (i := 5) rfl) hb0
  obtain ⟨b1, hb1, qb1⟩ := zh_r (i := 7) (t := 37) hV rfl
  have nb1 : b1 ≠ a := fun e => by rw [e, hnP] at qb1; cases qb1
  obtain ⟨v1, x1, sv1⟩ := zk_all2_get hfs (i := 1) rfl
  obtain ⟨y1, hy1, sy1⟩ := zh_rdf hF (x := 7) (k := 1000) (List.mem_of_getElem? (i := 4) rfl) hb1
  obtain ⟨b2, hb2, qb2⟩ := zh_r (i := 8) (t := 38) hV rfl
  have nb2 : b2 ≠ a := fun e => by rw [e, hnP] at qb2; cases qb2
  obtain ⟨v2, x2, sv2⟩ := zk_all2_get hfs (i := 2) rfl
  obtain ⟨y2, hy2, sy2⟩ := zh_rdf hF (x := 8) (k := 1000) (List.mem_of_getElem? (i := 3) rfl) hb2
  obtain ⟨b3, hb3, qb3⟩ := zh_r (i := 9) (t := 39) hV rfl
  have nb3 : b3 ≠ a := fun e => by rw [e, hnP] at qb3; cases qb3
  obtain ⟨v3, x3, sv3⟩ := zk_all2_get hfs (i := 3) rfl
  obtain ⟨y3, hy3, sy3⟩ := zh_rdf hF (x := 9) (k := 1000) (List.mem_of_getElem? (i := 2) rfl) hb3
  obtain ⟨b4, hb4, qb4⟩ := zh_r (i := 10) (t := 40) hV rfl
  have nb4 : b4 ≠ a := fun e => by rw [e, hnP] at qb4; cases qb4
  obtain ⟨v4, x4, sv4⟩ := zk_all2_get hfs (i := 4) rfl
  obtain ⟨y4, hy4, sy4⟩ := zh_rdf hF (x := 10) (k := 1000) (List.mem_of_getElem? (i := 1) rfl) hb4
  obtain ⟨b5, hb5, qb5⟩ := zh_r (i := 11) (t := 41) hV rfl
  have nb5 : b5 ≠ a := fun e => by rw [e, hnP] at qb5; cases qb5
  obtain ⟨v5, x5, sv5⟩ := zk_all2_get hfs (i := 5) rfl
  obtain ⟨y5, hy5, sy5⟩ := zh_rdf hF (x := 11) (k := 1000) (List.mem_of_getElem? (i := 0) rfl) hb5
  refine ⟨fun i => [b0, b1, b2, b3, b4, b5].getD i 0, fun i hi => ?_⟩
  have hi6 : i = 0 ∨ i = 1 ∨ i = 2 ∨ i = 3 ∨ i = 4 ∨ i = 5 := by omega
  rcases hi6 with rfl | rfl | rfl | rfl | rfl | rfl
  · refine ⟨?_, ?_, ?_, ?_⟩
    · show zp_n _ a 0 = (b0 : Int)
      rw [zp_n_upo x0, zh_vr (x := 6) (t := 36) sv0 rfl hb0]
      rfl
    · show zk_up P a _ b0 = _
      rw [zk_up_ne nb0]
      exact qb0
    · exact zB_fr hfr (x := 6) (by decide) hb0
    · show zp_n _ b0 1000 = c1
      rw [zp_n_up nb0, zC_num hy0]
      exact zB_nmx (x := 4) sy0 rfl hc1
  · refine ⟨?_, ?_, ?_, ?_⟩
    · show zp_n _ a 1 = (b1 : Int)
      rw [zp_n_upo x1, zh_vr (x := 7) (t := 37) sv1 rfl hb1]
      rfl
    · show zk_up P a _ b1 = _
      rw [zk_up_ne nb1]
      exact qb1
    · exact zB_fr hfr (x := 7) (by decide) hb1
    · show zp_n _ b1 1000 = c1
      rw [zp_n_up nb1, zC_num hy1]
      exact zB_nmx (x := 4) sy1 rfl hc1
  · refine ⟨?_, ?_, ?_, ?_⟩
    · show zp_n _ a 2 = (b2 : Int)
      rw [zp_n_upo x2, zh_vr (x := 8) (t := 38) sv2 rfl hb2]
      rfl
    · show zk_up P a _ b2 = _
      rw [zk_up_ne nb2]
      exact qb2
    · exact zB_fr hfr (x := 8) (by decide) hb2
    · show zp_n _ b2 1000 = c1
      rw [zp_n_up nb2, zC_num hy2]
      exact zB_nmx (x := 4) sy2 rfl hc1
  · refine ⟨?_, ?_, ?_, ?_⟩
    · show zp_n _ a 3 = (b3 : Int)
      rw [zp_n_upo x3, zh_vr (x := 9) (t := 39) sv3 rfl hb3]
      rfl
    · show zk_up P a _ b3 = _
      rw [zk_up_ne nb3]
      exact qb3
    · exact zB_fr hfr (x := 9) (by decide) hb3
    · show zp_n _ b3 1000 = c1
      rw [zp_n_up nb3, zC_num hy3]
      exact zB_nmx (x := 4) sy3 rfl hc1
  · refine ⟨?_, ?_, ?_, ?_⟩
    · show zp_n _ a 4 = (b4 : Int)
      rw [zp_n_upo x4, zh_vr (x := 10) (t := 40) sv4 rfl hb4]
      rfl
    · show zk_up P a _ b4 = _
      rw [zk_up_ne nb4]
      exact qb4
    · exact zB_fr hfr (x := 10) (by decide) hb4
    · show zp_n _ b4 1000 = c1
      rw [zp_n_up nb4, zC_num hy4]
      exact zB_nmx (x := 4) sy4 rfl hc1
  · refine ⟨?_, ?_, ?_, ?_⟩
    · show zp_n _ a 5 = (b5 : Int)
      rw [zp_n_upo x5, zh_vr (x := 11) (t := 41) sv5 rfl hb5]
      rfl
    · show zk_up P a _ b5 = _
      rw [zk_up_ne nb5]
      exact qb5
    · exact zB_fr hfr (x := 11) (by decide) hb5
    · show zp_n _ b5 1000 = s1
      rw [zp_n_up nb5, zC_num hy5]
      exact zB_nmx (x := 5) sy5 rfl hs1
section ZK0B
variable {p : Program} {l : Launch} {e : Env} {R : Room} {s : State} {m : MethodId} {args : Array Value} {below : List Frame} {meth : Method} {c : Code} {Q : State → Prop}
variable {cc : ByteArray} {w : zk_W} {u : zk_M} {Ts : List Jvm.Cond} {own : String}
variable {xs : List Nat} {pc : Nat} {L : List (Nat × Nat × Int)} {S : List (Nat × Int)} {P : Nat → Option Nat} {G : Nat → Nat → Int} {cu su : Nat}
theorem zk_lenN {F : Nat → va_E} {a n : Nat} {cA : ClassId} {f : Nat → Int32} (o1 : F a = .inl (cA, n, .inl f)) (hn : n ≤ 1000000) : zp_n F a 1000 = (n : Int) := by
  unfold zp_n
  rw [o1]
  show (Int32.ofNat n).toInt = (n : Int)
  rw [zk_n32 (by omega), zk_i32 ⟨by omega, by omega⟩]
theorem zpn_alenN (hx : p.tables.exec = Jvm.exec) (hb : c.code = cc) (hw : w.1 = zt_types) {a t N : Nat} (hdg : decode cc pc = .ok (.arraylength, 1)) (hp : P a = some t) (hT : ∃ T, zt_types[t]? = some T ∧ T.1 = 1 ∧ T.2.2.1 ≤ 1000000) (hN : G a 1000 = (N : Int)) (kk : zp_Jn cu su p l e R s m args below meth c Q w u xs (pc + 1) L ((0, (N : Int)) :: S) P G) : zp_Jn cu su p l e R s m args below meth c Q w u xs pc L ((2, (a : Int)) :: S) P G := by
  obtain ⟨T, h1, h2, h3⟩ := hT
  intro F H locs ls hF hI hL hkL hkS
  rw [← hw] at h1
  obtain ⟨cA, n, f, o1, o2, o3, o4, o5, o6, o7⟩ := zp_iarr hI.1 hp h1 (Or.inl h2)
  have hn : (n : Int) = (N : Int) := by
    rw [← hN, ← hF]
    exact (zk_lenN o1 (by omega)).symm
  have hn : n = N := by omega
  subst hn
  show W p l e R s m args below meth c H locs cu su Q (F0 m pc ls (zk_mk 2 (a : Int) :: S.map (fun q => zk_mk q.1 q.2)))
  rw [zp_ref]
  have hr : zk_rg 0 (n : Int) := ⟨by omega, by omega⟩
  exact zw_alen hx hb o6 (by rw [h2] at o4; exact o4) hdg (kk F H locs ls hF hI hL hkL (List.forall_mem_cons.mpr ⟨zp_k0 hr, (zp_tl hkS).2⟩))
/-- a write into what is new -/
theorem zp_wrF {F : Nat → va_E} {H H1 : Heap} {locs : List Loc} (hI : zp_I w s u xs P F H locs) {a t : Nat} {T : zk_T} {e : va_E} (hp : P a = some t) (hT : w.1[t]? = some T) (he : zk_el w s P T e) (hat : va_at w.2.2.1 w.2.1 (a, e) H1) (hz : H1.size = H.size) (hk : ∀ q, q ≠ a → H1[q]? = H[q]?) {Lc : List Loc} (hLc : ∀ q ∈ Lc, q.base = a) {pk : Nat → Prop} (hs : zk_same pk (F a) e) (hm : u.1 a = none) (hrl : a ∈ xs ∨ zk_rl P (zk_up F a e) t e) : zp_I w s u xs P (zk_up F a e) H1 (locs ++ Lc) := by
  obtain ⟨h5, h7, h8, h9, h13⟩ := hI
  have hb := (h5.el hp hT).2.2
  refine ⟨h5.put hp hT he hat hk (fun cA x h => hs.len h) hrl, h7, zk_ef_put h8 h7 hp hs (Or.inl hm), ⟨by rw [hz]; exact h9.1, fun q g1 g2 => ?_, fun q hq => ?_⟩, fun q g1 g2 => ⟨(h13 q g1 g2).1, (hk q (fun e1 => by rw [e1] at g1 g2; rw [(h13 a g1 g2).1] at hp; cases hp)).trans (h13 q g1 g2).2⟩⟩
  · rw [hk q (fun e1 => g2 (by rw [e1]; exact hb))]
    exact h9.2.1 q g1 g2
  · rcases List.mem_append.mp hq with g | g
    · exact h9.2.2 q g
    · show w.2.2.2.1 ≤ q.base
      rw [hLc q g]
      exact hb
/-- System.arraycopy from the first place on, into what is new -/
theorem zpn_copyF (hx : p.tables.exec = Jvm.exec) (hb : c.code = cc) {E : zk_Ev} (hE : zk_ctx l R s m args meth c w u zt_TB own zt_TB zt_mn E) (hw : w.1 = zt_types) {rm : Nat × Nat × Nat × Nat} (hrm : zk_Kr (zk_ev E) = rm) {idx j x y a0 a t0 t n n1 : Nat} {z : Int} {T0 T : zk_T} (hdg : decode cc pc = .ok (.invokestatic idx, 3)) (hlk : E.2.1[j]? = some (8, idx, x, y, z)) (hT0 : zt_types[t0]? = some T0) (hT : zt_types[t]? = some T) (h10 : T0.1 = 1) (h1 : T.1 = 1) (hp0 : P a0 = some t0) (hp : P a = some t) (hnew : u.1 a = none) (hn0 : n ≤ T0.2.1) (hmx : T.2.2.1 ≤ 1000000) (hlen : G a 1000 = (n1 : Int)) (hn : n ≤ n1) (hfit : ∀ j, zk_fj T0 j = zk_fj T j) (hrm2 : 1 ≤ rm.1 ∧ 26 ≤ rm.2.1) (hrm3 : cu ≤ rm.2.2.1 ∧ su ≤ rm.2.2.2) (hcs : zp_cs S ≤ 8) (hx2 : t ≠ 59 ∧ t ≠ 60) (kk : zp_Jn cu su p l e R s m args below meth c Q w u xs (pc + 3) L S P (zp_cpo G a0 0 a 0 n)) : zp_Jn cu su p l e R s m args below meth c Q w u xs pc L ((0, (n : Int)) :: (0, 0) :: (2, (a : Int)) :: (0, 0) :: (2, (a0 : Int)) :: S) P G := by
  obtain ⟨⟨e1, e2, e3⟩, e4, e5, e6, e7, e8, e9, e10, e11, e12, e13, -⟩ := hE
  have e14 := e10 _ (List.mem_of_getElem? hlk)
  rw [hrm] at e13
  intro F H locs ls hF hI hL hkL hkS
  rw [← hw] at hT0 hT
  obtain ⟨cA0, n0, f, o1, o2, o3, o4, o5, o6, o7⟩ := zp_iarr hI.1 hp0 hT0 (Or.inl h10)
  obtain ⟨cA, n9, g, y1, y2, y3, y4, y5, y6, y7⟩ := zp_iarr hI.1 hp hT (Or.inl h1)
  have hn9 : n9 = n1 := by
    have h9 := zk_lenN y1 (by omega)
    rw [hF, hlen] at h9
    omega
  subst hn9
  have k4 := (zp_tl (zp_tl (zp_tl (zp_tl (zp_tl hkS).2).2).2).2).2
  have nz : ∀ {z : Int}, zk_rg 0 z → 0 ≤ z → ¬ Int32.ofInt z < 0 ∧ (Int32.ofInt z).toNatClampNeg = z.toNat := by
    intro z hz h0
    refine ⟨?_, ?_⟩
    · rw [← zk_z32, zk_lt32 hz ⟨by decide, by decide⟩]
      omega
    · show (Int32.ofInt z).toInt.toNat = _
      rw [zk_i32 hz]
  have q3 := nz (z := (n : Int)) (zp_r0 (by omega) (by omega)) (by omega)
  have qa := nz (z := ((0 : Nat) : Int)) (zp_r0 (by omega) (by omega)) (by omega)
  rw [Int.toNat_natCast] at q3 qa
  have hls : c.maxLocals = ls.size := by
    rw [e1]
    exact hL.1.symm
  have hcat : ((S.map (fun q => zk_mk q.1 q.2)).map fun v => v.category).sum ≤ 8 := by
    rw [List.map_map]
    have : (S.map ((fun v => v.category) ∘ fun q => zk_mk q.1 q.2)) = S.map (fun q => if q.1 = 1 then 2 else 1) := List.map_congr_left (fun q _ => zk_mk_cat)
    rw [this]
    exact hcs
  show W p l e R s m args below meth c H locs cu su Q (F0 m pc ls (.int (Int32.ofInt (n : Int)) :: .int (Int32.ofInt ((0 : Nat) : Int)) :: zk_mk 2 (a : Int) :: .int (Int32.ofInt ((0 : Nat) : Int)) :: zk_mk 2 (a0 : Int) :: S.map (fun q => zk_mk q.1 q.2)))
  rw [zp_ref, zp_ref]
  rw [h10] at o4
  rw [h1] at y4
  refine zw_copyi hx hb hls e6 e14.1 e14.2.1 e14.2.2.1 e14.2.2.2 o6 y6 o4 y4 qa.1 qa.1 q3.1 (by rw [qa.2, q3.2]; omega) (by rw [qa.2, q3.2]; omega) (by have := e13.1; omega) (by rw [zk_nfw]; have := e13.2.1; omega) hdg (fun H1 Lc z1 z2 z3 z4 => ?_)
  rw [qa.2, q3.2] at z1
  refine kk _ H1 _ ls ((zp_cpo_n o1 y1 (by omega) (by omega)).trans (by rw [hF])) (zp_wrF hI hp hT (pk := fun k => 2000 + 0 ≤ k ∧ k < 2000 + 0 + n) ?_ (show va_at _ _ (a, .inl (cA, n9, .inl _)) H1 from z1) z2 z3 z4 ?_ hnew (Or.inr ⟨fun e => absurd e hx2.1, fun e => absurd e hx2.2⟩)) hL hkL k4
  · unfold zk_el
    rw [h1]
    refine ⟨cA, n9, _, rfl, y2, y3, y4, fun i' hi' => ?_⟩
    show zk_fv P (zk_fj T i') (.int (va_cpy f g 0 0 n i'))
    unfold va_cpy
    by_cases hin : 0 ≤ i' ∧ i' < 0 + n
    · rw [if_pos hin, ← hfit i']
      have := o5 (0 + (i' - 0)) (by omega)
      rw [show 0 + (i' - 0) = i' by omega] at this ⊢
      exact this
    · rw [if_neg hin]
      exact y5 i' hi'
  · rw [y1]
    refine ⟨rfl, rfl, fun i' hi' hP => ?_⟩
    show some (Value.int (g i')) = some (.int (va_cpy f g 0 0 n i'))
    unfold va_cpy
    rw [if_neg (fun h => hP ⟨by omega, by omega⟩)]
/-- a field of a text that is new: what its fields are to each other is told -/
theorem zpn_putf9 (hx : p.tables.exec = Jvm.exec) (hb : c.code = cc) {E : zk_Ev} (hE : zk_ctx l R s m args meth c w u zt_TB own zt_TB zt_mn E) (hw : w.1 = zt_types) {idx k j x a : Nat} {lo hi n : Int} (hdg : decode cc pc = .ok (.putfield idx, 3)) (hlk : E.2.1[j]? = some (2, idx, 8, k, 0)) (hf : zp_fd 9 k = some (8, 0, x, lo, hi)) (hk1 : k = 6 ∨ k = 7) (hp : P a = some 9) (hnew : u.1 a = none) (hok : zk_ok P (0, x, lo, hi) n) (hle : k = 6 → ∀ i ∈ [0, 1, 4], ∃ b : Nat, G a i = (b : Int) ∧ n ≤ G b 1000) (kk : zp_Jn cu su p l e R s m args below meth c Q w u xs (pc + 3) L S P (zp_set G a k n)) : zp_Jn cu su p l e R s m args below meth c Q w u xs pc L ((0, n) :: (2, (a : Int)) :: S) P G := by
  obtain ⟨-, e4, e5, e6, e7, e8, e9, e10, -⟩ := hE
  obtain ⟨e3, C, T0, N0, fty, y4, y5, y6, y7, y8⟩ := e10 _ (List.mem_of_getElem? hlk)
  dsimp only at e3 y4 y5 y6 y7 y8
  intro F H locs ls hF hI hL hkL hkS
  obtain ⟨r1, fs, T, t1, t2, t3, t4, o1, o2, o3, v1⟩ := zp_rdf hI.1 hw hp hf (show (0 : Nat) ≤ 2 by decide)
  have hlen : k < fs.length := (List.getElem?_eq_some_iff.mp v1).1
  have hty : ∀ (C : String) (T : u_T) (N : Nat), w.2.1[8]? = some (C, T, N) → ∃ ty, parseFieldDescriptor (T k).2.2.1 = some ty ∧ narrow ty (zk_mk 0 n) = zk_mk 0 n ∧ fits ty (zk_mk 0 n) = true := by
    intro C' T' N' h
    cases y4.symm.trans h
    refine ⟨fty, y5, ?_⟩
    have y6 : zk_tyc fty = 0 := y6
    cases fty <;> simp [zk_tyc] at y6
    exact ⟨rfl, rfl⟩
  have hsame : zk_same (fun j => j = k) (F a) (.inr (8, fs.set k (zk_mk 0 n))) := by
    rw [o1]
    refine ⟨rfl, by simp, fun j hj => ?_⟩
    show fs[j]? = (fs.set k (zk_mk 0 n))[j]?
    rw [List.getElem?_set_ne (fun h => hj h.symm)]
  have hrl0 : zk_rl P F 9 (F a) ∨ a ∈ xs := by
    rcases hI.1 a 9 hp with h1 | ⟨h1, -⟩
    · exact Or.inl ((zk_wt1.some t1).mp h1).2.2.2
    · exact Or.inr h1
  show W p l e R s m args below meth c H locs cu su Q (F0 m pc ls (zk_mk 0 n :: zk_mk 2 (a : Int) :: S.map (fun q => zk_mk q.1 q.2)))
  rw [zp_ref]
  refine zw_putf hx hb e4 e5 e6 e7 e3 o3 (fun C' T' N' h => Or.inl ?_) hty hlen hdg (fun H1 j hat hz hk => ?_)
  · cases y4.symm.trans h
    rw [y7]
    exact decide_eq_false (by decide)
  · refine kk _ H1 _ ls ?_ (zp_wrF hI hp t1 ?_ hat hz hk (Lc := [⟨a, j⟩]) (fun q hq => by rw [List.mem_singleton.mp hq]) hsame hnew ?_) hL hkL (zp_tl (zp_tl hkS).2).2
    · funext b i
      by_cases hba : b = a
      · subst hba
        unfold zp_n zp_set
        rw [zk_up_self]
        show (match (fs.set k (zk_mk 0 n))[i]? with | some v => zp_num v | none => 0) = _
        by_cases hik : i = k
        · subst hik
          rw [List.getElem?_set_self hlen, if_pos ⟨rfl, rfl⟩]
          exact zp_num_mk hok (show (0 : Nat) ≤ 2 by decide)
        · rw [List.getElem?_set_ne (fun h => hik h.symm), if_neg (fun h => hik h.2), ← hF]
          unfold zp_n
          rw [o1]
          rfl
      · rw [zp_set_ne (Or.inl hba), ← hF]
        unfold zp_n
        rw [zk_up_ne hba]
    · unfold zk_el
      rw [t2]
      refine ⟨fs.set k (zk_mk 0 n), by rw [t3], zk_all2_setR o2 (fun g hg => ?_)⟩
      cases t4.symm.trans hg
      exact ⟨n, hok, rfl⟩
    · rcases hrl0 with hrl0 | hrl0
      · right
        rw [o1] at hrl0
        have hst : ∀ {v : Value} {n : Int}, zk_sz P F v n → zk_sz P (zk_up F a (.inr (8, fs.set k (zk_mk 0 n)))) v n := fun h => zk_sz.step (fun b t z => ⟨t, z⟩) (fun b t cA x hb9 hx9 => by
          by_cases e : b = a
          · rw [e, o1] at hx9
            cases hx9
          · exact ⟨cA, x, (zk_up_ne e).trans hx9, rfl⟩) h
        intro r hr hrt
        obtain ⟨v1, v2, n1, n2, g1, g2, g3, g4, g5⟩ := hrl0 r hr hrt
        have hst2 : ∀ {v : Value} {n2 : Int}, zk_sz P F v n2 → zk_sz P (zk_up F a (.inr (8, fs.set k (zk_mk 0 n)))) v n2 := fun h => zk_sz.step (fun b t z => ⟨t, z⟩) (fun b t cA x hb9 hx9 => by
          by_cases e : b = a
          · rw [e, o1] at hx9
            cases hx9
          · exact ⟨cA, x, (zk_up_ne e).trans hx9, rfl⟩) h
        have hne2 : r.2.2 ≠ k := by
          have h8 : ∀ r ∈ zk_rel, r.2.2 < 5 := by decide
          have := h8 r hr
          rcases hk1 with rfl | rfl <;> omega
        by_cases hrk : r.2.1 = k
        · have h6 : k = 6 := by
            have h8 : ∀ r ∈ zk_rel, r.2.1 ≠ 7 := by decide
            rcases hk1 with h | h
            · exact h
            · exact absurd (hrk.trans h) (h8 r hr)
          have h8 : ∀ r ∈ zk_rel, r.2.1 = 6 → r.2.2 ∈ [0, 1, 4] ∧ zp_fd 9 r.2.2 = some (8, 2, 36 + r.2.2, 0, 0) := by decide
          obtain ⟨h9, h10⟩ := h8 r hr (hrk.trans h6)
          obtain ⟨b, b1, b2⟩ := hle h6 _ h9
          have hv2 := (zp_rdf hI.1 hw hp h10 (show (2 : Nat) ≤ 2 by decide)).2
          obtain ⟨fs2, T2, -, -, -, -, q1, -, -, q2⟩ := hv2
          rw [o1] at q1
          obtain rfl : fs = fs2 := by cases q1; rfl
          rw [hF, b1] at q2
          have q3 : v2 = .ref b := by
            rw [g2] at q2
            have := Option.some.inj q2
            rw [this]
            exact zp_ref b
          subst q3
          refine ⟨zk_mk 0 n, .ref b, n, n2, by show (fs.set k (zk_mk 0 n))[r.2.1]? = _; rw [hrk, List.getElem?_set_self hlen], by show (fs.set k (zk_mk 0 n))[r.2.2]? = _; rw [List.getElem?_set_ne (fun h => hne2 h.symm)]; exact g2, ?_, hst2 g4, ?_⟩
          · show (Int32.ofInt n).toInt = n
            exact zk_i32 (zp_ok_k hok (show (0 : Nat) ≤ 2 by decide)).2.1
          · obtain ⟨-, cA, x9, q4, q5, q6⟩ := g4
            have q7 : G b 1000 = n2 := by
              rw [← hF, ← q5]
              unfold zp_n
              rw [q4]
              show (Int32.ofNat x9.1).toInt = _
              rw [zk_n32 (by omega), zk_i32 ⟨by omega, by omega⟩]
            omega
        · exact ⟨v1, v2, n1, n2, by show (fs.set k (zk_mk 0 n))[r.2.1]? = _; rw [List.getElem?_set_ne (fun h => hrk h.symm)]; exact g1, by show (fs.set k (zk_mk 0 n))[r.2.2]? = _; rw [List.getElem?_set_ne (fun h => hne2 h.symm)]; exact g2, hst2 g3, hst2 g4, g5⟩
      · exact Or.inl hrl0
theorem zpn_aret (hx : p.tables.exec = Jvm.exec) (hb : c.code = cc) {E : zk_Ev} (hE : zk_ctx l R s m args meth c w u zt_TB own zt_TB zt_mn E) {ψ : (Nat → Option Nat) → (Nat → Nat → Int) → List Int → (Nat → Option Nat) → (Nat → Nat → Int) → Int → Prop} (hQ : Q = MQ below (fun _ st o t => zk_postX w (zk_ev E) (zp_B ψ) u.1 u.2.1 u.2.2.1 st t o) args s (zk_Kr (zk_ev E)).2.2.1 (zk_Kr (zk_ev E)).2.2.2 (fun q => w.2.2.2.1 ≤ q)) (h5 : u.2.2.2.2.1 = []) {C : String} (hret : (zk_ev E).2.2.2.1 = some (.object C)) (hk2 : zk_Kk (zk_ev E) ≠ 2) (hdg : decode cc pc = .ok (.areturn, 1)) {j x : Nat} {lo hi n : Int} (hal : (zk_Ka (zk_ev E))[j]? = some (some (2, x, lo, hi), [])) (hn : zk_ok P (2, x, lo, hi) n) (hcu : cu ≤ (zk_Kr (zk_ev E)).2.2.1) (hsu : su ≤ (zk_Kr (zk_ev E)).2.2.2) (hB : ψ u.1 (zp_n u.2.1) u.2.2.1 P G n) : zp_Jn cu su p l e R s m args below meth c Q w u [] pc L [(2, n)] P G := by
  obtain ⟨⟨e1, e2, e3⟩, e4, e5, e6, e7, e8, e9, e10, e11, e12, e13, e14, e15, e16, e17, e18, e19, y1, y2, y3⟩ := hE
  intro F H locs ls hF hI hL hkL hkS
  have hG := zp_toG hI hL h5
  have hB2 : zp_B ψ u.1 u.2.1 u.2.2.1 P F n := by unfold zp_B; rw [hF]; exact hB
  refine W.widen hcu hsu ?_
  rw [hQ]
  have fin : ∀ t : State, t.heap = H → s.WarmedH t.vm → zk_postX w (zk_ev E) (zp_B ψ) u.1 u.2.1 u.2.2.1 s t (.returned (some (zk_mk 2 n))) := fun t ht hW => zk_fin (al := (some (2, x, lo, hi), [])) (rn := n) (X0 := fun _ => True) e8 e7 e3 e19 hG (by unfold zk_rct; rw [if_neg hk2]) (List.mem_of_getElem? hal) (fun f h => by cases h; exact ⟨hn, Nat.le_refl _⟩) (fun q h => absurd h List.not_mem_nil) (Or.inl ⟨hk2, hB2⟩) t ht hW
  have hr := e18.2.1
  rw [hret] at hr
  have hv : zk_mk 2 n = .null ∨ ∃ a, zk_mk 2 n = .ref a := by
    rw [zk_mk_ref (Nat.le_refl _)]
    split
    · exact Or.inl rfl
    · exact Or.inr ⟨_, rfl⟩
  exact W.aret hx hb hr (Or.inl ⟨_, rfl⟩) hv (fun t ht hW => fin t ht hW) hI.2.2.2.1.2.2 hdg e18.1
/-- from what the checker knows to memory by numbers -/
theorem zh_toP {κ : zk_C} {N : List Int} {F : Nat → va_E} {H : Heap} {locs : List Loc} {ls : Array Slot} {sv : List Value} (hG : zk_G w s u κ N P F H locs ls) (hL : lv_has ls u.2.2.2.2.2.1 (L.map (fun q => (q.1, zk_mk q.2.1 q.2.2)))) (hkL : ∀ q ∈ L, zp_k q.2) (hkS : ∀ q ∈ S, zp_k q) (hsv : sv = S.map (fun q => zk_mk q.1 q.2)) (kk : zp_Jn cu su p l e R s m args below meth c Q w u [] pc L S P (zp_n F)) : W p l e R s m args below meth c H locs cu su Q (F0 m pc ls sv) := by
  obtain ⟨h1, h2, h3, h4, h5, h6, h7, h8, h9, h10, h11, h12, h13⟩ := hG
  rw [hsv]
  exact kk F H locs ls rfl ⟨zp_wt.of h5, h7, h8, h9, h13⟩ hL hkL hkS
end ZK0B
noncomputable def zR_cp : zk_An := (12, ([(0, 0, 0, 0), (1, 0, 0, 0), (2, 0, (-1), (-1)), (2, 8, 0, 0), (0, 0, 0, 12), (0, 0, 0, 872), (3, 0, 0, 0)], [], [(3, 7, (5, 0)), (3, 6, (4, 0))], [(6, 8, [(2, 0), (2, 0), (2, 0), (2, 0), (2, 0), (2, 0), (0, 0), (0, 0)])], [(0, (3, 0))], [(0, 3)], [6]), [(5, 0), (4, 0), (6, 0), (6, 0)], 1, 8, ((-1), []))
noncomputable def zO_cp : zk_O := (15, ([(0, 0, 0, 0), (1, 0, 0, 0), (2, 0, (-1), (-1)), (2, 8, 0, 0), (0, 0, 0, 12), (0, 0, 0, 872), (2, 9, 0, 0)], [], [(3, 7, (5, 0)), (3, 6, (4, 0))], [], [(0, (3, 0))], [(0, 3)], [6]), [(6, 0)], 7, 940)
noncomputable def zK_cpx : zk_K := (zt_mn 78, prog_10_method_2_code, 3, (Option.some (Jvm.ClassFile.FieldType.object "WoundTown$Text")), 1, 8, [(2, 8, 0, 0)], [(some (2, 9, 0, 0), [])], [], (2, 83, 7, 940))
theorem zO_cpe : zk_s7 zt_types zt_dv [zK_ntx] [11] [(2, 48, 11)] (zk_Ke zK_cpx) (zk_Kr zK_cpx) 0 (.invokespecial 48) 3 12 zR_cp.2.1 zR_cp.2.2.1 1 8 = some [zO_cp] := zh_oe (by decide +kernel)
/-- the text n is what the text a was, all of it new -/
noncomputable def zCp (P P' : Nat → Option Nat) (G G' : Nat → Nat → Int) (a n : Nat) (b : Nat → Nat) : Prop := P n = none ∧ P' n = some 9 ∧ (∀ i : Nat, i < 6 → G' n i = (b i : Int) ∧ P' (b i) = some (36 + i) ∧ P (b i) = none) ∧ (G' n 6 = G a 6 ∧ G' n 7 = G a 7) ∧ (∀ i : Nat, i < 6 → G' (b i) 1000 = if i = 5 then G a 7 else G a 6) ∧ (∀ i j : Nat, i < 5 → (j : Int) < G a 6 → G' (b i) (2000 + j) = G (G a i).toNat (2000 + j)) ∧ ∀ j : Nat, (j : Int) < G a 7 → G' (b 5) (2000 + j) = G (G a 5).toNat (2000 + j)
noncomputable def zψ_cpx : (Nat → Option Nat) → (Nat → Nat → Int) → List Int → (Nat → Option Nat) → (Nat → Nat → Int) → Int → Prop := fun P G ps P' G' rn => ∃ (n : Nat) (b : Nat → Nat), rn = (n : Int) ∧ zCp P P' G G' (zp_0 ps) n b
theorem zz_cpn {G : Nat → Nat → Int} {a0 i0 a i1 n b k : Nat} (h : b ≠ a) : zp_cpo G a0 i0 a i1 n b k = G b k := if_neg (fun z => h z.1)
theorem zz_cp0 {G : Nat → Nat → Int} {a0 i0 a i1 n b k : Nat} (h : k < 2000) : zp_cpo G a0 i0 a i1 n b k = G b k := if_neg (fun z => by omega)
theorem zz_cpe {G : Nat → Nat → Int} {a0 a n j : Nat} (h : j < n) : zp_cpo G a0 0 a 0 n a (2000 + j) = G a0 (2000 + j) := by
  unfold zp_cpo
  rw [if_pos ⟨rfl, by omega, by omega⟩]
  exact congrArg (G a0) (by omega)
set_option maxHeartbeats 4000000 in
theorem zX_cpx {l : Launch} {w : zk_W} (hW : zh_W w) : zk_metX l w zt_dv zt_TB zK_cpx (zp_A zp_tA) (zp_B zψ_cpx) ∧ zk_cok w zt_TB zK_cpx := by
  show zk_metX l w zt_dv zt_TB zK_cpx zk_tA (zp_B zψ_cpx) ∧ zk_cok w zt_TB zK_cpx
  have hw := hW.1
  have hCL := zq_note_ok zd_X8_copy []
  refine zh_methK hW (lk := zp_lkTx) (KS := [zK_ntx]) (km := [11]) (lc := [(2, 48, 11)]) (K := zK_cpx) (pl := 878) (by decide +kernel) (by decide +kernel) (fun K h => by rw [List.mem_singleton.mp h]; exact zq_ntx hW) (fun p e R s m args below meth c Q P0 G0 ps X hx hb hps hE hQ H locs ls hG => ?_)
  obtain ⟨p0, rfl, k0⟩ := zp_ps1 hps
  obtain ⟨a, rfl, hp⟩ := zp_this k0
  obtain ⟨r6, fs, T6, -, -, -, -, o6, -, -, v6⟩ := zp_rdf (xs := []) (zp_wt.of hG.2.2.2.2.1) hw hp (show zp_fd 8 6 = some (8, 0, 0, 0, 12) from rfl) (show (0 : Nat) ≤ 2 by decide)
  obtain ⟨r7, fs7, T7, -, -, -, -, o7, -, -, v7⟩ := zp_rdf (xs := []) (zp_wt.of hG.2.2.2.2.1) hw hp (show zp_fd 8 7 = some (8, 0, 0, 0, 872) from rfl) (show (0 : Nat) ≤ 2 by decide)
  obtain rfl : fs = fs7 := by rw [o6] at o7; cases o7; rfl
  have hO : ∀ i t9, zp_fd 8 i = some (8, 2, t9, 0, 0) → zk_ok P0 (2, t9, 0, 0) (zp_n G0 a i) := fun i t9 h => (zp_rdf (xs := []) (zp_wt.of hG.2.2.2.2.1) hw hp h (show (2 : Nat) ≤ 2 by decide)).1
  obtain ⟨cl, hcl⟩ := zp_nat (zp_int r6).1
  obtain ⟨sz, hsz⟩ := zp_nat (zp_int r7).1
  have b6 := zp_int r6
  have b7 := zp_int r7
  rw [hcl] at r6 b6 v6
  rw [hsz] at r7 b7 v7
  have hG2 := (hG.push r6).push r7
  have hf6 : zk_fa1 [(0, 0, 0, 0), (1, 0, 0, 0), (2, 0, (-1), (-1)), (2, 8, 0, 0), (0, 0, 0, 12), (0, 0, 0, 872)] ([0, 0, -1, (a : Int)] ++ [(cl : Int)] ++ [(sz : Int)]) P0 G0 3 6 (4, 0) := ⟨(a : Int), 8, _, rfl, by omega, by rw [Int.toNat_natCast]; exact hp, by rw [Int.toNat_natCast, o6]; exact v6, ⟨(0, 0, 0, 12), (cl : Int), rfl, rfl, by rw [Int.add_zero]; exact (zp_ok_k r6 (by decide)).2.1, by rw [Int.add_zero]⟩⟩
  have hf7 : zk_fa1 [(0, 0, 0, 0), (1, 0, 0, 0), (2, 0, (-1), (-1)), (2, 8, 0, 0), (0, 0, 0, 12), (0, 0, 0, 872)] ([0, 0, -1, (a : Int)] ++ [(cl : Int)] ++ [(sz : Int)]) P0 G0 3 7 (5, 0) := ⟨(a : Int), 8, _, rfl, by omega, by rw [Int.toNat_natCast]; exact hp, by rw [Int.toNat_natCast, o6]; exact v7, ⟨(0, 0, 0, 872), (sz : Int), rfl, rfl, by rw [Int.add_zero]; exact (zp_ok_k r7 (by decide)).2.1, by rw [Int.add_zero]⟩⟩
  have hG3 : zk_G w s (P0, G0, [(a : Int)], zk_Ke zK_cpx, [], zK_cpx.2.2.1, X) ([(0, 0, 0, 0), (1, 0, 0, 0), (2, 0, (-1), (-1)), (2, 8, 0, 0), (0, 0, 0, 12), (0, 0, 0, 872)], [], [(3, 7, (5, 0)), (3, 6, (4, 0))], [], [(0, (3, 0))], [(0, 3)], []) ([0, 0, -1, (a : Int)] ++ [(cl : Int)] ++ [(sz : Int)]) P0 G0 H locs ls := zh_addf (q := (3, 7, (5, 0))) (zh_addf (q := (3, 6, (4, 0))) hG2 hf6) hf7
  refine zh_segC (K := zK_cpx) hx hb hE hCL (pc := 0) (st := []) (cu := 0) (su := 0) (sv := []) (AN := [zR_cp]) (fuel := 120) (by decide +kernel) hG3 trivial (fun A hA N P F H locs ls sv hG hS => ?_)
  obtain rfl := List.mem_singleton.mp hA
  refine zh_callC (K := zK_cpx) hx hb hE (zX_ntx hW) (mi := 11) rfl (i := .invokespecial 48) (len := 3) (pc := 12) zO_cpe (zd_X8_copy (12, .invokespecial 48, 3, 0, []) (List.mem_of_getElem? (i := 6) rfl)) hG hS (fun y hy N2 P2 F2 H2 locs2 ls2 sv2 ps2 rn2 hp2 hB2 hN2 hG2 hS2 => ?_)
  obtain rfl := List.mem_singleton.mp hy
  obtain ⟨n, hn, qn⟩ := zh_r (i := 6) (t := 9) hG2.1 rfl
  have hgt : ∀ (j : Nat) (v : Int), j < 7 → N2[j]? = some v → N[j]? = some v := fun j v hj h => by
    rcases hN2 with e | e
    · rw [e] at h
      exact h
    · rw [e, List.getElem?_append_left (by have := zk_all2_len hG.1; have e2 : zR_cp.2.1.1.length = 7 := rfl; omega)] at h
      exact h
  have hpa1 : N[3]? = some (a : Int) := zh_pa (j := 0) hG.2.2.2.2.2.2.2.2.2.1 List.mem_cons_self rfl
  have hef : zk_ef [] [(a : Int)] P0 G0 F := hG.2.2.2.2.2.2.2.1
  have hext : ∀ b t, P0 b = some t → P b = some t := hG.2.2.2.2.2.2.1
  have hF0 : ∀ b t k, P0 b = some t → zp_n F b k = zp_n G0 b k := fun b t k hb9 => zp_ef_fr hef b t k hb9 (fun ⟨q, q1, _⟩ => absurd q1 List.not_mem_nil)
  have hpc := hext _ _ hp
  have hc4 : N[4]? = some (cl : Int) := by
    obtain ⟨v, hv, sv⟩ := zh_rdf hG.2.2.1 (x := 3) (k := 6) (q := (4, 0)) (List.mem_of_getElem? (i := 1) rfl) hpa1
    obtain ⟨w9, hw9, -⟩ := zk_all2_get hG.1 (i := 4) (a := (0, 0, 0, 12)) rfl
    have e9 := zB_nmx (x := 4) sv rfl hw9
    rw [hw9, ← e9, ← zC_num hv, hF0 _ _ _ hp, hcl]
  have hc5 : N[5]? = some (sz : Int) := by
    obtain ⟨v, hv, sv⟩ := zh_rdf hG.2.2.1 (x := 3) (k := 7) (q := (5, 0)) (List.mem_of_getElem? (i := 0) rfl) hpa1
    obtain ⟨w9, hw9, -⟩ := zk_all2_get hG.1 (i := 5) (a := (0, 0, 0, 872)) rfl
    have e9 := zB_nmx (x := 5) sv rfl hw9
    rw [hw9, ← e9, ← zC_num hv, hF0 _ _ _ hp, hsz]
  have hps2 : ps2 = [(n : Int), (cl : Int), (sz : Int)] := by
    have hp2 : zk_all2 (fun (q : zk_S) (n : Int) => ∃ k, N[q.1]? = some k ∧ n = k + q.2) [((6, 0) : zk_S), (4, 0), (5, 0)] ps2 := hp2
    obtain ⟨y1, y2, y3, rfl, ⟨k1, g1, g2⟩, ⟨k2, g3, g4⟩, k3, g5, g6⟩ := zp_ps3 hp2
    cases (hgt 6 _ (by decide) hn).symm.trans g1
    cases hc4.symm.trans g3
    cases hc5.symm.trans g5
    rw [g2, g4, g6]
    simp
  obtain ⟨hB1, hB3⟩ := hB2
  obtain ⟨b, hb6⟩ := hB3 n _ _ hps2
  have hnP : P0 n = none := by
    cases h9 : P0 n with
    | none => rfl
    | some t9 =>
      exfalso
      have h8 := hext _ _ h9
      obtain ⟨n9, fs9, g1, -, -, g4, -⟩ := hG.2.2.2.1
      cases (hgt 6 _ (by decide) hn).symm.trans g1
      rw [g4] at h8
      cases h8
  have hbP : ∀ i : Nat, i < 6 → P0 (b i) = none := fun i hi => by
    cases h9 : P0 (b i) with
    | none => rfl
    | some t9 =>
      have h8 := hext _ _ h9
      rw [(hb6 i hi).2.2.1] at h8
      cases h8
  have hF2 : ∀ q t k, P0 q = some t → zp_n F2 q k = zp_n G0 q k := fun q t k h => (hB1 q t k (hext _ _ h)).trans (hF0 q t k h)
  have hext2 : ∀ b t, P0 b = some t → P2 b = some t := hG2.2.2.2.2.2.2.1
  obtain ⟨lv, hlv, hlv2⟩ := hG2.2.2.2.2.2.1
  have hlv3 : zk_all2 (zk_lr zO_cp.2.1.1 N2) [(0, ((3, 0) : zk_S))] lv := hlv2
  have hN3 : N2[3]? = some (a : Int) := zh_pa (j := 0) hG2.2.2.2.2.2.2.2.2.2.1 List.mem_cons_self rfl
  have hlvE : lv = ([((0, 2, (a : Int)) : Nat × Nat × Int)] : List (Nat × Nat × Int)).map (fun q => (q.1, zk_mk q.2.1 q.2.2)) := by
    match lv, hlv3 with
    | [(i9, v9)], h => 
      obtain ⟨⟨g1, g2⟩, -⟩ := h
      have g1 : 0 = i9 := g1
      subst g1
      have g3 : v9 = .ref a := zh_vr (x := 3) (t := 8) g2 rfl hN3
      rw [g3]
      show [(0, Value.ref a)] = [(0, zk_mk 2 (a : Int))]
      rw [zp_ref]
  rw [hlvE] at hlv
  have hsv2 : sv2 = ([((2, (n : Int)) : Nat × Int)] : List (Nat × Int)).map (fun q => zk_mk q.1 q.2) := by
    have hS3 : zk_all2 (zk_sv zO_cp.2.1.1 N2) [((6, 0) : zk_S)] sv2 := hS2
    match sv2, hS3 with
    | [v9], h => rw [zh_vr (x := 6) (t := 9) h.1 rfl hn, ← zp_ref n]; rfl
  have hzn : zp_k (2, (n : Int)) := zp_ok_k (zp_o2 qn) (by decide)
  have hza : zp_k (2, (a : Int)) := zp_ok_k (zp_o2 (hext2 _ _ hp)) (by decide)
  refine zh_toP (L := [(0, 2, (a : Int))]) (S := [(2, (n : Int))]) (pc := 15) hG2 hlv (fun q h => by rw [List.mem_singleton.mp h]; exact hza) (fun q h => by rw [List.mem_singleton.mp h]; exact hzn) hsv2 ?_
  have hE2 := hE [] (zk_Ka zK_cpx)
  have hrm : zk_Kr (zk_ev (zt_types, zp_lkTx, zt_dv, [zK_ntx], [11], [(2, 48, 11)], zK_cpx.1, zK_cpx.2.1, zK_cpx.2.2.1, zK_cpx.2.2.2.1, zk_Kk zK_cpx, zk_Kc zK_cpx, zk_Kp zK_cpx, zk_Ka zK_cpx, zk_Ke zK_cpx, zk_Kr zK_cpx)) = zk_Kr zK_cpx := rfl
  have hpa2 := hext2 _ _ hp
  obtain ⟨rs0, -⟩ := zp_rdf (xs := []) (zp_wt.of hG2.2.2.2.2.1) hw hpa2 (show zp_fd 8 0 = some (8, 2, 30, 0, 0) from rfl) (show (2 : Nat) ≤ 2 by decide)
  obtain ⟨s0, es0, qs0⟩ := zp_this rs0
  have et0 : zp_n G0 a 0 = (s0 : Int) := (hF2 a 8 0 hp).symm.trans es0
  obtain ⟨hb0, qb0, -, ln0⟩ := hb6 0 (by decide)
  obtain ⟨rs1, -⟩ := zp_rdf (xs := []) (zp_wt.of hG2.2.2.2.2.1) hw hpa2 (show zp_fd 8 1 = some (8, 2, 31, 0, 0) from rfl) (show (2 : Nat) ≤ 2 by decide)
  obtain ⟨s1, es1, qs1⟩ := zp_this rs1
  have et1 : zp_n G0 a 1 = (s1 : Int) := (hF2 a 8 1 hp).symm.trans es1
  obtain ⟨hb1, qb1, -, ln1⟩ := hb6 1 (by decide)
  obtain ⟨rs2, -⟩ := zp_rdf (xs := []) (zp_wt.of hG2.2.2.2.2.1) hw hpa2 (show zp_fd 8 2 = some (8, 2, 32, 0, 0) from rfl) (show (2 : Nat) ≤ 2 by decide)
  obtain ⟨s2, es2, qs2⟩ := zp_this rs2
  have et2 : zp_n G0 a 2 = (s2 : Int) := (hF2 a 8 2 hp).symm.trans es2
  obtain ⟨hb2, qb2, -, ln2⟩ := hb6 2 (by decide)
  obtain ⟨rs3, -⟩ := zp_rdf (xs := []) (zp_wt.of hG2.2.2.2.2.1) hw hpa2 (show zp_fd 8 3 = some (8, 2, 33, 0, 0) from rfl) (show (2 : Nat) ≤ 2 by decide)
  obtain ⟨s3, es3, qs3⟩ := zp_this rs3
  have et3 : zp_n G0 a 3 = (s3 : Int) := (hF2 a 8 3 hp).symm.trans es3
  obtain ⟨hb3, qb3, -, ln3⟩ := hb6 3 (by decide)
  obtain ⟨rs4, -⟩ := zp_rdf (xs := []) (zp_wt.of hG2.2.2.2.2.1) hw hpa2 (show zp_fd 8 4 = some (8, 2, 34, 0, 0) from rfl) (show (2 : Nat) ≤ 2 by decide)
  obtain ⟨s4, es4, qs4⟩ := zp_this rs4
  have et4 : zp_n G0 a 4 = (s4 : Int) := (hF2 a 8 4 hp).symm.trans es4
  obtain ⟨hb4, qb4, -, ln4⟩ := hb6 4 (by decide)
  obtain ⟨rs5, -⟩ := zp_rdf (xs := []) (zp_wt.of hG2.2.2.2.2.1) hw hpa2 (show zp_fd 8 5 = some (8, 2, 35, 0, 0) from rfl) (show (2 : Nat) ≤ 2 by decide)
  obtain ⟨s5, es5, qs5⟩ := zp_this rs5
  have et5 : zp_n G0 a 5 = (s5 : Int) := (hF2 a 8 5 hp).symm.trans es5
  obtain ⟨hb5, qb5, -, ln5⟩ := hb6 5 (by decide)
  have ln5 : zp_n F2 (b 5) 1000 = (sz : Int) := ln5
  have ln0 : zp_n F2 (b 0) 1000 = (cl : Int) := ln0
  have ln1 : zp_n F2 (b 1) 1000 = (cl : Int) := ln1
  have ln2 : zp_n F2 (b 2) 1000 = (cl : Int) := ln2
  have ln3 : zp_n F2 (b 3) 1000 = (cl : Int) := ln3
  have ln4 : zp_n F2 (b 4) 1000 = (cl : Int) := ln4
  have hsP : ∀ i : Nat, i < 6 → ∃ x : Nat, zp_n F2 a i = (x : Int) ∧ P2 x = some (30 + i) := fun i hi => by
    have hi6 : i = 0 ∨ i = 1 ∨ i = 2 ∨ i = 3 ∨ i = 4 ∨ i = 5 := by omega
    rcases hi6 with rfl | rfl | rfl | rfl | rfl | rfl
    · exact ⟨s0, es0, qs0⟩
    · exact ⟨s1, es1, qs1⟩
    · exact ⟨s2, es2, qs2⟩
    · exact ⟨s3, es3, qs3⟩
    · exact ⟨s4, es4, qs4⟩
    · exact ⟨s5, es5, qs5⟩
  have hsO : ∀ i : Nat, i < 6 → ∀ x : Nat, zp_n G0 a i = (x : Int) → P0 x = some (30 + i) := fun i hi x hx9 => by
    have hi6 : i = 0 ∨ i = 1 ∨ i = 2 ∨ i = 3 ∨ i = 4 ∨ i = 5 := by omega
    rcases hi6 with rfl | rfl | rfl | rfl | rfl | rfl
    · have h9 := (hO 0 30 rfl)
      obtain ⟨y, ey, qy⟩ := zp_this h9
      rw [hx9] at ey
      obtain rfl : x = y := by omega
      exact qy
    · have h9 := (hO 1 31 rfl)
      obtain ⟨y, ey, qy⟩ := zp_this h9
      rw [hx9] at ey
      obtain rfl : x = y := by omega
      exact qy
    · have h9 := (hO 2 32 rfl)
      obtain ⟨y, ey, qy⟩ := zp_this h9
      rw [hx9] at ey
      obtain rfl : x = y := by omega
      exact qy
    · have h9 := (hO 3 33 rfl)
      obtain ⟨y, ey, qy⟩ := zp_this h9
      rw [hx9] at ey
      obtain rfl : x = y := by omega
      exact qy
    · have h9 := (hO 4 34 rfl)
      obtain ⟨y, ey, qy⟩ := zp_this h9
      rw [hx9] at ey
      obtain rfl : x = y := by omega
      exact qy
    · have h9 := (hO 5 35 rfl)
      obtain ⟨y, ey, qy⟩ := zp_this h9
      rw [hx9] at ey
      obtain rfl : x = y := by omega
      exact qy
  clear hB1 hB3
  refine zpn_store (L' := [(1, 2, (n : Int)), (0, 2, (a : Int))]) (pc := 15) hx hb rfl (zd_X8_copy (15, .astore_n 1, 1, 0, []) (List.mem_of_getElem? (i := 7) rfl)) rfl rfl rfl ?_
  refine zpn_load (pc := 16) hx hb (zd_X8_copy (16, .aload_n 1, 1, 0, []) (List.mem_of_getElem? (i := 8) rfl)) rfl (j := 0) rfl ?_
  refine zpn_getf (n := (b 0 : Int)) (pc := 17) hx hb hE2 hw (zd_X8_copy (17, .getfield 22, 3, 0, []) (List.mem_of_getElem? (i := 9) rfl)) (j := 3) rfl rfl rfl qn hb0 ?_
  refine zpn_alenN (N := cl) (pc := 20) hx hb hw (zd_X8_copy (20, .arraylength, 1, 0, []) (List.mem_of_getElem? (i := 10) rfl)) qb0 ⟨_, rfl, rfl, by decide⟩ ln0 ?_
  refine zpn_store (L' := [(2, 0, (cl : Int)), (1, 2, (n : Int)), (0, 2, (a : Int))]) (pc := 21) hx hb rfl (zd_X8_copy (21, .istore_n 2, 1, 0, []) (List.mem_of_getElem? (i := 11) rfl)) rfl rfl rfl ?_
  refine zpn_load (pc := 22) hx hb (zd_X8_copy (22, .aload_n 0, 1, 0, []) (List.mem_of_getElem? (i := 12) rfl)) rfl (j := 2) rfl ?_
  refine zpn_getf (n := (s0 : Int)) (pc := 23) hx hb hE2 hw (zd_X8_copy (23, .getfield 22, 3, 0, []) (List.mem_of_getElem? (i := 13) rfl)) (j := 3) rfl rfl rfl hpa2 es0 ?_
  refine zpn_const (pc := 26) hx hb (zd_X8_copy (26, .iconst 0, 1, 0, []) (List.mem_of_getElem? (i := 14) rfl)) rfl rfl ?_
  refine zpn_load (pc := 27) hx hb (zd_X8_copy (27, .aload_n 1, 1, 0, []) (List.mem_of_getElem? (i := 15) rfl)) rfl (j := 1) rfl ?_
  refine zpn_getf (n := (b 0 : Int)) (pc := 28) hx hb hE2 hw (zd_X8_copy (28, .getfield 22, 3, 0, []) (List.mem_of_getElem? (i := 16) rfl)) (j := 3) rfl rfl rfl qn hb0 ?_
  refine zpn_const (pc := 31) hx hb (zd_X8_copy (31, .iconst 0, 1, 0, []) (List.mem_of_getElem? (i := 17) rfl)) rfl rfl ?_
  refine zpn_load (pc := 32) hx hb (zd_X8_copy (32, .iload_n 2, 1, 0, []) (List.mem_of_getElem? (i := 18) rfl)) rfl (j := 0) rfl ?_
  refine zpn_copyF (n := cl) (n1 := cl) (pc := 33) (T0 := zt_types.getD 30 (0, 0, 0, [])) (T := zt_types.getD 36 (0, 0, 0, [])) hx hb hE2 hw hrm (zd_X8_copy (33, .invokestatic 51, 3, 0, []) (List.mem_of_getElem? (i := 19) rfl)) (j := 12) rfl rfl rfl rfl rfl qs0 qb0 (hbP 0 (by decide)) (show cl ≤ 12 by omega) (by decide) ln0 (Nat.le_refl _) (fun j => rfl) ⟨by decide, by decide⟩ ⟨by decide, by decide⟩ (by decide) ⟨by decide, by decide⟩ ?_
  refine zpn_load (pc := 36) hx hb (zd_X8_copy (36, .aload_n 0, 1, 0, []) (List.mem_of_getElem? (i := 20) rfl)) rfl (j := 2) rfl ?_
  refine zpn_getf (n := (s1 : Int)) (pc := 37) hx hb hE2 hw (zd_X8_copy (37, .getfield 26, 3, 0, []) (List.mem_of_getElem? (i := 21) rfl)) (j := 4) rfl rfl rfl hpa2 ((zz_cpn (zp_pne hpa2 qb0 (by decide))).trans es1) ?_
  refine zpn_const (pc := 40) hx hb (zd_X8_copy (40, .iconst 0, 1, 0, []) (List.mem_of_getElem? (i := 22) rfl)) rfl rfl ?_
  refine zpn_load (pc := 41) hx hb (zd_X8_copy (41, .aload_n 1, 1, 0, []) (List.mem_of_getElem? (i := 23) rfl)) rfl (j := 1) rfl ?_
  refine zpn_getf (n := (b 1 : Int)) (pc := 42) hx hb hE2 hw (zd_X8_copy (42, .getfield 26, 3, 0, []) (List.mem_of_getElem? (i := 24) rfl)) (j := 4) rfl rfl rfl qn ((zz_cpn (zp_pne qn qb0 (by decide))).trans hb1) ?_
  refine zpn_const (pc := 45) hx hb (zd_X8_copy (45, .iconst 0, 1, 0, []) (List.mem_of_getElem? (i := 25) rfl)) rfl rfl ?_
  refine zpn_load (pc := 46) hx hb (zd_X8_copy (46, .iload_n 2, 1, 0, []) (List.mem_of_getElem? (i := 26) rfl)) rfl (j := 0) rfl ?_
  refine zpn_copyF (n := cl) (n1 := cl) (pc := 47) (T0 := zt_types.getD 31 (0, 0, 0, [])) (T := zt_types.getD 37 (0, 0, 0, [])) hx hb hE2 hw hrm (zd_X8_copy (47, .invokestatic 51, 3, 0, []) (List.mem_of_getElem? (i := 27) rfl)) (j := 12) rfl rfl rfl rfl rfl qs1 qb1 (hbP 1 (by decide)) (show cl ≤ 12 by omega) (by decide) ((zz_cpn (zp_pne qb1 qb0 (by decide))).trans ln1) (Nat.le_refl _) (fun j => rfl) ⟨by decide, by decide⟩ ⟨by decide, by decide⟩ (by decide) ⟨by decide, by decide⟩ ?_
  refine zpn_load (pc := 50) hx hb (zd_X8_copy (50, .aload_n 0, 1, 0, []) (List.mem_of_getElem? (i := 28) rfl)) rfl (j := 2) rfl ?_
  refine zpn_getf (n := (s2 : Int)) (pc := 51) hx hb hE2 hw (zd_X8_copy (51, .getfield 29, 3, 0, []) (List.mem_of_getElem? (i := 29) rfl)) (j := 5) rfl rfl rfl hpa2 ((zz_cpn (zp_pne hpa2 qb1 (by decide))).trans ((zz_cpn (zp_pne hpa2 qb0 (by decide))).trans es2)) ?_
  refine zpn_const (pc := 54) hx hb (zd_X8_copy (54, .iconst 0, 1, 0, []) (List.mem_of_getElem? (i := 30) rfl)) rfl rfl ?_
  refine zpn_load (pc := 55) hx hb (zd_X8_copy (55, .aload_n 1, 1, 0, []) (List.mem_of_getElem? (i := 31) rfl)) rfl (j := 1) rfl ?_
  refine zpn_getf (n := (b 2 : Int)) (pc := 56) hx hb hE2 hw (zd_X8_copy (56, .getfield 29, 3, 0, []) (List.mem_of_getElem? (i := 32) rfl)) (j := 5) rfl rfl rfl qn ((zz_cpn (zp_pne qn qb1 (by decide))).trans ((zz_cpn (zp_pne qn qb0 (by decide))).trans hb2)) ?_
  refine zpn_const (pc := 59) hx hb (zd_X8_copy (59, .iconst 0, 1, 0, []) (List.mem_of_getElem? (i := 33) rfl)) rfl rfl ?_
  refine zpn_load (pc := 60) hx hb (zd_X8_copy (60, .iload_n 2, 1, 0, []) (List.mem_of_getElem? (i := 34) rfl)) rfl (j := 0) rfl ?_
  refine zpn_copyF (n := cl) (n1 := cl) (pc := 61) (T0 := zt_types.getD 32 (0, 0, 0, [])) (T := zt_types.getD 38 (0, 0, 0, [])) hx hb hE2 hw hrm (zd_X8_copy (61, .invokestatic 51, 3, 0, []) (List.mem_of_getElem? (i := 35) rfl)) (j := 12) rfl rfl rfl rfl rfl qs2 qb2 (hbP 2 (by decide)) (show cl ≤ 12 by omega) (by decide) ((zz_cpn (zp_pne qb2 qb1 (by decide))).trans ((zz_cpn (zp_pne qb2 qb0 (by decide))).trans ln2)) (Nat.le_refl _) (fun j => rfl) ⟨by decide, by decide⟩ ⟨by decide, by decide⟩ (by decide) ⟨by decide, by decide⟩ ?_
  refine zpn_load (pc := 64) hx hb (zd_X8_copy (64, .aload_n 0, 1, 0, []) (List.mem_of_getElem? (i := 36) rfl)) rfl (j := 2) rfl ?_
  refine zpn_getf (n := (s3 : Int)) (pc := 65) hx hb hE2 hw (zd_X8_copy (65, .getfield 32, 3, 0, []) (List.mem_of_getElem? (i := 37) rfl)) (j := 6) rfl rfl rfl hpa2 ((zz_cpn (zp_pne hpa2 qb2 (by decide))).trans ((zz_cpn (zp_pne hpa2 qb1 (by decide))).trans ((zz_cpn (zp_pne hpa2 qb0 (by decide))).trans es3))) ?_
  refine zpn_const (pc := 68) hx hb (zd_X8_copy (68, .iconst 0, 1, 0, []) (List.mem_of_getElem? (i := 38) rfl)) rfl rfl ?_
  refine zpn_load (pc := 69) hx hb (zd_X8_copy (69, .aload_n 1, 1, 0, []) (List.mem_of_getElem? (i := 39) rfl)) rfl (j := 1) rfl ?_
  refine zpn_getf (n := (b 3 : Int)) (pc := 70) hx hb hE2 hw (zd_X8_copy (70, .getfield 32, 3, 0, []) (List.mem_of_getElem? (i := 40) rfl)) (j := 6) rfl rfl rfl qn ((zz_cpn (zp_pne qn qb2 (by decide))).trans ((zz_cpn (zp_pne qn qb1 (by decide))).trans ((zz_cpn (zp_pne qn qb0 (by decide))).trans hb3))) ?_
  refine zpn_const (pc := 73) hx hb (zd_X8_copy (73, .iconst 0, 1, 0, []) (List.mem_of_getElem? (i := 41) rfl)) rfl rfl ?_
  refine zpn_load (pc := 74) hx hb (zd_X8_copy (74, .iload_n 2, 1, 0, []) (List.mem_of_getElem? (i := 42) rfl)) rfl (j := 0) rfl ?_
  refine zpn_copyF (n := cl) (n1 := cl) (pc := 75) (T0 := zt_types.getD 33 (0, 0, 0, [])) (T := zt_types.getD 39 (0, 0, 0, [])) hx hb hE2 hw hrm (zd_X8_copy (75, .invokestatic 51, 3, 0, []) (List.mem_of_getElem? (i := 43) rfl)) (j := 12) rfl rfl rfl rfl rfl qs3 qb3 (hbP 3 (by decide)) (show cl ≤ 12 by omega) (by decide) ((zz_cpn (zp_pne qb3 qb2 (by decide))).trans ((zz_cpn (zp_pne qb3 qb1 (by decide))).trans ((zz_cpn (zp_pne qb3 qb0 (by decide))).trans ln3))) (Nat.le_refl _) (fun j => rfl) ⟨by decide, by decide⟩ ⟨by decide, by decide⟩ (by decide) ⟨by decide, by decide⟩ ?_
  refine zpn_load (pc := 78) hx hb (zd_X8_copy (78, .aload_n 0, 1, 0, []) (List.mem_of_getElem? (i := 44) rfl)) rfl (j := 2) rfl ?_
  refine zpn_getf (n := (s4 : Int)) (pc := 79) hx hb hE2 hw (zd_X8_copy (79, .getfield 35, 3, 0, []) (List.mem_of_getElem? (i := 45) rfl)) (j := 7) rfl rfl rfl hpa2 ((zz_cpn (zp_pne hpa2 qb3 (by decide))).trans ((zz_cpn (zp_pne hpa2 qb2 (by decide))).trans ((zz_cpn (zp_pne hpa2 qb1 (by decide))).trans ((zz_cpn (zp_pne hpa2 qb0 (by decide))).trans es4)))) ?_
  refine zpn_const (pc := 82) hx hb (zd_X8_copy (82, .iconst 0, 1, 0, []) (List.mem_of_getElem? (i := 46) rfl)) rfl rfl ?_
  refine zpn_load (pc := 83) hx hb (zd_X8_copy (83, .aload_n 1, 1, 0, []) (List.mem_of_getElem? (i := 47) rfl)) rfl (j := 1) rfl ?_
  refine zpn_getf (n := (b 4 : Int)) (pc := 84) hx hb hE2 hw (zd_X8_copy (84, .getfield 35, 3, 0, []) (List.mem_of_getElem? (i := 48) rfl)) (j := 7) rfl rfl rfl qn ((zz_cpn (zp_pne qn qb3 (by decide))).trans ((zz_cpn (zp_pne qn qb2 (by decide))).trans ((zz_cpn (zp_pne qn qb1 (by decide))).trans ((zz_cpn (zp_pne qn qb0 (by decide))).trans hb4)))) ?_
  refine zpn_const (pc := 87) hx hb (zd_X8_copy (87, .iconst 0, 1, 0, []) (List.mem_of_getElem? (i := 49) rfl)) rfl rfl ?_
  refine zpn_load (pc := 88) hx hb (zd_X8_copy (88, .iload_n 2, 1, 0, []) (List.mem_of_getElem? (i := 50) rfl)) rfl (j := 0) rfl ?_
  refine zpn_copyF (n := cl) (n1 := cl) (pc := 89) (T0 := zt_types.getD 34 (0, 0, 0, [])) (T := zt_types.getD 40 (0, 0, 0, [])) hx hb hE2 hw hrm (zd_X8_copy (89, .invokestatic 51, 3, 0, []) (List.mem_of_getElem? (i := 51) rfl)) (j := 12) rfl rfl rfl rfl rfl qs4 qb4 (hbP 4 (by decide)) (show cl ≤ 12 by omega) (by decide) ((zz_cpn (zp_pne qb4 qb3 (by decide))).trans ((zz_cpn (zp_pne qb4 qb2 (by decide))).trans ((zz_cpn (zp_pne qb4 qb1 (by decide))).trans ((zz_cpn (zp_pne qb4 qb0 (by decide))).trans ln4)))) (Nat.le_refl _) (fun j => rfl) ⟨by decide, by decide⟩ ⟨by decide, by decide⟩ (by decide) ⟨by decide, by decide⟩ ?_
  refine zpn_load (pc := 92) hx hb (zd_X8_copy (92, .aload_n 0, 1, 0, []) (List.mem_of_getElem? (i := 52) rfl)) rfl (j := 2) rfl ?_
  refine zpn_getf (n := (s5 : Int)) (pc := 93) hx hb hE2 hw (zd_X8_copy (93, .getfield 38, 3, 0, []) (List.mem_of_getElem? (i := 53) rfl)) (j := 8) rfl rfl rfl hpa2 ((zz_cpn (zp_pne hpa2 qb4 (by decide))).trans ((zz_cpn (zp_pne hpa2 qb3 (by decide))).trans ((zz_cpn (zp_pne hpa2 qb2 (by decide))).trans ((zz_cpn (zp_pne hpa2 qb1 (by decide))).trans ((zz_cpn (zp_pne hpa2 qb0 (by decide))).trans es5))))) ?_
  refine zpn_const (pc := 96) hx hb (zd_X8_copy (96, .iconst 0, 1, 0, []) (List.mem_of_getElem? (i := 54) rfl)) rfl rfl ?_
  refine zpn_load (pc := 97) hx hb (zd_X8_copy (97, .aload_n 1, 1, 0, []) (List.mem_of_getElem? (i := 55) rfl)) rfl (j := 1) rfl ?_
  refine zpn_getf (n := (b 5 : Int)) (pc := 98) hx hb hE2 hw (zd_X8_copy (98, .getfield 38, 3, 0, []) (List.mem_of_getElem? (i := 56) rfl)) (j := 8) rfl rfl rfl qn ((zz_cpn (zp_pne qn qb4 (by decide))).trans ((zz_cpn (zp_pne qn qb3 (by decide))).trans ((zz_cpn (zp_pne qn qb2 (by decide))).trans ((zz_cpn (zp_pne qn qb1 (by decide))).trans ((zz_cpn (zp_pne qn qb0 (by decide))).trans hb5))))) ?_
  refine zpn_const (pc := 101) hx hb (zd_X8_copy (101, .iconst 0, 1, 0, []) (List.mem_of_getElem? (i := 57) rfl)) rfl rfl ?_
  refine zpn_load (pc := 102) hx hb (zd_X8_copy (102, .aload_n 1, 1, 0, []) (List.mem_of_getElem? (i := 58) rfl)) rfl (j := 1) rfl ?_
  refine zpn_getf (n := (b 5 : Int)) (pc := 103) hx hb hE2 hw (zd_X8_copy (103, .getfield 38, 3, 0, []) (List.mem_of_getElem? (i := 59) rfl)) (j := 8) rfl rfl rfl qn ((zz_cpn (zp_pne qn qb4 (by decide))).trans ((zz_cpn (zp_pne qn qb3 (by decide))).trans ((zz_cpn (zp_pne qn qb2 (by decide))).trans ((zz_cpn (zp_pne qn qb1 (by decide))).trans ((zz_cpn (zp_pne qn qb0 (by decide))).trans hb5))))) ?_
  refine zpn_alenN (N := sz) (pc := 106) hx hb hw (zd_X8_copy (106, .arraylength, 1, 0, []) (List.mem_of_getElem? (i := 60) rfl)) qb5 ⟨_, rfl, rfl, by decide⟩ ((zz_cpn (zp_pne qb5 qb4 (by decide))).trans ((zz_cpn (zp_pne qb5 qb3 (by decide))).trans ((zz_cpn (zp_pne qb5 qb2 (by decide))).trans ((zz_cpn (zp_pne qb5 qb1 (by decide))).trans ((zz_cpn (zp_pne qb5 qb0 (by decide))).trans ln5))))) ?_
  refine zpn_copyF (n := sz) (n1 := sz) (pc := 107) (T0 := zt_types.getD 35 (0, 0, 0, [])) (T := zt_types.getD 41 (0, 0, 0, [])) hx hb hE2 hw hrm (zd_X8_copy (107, .invokestatic 51, 3, 0, []) (List.mem_of_getElem? (i := 61) rfl)) (j := 12) rfl rfl rfl rfl rfl qs5 qb5 (hbP 5 (by decide)) (show sz ≤ 872 by omega) (by decide) ((zz_cpn (zp_pne qb5 qb4 (by decide))).trans ((zz_cpn (zp_pne qb5 qb3 (by decide))).trans ((zz_cpn (zp_pne qb5 qb2 (by decide))).trans ((zz_cpn (zp_pne qb5 qb1 (by decide))).trans ((zz_cpn (zp_pne qb5 qb0 (by decide))).trans ln5))))) (Nat.le_refl _) (fun j => rfl) ⟨by decide, by decide⟩ ⟨by decide, by decide⟩ (by decide) ⟨by decide, by decide⟩ ?_
  refine zpn_load (pc := 110) hx hb (zd_X8_copy (110, .aload_n 1, 1, 0, []) (List.mem_of_getElem? (i := 62) rfl)) rfl (j := 1) rfl ?_
  refine zpn_load (pc := 111) hx hb (zd_X8_copy (111, .iload_n 2, 1, 0, []) (List.mem_of_getElem? (i := 63) rfl)) rfl (j := 0) rfl ?_
  refine zpn_putf9 (k := 6) (a := n) (n := (cl : Int)) (pc := 112) hx hb hE2 hw (zd_X8_copy (112, .putfield 41, 3, 0, []) (List.mem_of_getElem? (i := 64) rfl)) (j := 9) rfl rfl (Or.inl rfl) qn hnP r6 (fun _ i hi => ?_) ?_
  · have hi3 : i = 0 ∨ i = 1 ∨ i = 4 := by simpa using hi
    rcases hi3 with rfl | rfl | rfl
    · exact ⟨b 0, ((zz_cpn (zp_pne qn qb5 (by decide))).trans ((zz_cpn (zp_pne qn qb4 (by decide))).trans ((zz_cpn (zp_pne qn qb3 (by decide))).trans ((zz_cpn (zp_pne qn qb2 (by decide))).trans ((zz_cpn (zp_pne qn qb1 (by decide))).trans ((zz_cpn (zp_pne qn qb0 (by decide))).trans hb0)))))), by rw [((zz_cpn (zp_pne qb0 qb5 (by decide))).trans ((zz_cpn (zp_pne qb0 qb4 (by decide))).trans ((zz_cpn (zp_pne qb0 qb3 (by decide))).trans ((zz_cpn (zp_pne qb0 qb2 (by decide))).trans ((zz_cpn (zp_pne qb0 qb1 (by decide))).trans ((zz_cp0 (by decide)).trans ln0))))))]; exact Int.le_refl _⟩
    · exact ⟨b 1, ((zz_cpn (zp_pne qn qb5 (by decide))).trans ((zz_cpn (zp_pne qn qb4 (by decide))).trans ((zz_cpn (zp_pne qn qb3 (by decide))).trans ((zz_cpn (zp_pne qn qb2 (by decide))).trans ((zz_cpn (zp_pne qn qb1 (by decide))).trans ((zz_cpn (zp_pne qn qb0 (by decide))).trans hb1)))))), by rw [((zz_cpn (zp_pne qb1 qb5 (by decide))).trans ((zz_cpn (zp_pne qb1 qb4 (by decide))).trans ((zz_cpn (zp_pne qb1 qb3 (by decide))).trans ((zz_cpn (zp_pne qb1 qb2 (by decide))).trans ((zz_cp0 (by decide)).trans ((zz_cpn (zp_pne qb1 qb0 (by decide))).trans ln1))))))]; exact Int.le_refl _⟩
    · exact ⟨b 4, ((zz_cpn (zp_pne qn qb5 (by decide))).trans ((zz_cpn (zp_pne qn qb4 (by decide))).trans ((zz_cpn (zp_pne qn qb3 (by decide))).trans ((zz_cpn (zp_pne qn qb2 (by decide))).trans ((zz_cpn (zp_pne qn qb1 (by decide))).trans ((zz_cpn (zp_pne qn qb0 (by decide))).trans hb4)))))), by rw [((zz_cpn (zp_pne qb4 qb5 (by decide))).trans ((zz_cp0 (by decide)).trans ((zz_cpn (zp_pne qb4 qb3 (by decide))).trans ((zz_cpn (zp_pne qb4 qb2 (by decide))).trans ((zz_cpn (zp_pne qb4 qb1 (by decide))).trans ((zz_cpn (zp_pne qb4 qb0 (by decide))).trans ln4))))))]; exact Int.le_refl _⟩
  refine zpn_load (pc := 115) hx hb (zd_X8_copy (115, .aload_n 1, 1, 0, []) (List.mem_of_getElem? (i := 65) rfl)) rfl (j := 1) rfl ?_
  refine zpn_load (pc := 116) hx hb (zd_X8_copy (116, .aload_n 1, 1, 0, []) (List.mem_of_getElem? (i := 66) rfl)) rfl (j := 1) rfl ?_
  refine zpn_getf (n := (b 5 : Int)) (pc := 117) hx hb hE2 hw (zd_X8_copy (117, .getfield 38, 3, 0, []) (List.mem_of_getElem? (i := 67) rfl)) (j := 8) rfl rfl rfl qn ((zp_set_ne (Or.inr (by decide))).trans ((zz_cpn (zp_pne qn qb5 (by decide))).trans ((zz_cpn (zp_pne qn qb4 (by decide))).trans ((zz_cpn (zp_pne qn qb3 (by decide))).trans ((zz_cpn (zp_pne qn qb2 (by decide))).trans ((zz_cpn (zp_pne qn qb1 (by decide))).trans ((zz_cpn (zp_pne qn qb0 (by decide))).trans hb5))))))) ?_
  refine zpn_alenN (N := sz) (pc := 120) hx hb hw (zd_X8_copy (120, .arraylength, 1, 0, []) (List.mem_of_getElem? (i := 68) rfl)) qb5 ⟨_, rfl, rfl, by decide⟩ ((zp_set_ne (Or.inl (zp_pne qb5 qn (by decide)))).trans ((zz_cp0 (by decide)).trans ((zz_cpn (zp_pne qb5 qb4 (by decide))).trans ((zz_cpn (zp_pne qb5 qb3 (by decide))).trans ((zz_cpn (zp_pne qb5 qb2 (by decide))).trans ((zz_cpn (zp_pne qb5 qb1 (by decide))).trans ((zz_cpn (zp_pne qb5 qb0 (by decide))).trans ln5))))))) ?_
  refine zpn_putf9 (k := 7) (a := n) (n := (sz : Int)) (pc := 121) hx hb hE2 hw (zd_X8_copy (121, .putfield 45, 3, 0, []) (List.mem_of_getElem? (i := 69) rfl)) (j := 10) rfl rfl (Or.inr rfl) qn hnP r7 (fun h => absurd h (by decide)) ?_
  refine zpn_load (pc := 124) hx hb (zd_X8_copy (124, .aload_n 1, 1, 0, []) (List.mem_of_getElem? (i := 70) rfl)) rfl (j := 1) rfl ?_
  refine zpn_aret (pc := 125) (n := (n : Int)) hx hb hE2 hQ rfl rfl (by decide) (zd_X8_copy (125, .areturn, 1, 0, []) (List.mem_of_getElem? (i := 71) rfl)) (j := 0) rfl (zp_o2 qn) (by decide) (by decide) ?_
  have ha0 : zp_0 [(a : Int)] = a := rfl
  show zψ_cpx P0 (zp_n G0) [(a : Int)] P2 _ (n : Int)
  refine ⟨n, b, rfl, hnP, qn, fun i hi => ⟨?_, (hb6 i hi).2.1, hbP i hi⟩, ⟨?_, ?_⟩, fun i hi => ?_, fun i j hi hj => ?_, fun j hj => ?_⟩
  · have hi6 : i = 0 ∨ i = 1 ∨ i = 2 ∨ i = 3 ∨ i = 4 ∨ i = 5 := by omega
    rcases hi6 with rfl | rfl | rfl | rfl | rfl | rfl
    · exact ((zp_set_ne (Or.inr (by decide))).trans ((zp_set_ne (Or.inr (by decide))).trans ((zz_cpn (zp_pne qn qb5 (by decide))).trans ((zz_cpn (zp_pne qn qb4 (by decide))).trans ((zz_cpn (zp_pne qn qb3 (by decide))).trans ((zz_cpn (zp_pne qn qb2 (by decide))).trans ((zz_cpn (zp_pne qn qb1 (by decide))).trans ((zz_cpn (zp_pne qn qb0 (by decide))).trans hb0))))))))
    · exact ((zp_set_ne (Or.inr (by decide))).trans ((zp_set_ne (Or.inr (by decide))).trans ((zz_cpn (zp_pne qn qb5 (by decide))).trans ((zz_cpn (zp_pne qn qb4 (by decide))).trans ((zz_cpn (zp_pne qn qb3 (by decide))).trans ((zz_cpn (zp_pne qn qb2 (by decide))).trans ((zz_cpn (zp_pne qn qb1 (by decide))).trans ((zz_cpn (zp_pne qn qb0 (by decide))).trans hb1))))))))
    · exact ((zp_set_ne (Or.inr (by decide))).trans ((zp_set_ne (Or.inr (by decide))).trans ((zz_cpn (zp_pne qn qb5 (by decide))).trans ((zz_cpn (zp_pne qn qb4 (by decide))).trans ((zz_cpn (zp_pne qn qb3 (by decide))).trans ((zz_cpn (zp_pne qn qb2 (by decide))).trans ((zz_cpn (zp_pne qn qb1 (by decide))).trans ((zz_cpn (zp_pne qn qb0 (by decide))).trans hb2))))))))
    · exact ((zp_set_ne (Or.inr (by decide))).trans ((zp_set_ne (Or.inr (by decide))).trans ((zz_cpn (zp_pne qn qb5 (by decide))).trans ((zz_cpn (zp_pne qn qb4 (by decide))).trans ((zz_cpn (zp_pne qn qb3 (by decide))).trans ((zz_cpn (zp_pne qn qb2 (by decide))).trans ((zz_cpn (zp_pne qn qb1 (by decide))).trans ((zz_cpn (zp_pne qn qb0 (by decide))).trans hb3))))))))
    · exact ((zp_set_ne (Or.inr (by decide))).trans ((zp_set_ne (Or.inr (by decide))).trans ((zz_cpn (zp_pne qn qb5 (by decide))).trans ((zz_cpn (zp_pne qn qb4 (by decide))).trans ((zz_cpn (zp_pne qn qb3 (by decide))).trans ((zz_cpn (zp_pne qn qb2 (by decide))).trans ((zz_cpn (zp_pne qn qb1 (by decide))).trans ((zz_cpn (zp_pne qn qb0 (by decide))).trans hb4))))))))
    · exact ((zp_set_ne (Or.inr (by decide))).trans ((zp_set_ne (Or.inr (by decide))).trans ((zz_cpn (zp_pne qn qb5 (by decide))).trans ((zz_cpn (zp_pne qn qb4 (by decide))).trans ((zz_cpn (zp_pne qn qb3 (by decide))).trans ((zz_cpn (zp_pne qn qb2 (by decide))).trans ((zz_cpn (zp_pne qn qb1 (by decide))).trans ((zz_cpn (zp_pne qn qb0 (by decide))).trans hb5))))))))
  · rw [ha0, hcl]
    exact (zp_set_ne (Or.inr (by decide))).trans zp_set_self
  · rw [ha0, hsz]
    exact zp_set_self
  · rw [ha0, hcl, hsz]
    have hi6 : i = 0 ∨ i = 1 ∨ i = 2 ∨ i = 3 ∨ i = 4 ∨ i = 5 := by omega
    rcases hi6 with rfl | rfl | rfl | rfl | rfl | rfl
    · exact ((zp_set_ne (Or.inl (zp_pne qb0 qn (by decide)))).trans ((zp_set_ne (Or.inl (zp_pne qb0 qn (by decide)))).trans ((zz_cpn (zp_pne qb0 qb5 (by decide))).trans ((zz_cpn (zp_pne qb0 qb4 (by decide))).trans ((zz_cpn (zp_pne qb0 qb3 (by decide))).trans ((zz_cpn (zp_pne qb0 qb2 (by decide))).trans ((zz_cpn (zp_pne qb0 qb1 (by decide))).trans ((zz_cp0 (by decide)).trans ln0))))))))
    · exact ((zp_set_ne (Or.inl (zp_pne qb1 qn (by decide)))).trans ((zp_set_ne (Or.inl (zp_pne qb1 qn (by decide)))).trans ((zz_cpn (zp_pne qb1 qb5 (by decide))).trans ((zz_cpn (zp_pne qb1 qb4 (by decide))).trans ((zz_cpn (zp_pne qb1 qb3 (by decide))).trans ((zz_cpn (zp_pne qb1 qb2 (by decide))).trans ((zz_cp0 (by decide)).trans ((zz_cpn (zp_pne qb1 qb0 (by decide))).trans ln1))))))))
    · exact ((zp_set_ne (Or.inl (zp_pne qb2 qn (by decide)))).trans ((zp_set_ne (Or.inl (zp_pne qb2 qn (by decide)))).trans ((zz_cpn (zp_pne qb2 qb5 (by decide))).trans ((zz_cpn (zp_pne qb2 qb4 (by decide))).trans ((zz_cpn (zp_pne qb2 qb3 (by decide))).trans ((zz_cp0 (by decide)).trans ((zz_cpn (zp_pne qb2 qb1 (by decide))).trans ((zz_cpn (zp_pne qb2 qb0 (by decide))).trans ln2))))))))
    · exact ((zp_set_ne (Or.inl (zp_pne qb3 qn (by decide)))).trans ((zp_set_ne (Or.inl (zp_pne qb3 qn (by decide)))).trans ((zz_cpn (zp_pne qb3 qb5 (by decide))).trans ((zz_cpn (zp_pne qb3 qb4 (by decide))).trans ((zz_cp0 (by decide)).trans ((zz_cpn (zp_pne qb3 qb2 (by decide))).trans ((zz_cpn (zp_pne qb3 qb1 (by decide))).trans ((zz_cpn (zp_pne qb3 qb0 (by decide))).trans ln3))))))))
    · exact ((zp_set_ne (Or.inl (zp_pne qb4 qn (by decide)))).trans ((zp_set_ne (Or.inl (zp_pne qb4 qn (by decide)))).trans ((zz_cpn (zp_pne qb4 qb5 (by decide))).trans ((zz_cp0 (by decide)).trans ((zz_cpn (zp_pne qb4 qb3 (by decide))).trans ((zz_cpn (zp_pne qb4 qb2 (by decide))).trans ((zz_cpn (zp_pne qb4 qb1 (by decide))).trans ((zz_cpn (zp_pne qb4 qb0 (by decide))).trans ln4))))))))
    · exact ((zp_set_ne (Or.inl (zp_pne qb5 qn (by decide)))).trans ((zp_set_ne (Or.inl (zp_pne qb5 qn (by decide)))).trans ((zz_cp0 (by decide)).trans ((zz_cpn (zp_pne qb5 qb4 (by decide))).trans ((zz_cpn (zp_pne qb5 qb3 (by decide))).trans ((zz_cpn (zp_pne qb5 qb2 (by decide))).trans ((zz_cpn (zp_pne qb5 qb1 (by decide))).trans ((zz_cpn (zp_pne qb5 qb0 (by decide))).trans ln5))))))))
  · rw [ha0] at hj ⊢
    rw [hcl] at hj
    have hi5 : i = 0 ∨ i = 1 ∨ i = 2 ∨ i = 3 ∨ i = 4 := by omega
    rcases hi5 with rfl | rfl | rfl | rfl | rfl
    · exact ((zp_set_ne (Or.inl (zp_pne qb0 qn (by decide)))).trans ((zp_set_ne (Or.inl (zp_pne qb0 qn (by decide)))).trans ((zz_cpn (zp_pne qb0 qb5 (by decide))).trans ((zz_cpn (zp_pne qb0 qb4 (by decide))).trans ((zz_cpn (zp_pne qb0 qb3 (by decide))).trans ((zz_cpn (zp_pne qb0 qb2 (by decide))).trans ((zz_cpn (zp_pne qb0 qb1 (by decide))).trans ((zz_cpe (show j < cl by omega)).trans (by rw [et0, Int.toNat_natCast]; exact hF2 _ _ _ (hsO 0 (by decide) s0 et0))))))))))
    · exact ((zp_set_ne (Or.inl (zp_pne qb1 qn (by decide)))).trans ((zp_set_ne (Or.inl (zp_pne qb1 qn (by decide)))).trans ((zz_cpn (zp_pne qb1 qb5 (by decide))).trans ((zz_cpn (zp_pne qb1 qb4 (by decide))).trans ((zz_cpn (zp_pne qb1 qb3 (by decide))).trans ((zz_cpn (zp_pne qb1 qb2 (by decide))).trans ((zz_cpe (show j < cl by omega)).trans ((zz_cpn (zp_pne qs1 qb0 (by decide))).trans (by rw [et1, Int.toNat_natCast]; exact hF2 _ _ _ (hsO 1 (by decide) s1 et1))))))))))
    · exact ((zp_set_ne (Or.inl (zp_pne qb2 qn (by decide)))).trans ((zp_set_ne (Or.inl (zp_pne qb2 qn (by decide)))).trans ((zz_cpn (zp_pne qb2 qb5 (by decide))).trans ((zz_cpn (zp_pne qb2 qb4 (by decide))).trans ((zz_cpn (zp_pne qb2 qb3 (by decide))).trans ((zz_cpe (show j < cl by omega)).trans ((zz_cpn (zp_pne qs2 qb1 (by decide))).trans ((zz_cpn (zp_pne qs2 qb0 (by decide))).trans (by rw [et2, Int.toNat_natCast]; exact hF2 _ _ _ (hsO 2 (by decide) s2 et2))))))))))
    · exact ((zp_set_ne (Or.inl (zp_pne qb3 qn (by decide)))).trans ((zp_set_ne (Or.inl (zp_pne qb3 qn (by decide)))).trans ((zz_cpn (zp_pne qb3 qb5 (by decide))).trans ((zz_cpn (zp_pne qb3 qb4 (by decide))).trans ((zz_cpe (show j < cl by omega)).trans ((zz_cpn (zp_pne qs3 qb2 (by decide))).trans ((zz_cpn (zp_pne qs3 qb1 (by decide))).trans ((zz_cpn (zp_pne qs3 qb0 (by decide))).trans (by rw [et3, Int.toNat_natCast]; exact hF2 _ _ _ (hsO 3 (by decide) s3 et3))))))))))
    · exact ((zp_set_ne (Or.inl (zp_pne qb4 qn (by decide)))).trans ((zp_set_ne (Or.inl (zp_pne qb4 qn (by decide)))).trans ((zz_cpn (zp_pne qb4 qb5 (by decide))).trans ((zz_cpe (show j < cl by omega)).trans ((zz_cpn (zp_pne qs4 qb3 (by decide))).trans ((zz_cpn (zp_pne qs4 qb2 (by decide))).trans ((zz_cpn (zp_pne qs4 qb1 (by decide))).trans ((zz_cpn (zp_pne qs4 qb0 (by decide))).trans (by rw [et4, Int.toNat_natCast]; exact hF2 _ _ _ (hsO 4 (by decide) s4 et4))))))))))
  · rw [ha0] at hj ⊢
    rw [hsz] at hj
    exact ((zp_set_ne (Or.inl (zp_pne qb5 qn (by decide)))).trans ((zp_set_ne (Or.inl (zp_pne qb5 qn (by decide)))).trans ((zz_cpe (show j < sz by omega)).trans ((zz_cpn (zp_pne qs5 qb4 (by decide))).trans ((zz_cpn (zp_pne qs5 qb3 (by decide))).trans ((zz_cpn (zp_pne qs5 qb2 (by decide))).trans ((zz_cpn (zp_pne qs5 qb1 (by decide))).trans ((zz_cpn (zp_pne qs5 qb0 (by decide))).trans (by rw [et5, Int.toNat_natCast]; exact hF2 _ _ _ (hsO 5 (by decide) s5 et5))))))))))
