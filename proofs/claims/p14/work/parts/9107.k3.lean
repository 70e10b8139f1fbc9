/-! part k3: a new going, a new town -/
noncomputable def zK_ngo : zk_K := (zt_mn 2, prog_4_method_1_code, 1, (Option.none : Option Jvm.ClassFile.FieldType), 2, 2, [(3, 2, 0, 0)], [(none, [])], [], (1, 60, 3, 22))
theorem zq_ngo {l : Launch} {w : zk_W} (hW : zh_W w) : zh_K l w zK_ngo := zh_meth hW (lk := [(7, 3, 0, 0, 0), (5, 1, 1, 0, 0), (2, 9, 2, 0, 18), (2, 15, 2, 1, 18), (2, 18, 2, 2, 18), (2, 21, 2, 3, 0), (2, 25, 2, 5, 0)]) (KS := []) (km := []) (lc := []) (CL0 := zc_X2_init) (ns := [(7, 17, []), (15, 18, []), (23, 19, [])]) (AN := []) (fuel := 120) (pl := 156) (by decide +kernel) (by decide +kernel) zd_X2_init (fun K h => nomatch h)
noncomputable def zR_g1 : zk_An := (40, ([(0, 0, 0, 0), (1, 0, 0, 0), (2, 0, (-1), (-1)), (3, 2, 0, 0), (2, 17, 0, 0), (2, 18, 0, 0), (2, 19, 0, 0)], [], [(6, 1000, (0, 10)), (5, 1000, (0, 6)), (4, 1000, (0, 6))], [(3, 2, [(4, 0), (5, 0), (6, 0), (0, 1000), (0, 0), (0, (-1)), (0, 0)])], [(0, (3, 0))], [(0, 3)], [6, 5, 4]), [], 3, 22, ((-1), []))
noncomputable def zB_ngo : zk_B := fun P G ps P' F' _ => (∀ a t k, P a = some t → zp_n F' a k = zp_n G a k) ∧ ∀ (a : Nat), ps = [(a : Int)] → ∃ b : Nat → Nat, ∀ i : Nat, i < 3 → zp_n F' a i = (b i : Int) ∧ P' (b i) = some (17 + i) ∧ P (b i) = none
set_option maxHeartbeats 4000000 in
theorem zX_ngo {l : Launch} {w : zk_W} (hW : zh_W w) : zk_metX l w zt_dv zt_TB zK_ngo zk_tA zB_ngo ∧ zk_cok w zt_TB zK_ngo := by
  have hw := hW.1
  have hCL := zq_note_ok zd_X2_init [(7, 17, []), (15, 18, []), (23, 19, [])]
  refine zh_methK hW (lk := [(7, 3, 0, 0, 0), (5, 1, 1, 0, 0), (2, 9, 2, 0, 18), (2, 15, 2, 1, 18), (2, 18, 2, 2, 18), (2, 21, 2, 3, 0), (2, 25, 2, 5, 0)]) (KS := []) (km := []) (lc := []) (K := zK_ngo) (pl := 156) (by decide +kernel) (by decide +kernel) (fun K h => nomatch h) (fun p e R s m args below meth c Q P0 G0 ps X hx hb hps hE hQ H locs ls hG => ?_)
  refine zh_segC (K := zK_ngo) hx hb hE hCL (pc := 0) (st := []) (cu := 0) (su := 0) (sv := []) (AN := [zR_g1]) (fuel := 120) (by decide +kernel) hG trivial (fun A hA N P F H locs ls sv hG hS => ?_)
  obtain rfl := List.mem_singleton.mp hA
  refine zh_retC (K := zK_ngo) hx hb hE hQ rfl rfl (List.mem_singleton.mpr rfl) (zd_X2_init (40, .return_, 1, 0, []) (List.mem_of_getElem? (i := 20) rfl)) (by decide +kernel) (by decide +kernel) (by decide +kernel) hG hS (fun z f n fs hz hf hn hnP hfs => ?_)
  have hV := hG.1
  have hF := hG.2.2.1
  have hef : zk_ef [] ps P0 G0 F := hG.2.2.2.2.2.2.2.1
  have hext : ∀ a t, P0 a = some t → P a = some t := hG.2.2.2.2.2.2.1
  have hfr : zk_fr N P0 [6, 5, 4] := hG.2.2.2.2.2.2.2.2.2.2.1
  obtain rfl := (List.cons.inj hz).1
  have hf : some ((3, 2, 0, 0) : zk_F) = some f := hf
  obtain rfl := Option.some.inj hf
  refine ⟨zp_n_new hef hext hnP, fun a hps2 => ?_⟩
  subst hps2
  have hn : some (a : Int) = some (n : Int) := hn
  obtain rfl : a = n := by have := Option.some.inj hn; omega
  obtain ⟨b0, hb0, qb0⟩ := zh_r (i := 4) (t := 17) hV rfl
  have nb0 : b0 ≠ a := fun e => by rw [e, hnP] at qb0; cases qb0
  obtain ⟨v0, x0, sv0⟩ := zk_all2_get hfs (i := 0) rfl
  obtain ⟨b1, hb1, qb1⟩ := zh_r (i := 5) (t := 18) hV rfl
  have nb1 : b1 ≠ a := fun e => by rw [e, hnP] at qb1; cases qb1
  obtain ⟨v1, x1, sv1⟩ := zk_all2_get hfs (i := 1) rfl
  obtain ⟨b2, hb2, qb2⟩ := zh_r (i := 6) (t := 19) hV rfl
  have nb2 : b2 ≠ a := fun e => by rw [e, hnP] at qb2; cases qb2
  obtain ⟨v2, x2, sv2⟩ := zk_all2_get hfs (i := 2) rfl
  refine ⟨fun i => [b0, b1, b2].getD i 0, fun i hi => ?_⟩
  have hi3 : i = 0 ∨ i = 1 ∨ i = 2 := by omega
  rcases hi3 with rfl | rfl | rfl
  · refine ⟨?_, ?_, ?_⟩
    · show zp_n _ a 0 = (b0 : Int)
      rw [zp_n_upo x0, zh_vr (x := 4) (t := 17) sv0 rfl hb0]
      rfl
    · show zk_up P a _ b0 = _
      rw [zk_up_ne nb0]
      exact qb0
    · exact zB_fr hfr (x := 4) (by decide) hb0
  · refine ⟨?_, ?_, ?_⟩
    · show zp_n _ a 1 = (b1 : Int)
      rw [zp_n_upo x1, zh_vr (x := 5) (t := 18) sv1 rfl hb1]
      rfl
    · show zk_up P a _ b1 = _
      rw [zk_up_ne nb1]
      exact qb1
    · exact zB_fr hfr (x := 5) (by decide) hb1
  · refine ⟨?_, ?_, ?_⟩
    · show zp_n _ a 2 = (b2 : Int)
      rw [zp_n_upo x2, zh_vr (x := 6) (t := 19) sv2 rfl hb2]
      rfl
    · show zk_up P a _ b2 = _
      rw [zk_up_ne nb2]
      exact qb2
    · exact zB_fr hfr (x := 6) (by decide) hb2
noncomputable def zK_ntw : zk_K := (zt_mn 1, prog_11_method_1_code, 1, (Option.none : Option Jvm.ClassFile.FieldType), 2, 9, [(3, 93, 0, 0)], [(none, [])], [], (2, 80, 15, 179))
theorem zq_ntw {l : Launch} {w : zk_W} (hW : zh_W w) : zh_K l w zK_ntw := zh_meth hW (lk := [(7, 3, 0, 0, 0), (5, 1, 1, 0, 0), (2, 9, 9, 0, 18), (2, 15, 9, 2, 18), (2, 18, 9, 4, 18), (2, 21, 9, 5, 18), (2, 24, 9, 6, 18), (2, 27, 9, 7, 18), (2, 30, 9, 8, 18), (2, 33, 9, 10, 18), (2, 36, 9, 11, 18), (2, 39, 9, 12, 18), (4, 42, 8, 0, 0), (2, 44, 9, 13, 18), (2, 48, 9, 15, 0), (2, 52, 9, 16, 0), (3, 55, 2, 7, 0), (2, 58, 9, 18, 18)]) (KS := [zK_ngo]) (km := [2]) (lc := [(2, 57, 2)]) (CL0 := zc_X9_init) (ns := [(7, 42, []), (15, 43, []), (23, 44, []), (31, 45, []), (39, 46, []), (47, 47, []), (55, 48, []), (63, 49, []), (71, 50, []), (79, 51, []), (87, 52, [])]) (AN := []) (fuel := 250) (pl := 148) (by decide +kernel) (by decide +kernel) zd_X9_init (fun K h => by rw [List.mem_singleton.mp h]; exact zq_ngo hW)
noncomputable def zR_w1 : zk_An := (109, ([(0, 0, 0, 0), (1, 0, 0, 0), (2, 0, (-1), (-1)), (3, 93, 0, 0), (2, 42, 0, 0), (2, 43, 0, 0), (2, 44, 0, 0), (2, 45, 0, 0), (2, 46, 0, 0), (2, 47, 0, 0), (2, 48, 0, 0), (2, 49, 0, 0), (2, 50, 0, 0), (2, 51, 0, 0), (2, 52, 0, 0), (3, 0, 0, 0)], [], [(14, 1000, (0, 6)), (13, 1000, (0, 8)), (12, 1000, (0, 8)), (11, 1000, (0, 8)), (10, 1000, (0, 10)), (9, 1000, (0, 10)), (8, 1000, (0, 10)), (7, 1000, (0, 10)), (6, 1000, (0, 10)), (5, 1000, (0, 6)), (4, 1000, (0, 64))], [(15, 2, [(2, 0), (2, 0), (2, 0), (0, 0), (0, 0), (0, 0), (0, 0)]), (3, 9, [(4, 0), (0, 0), (5, 0), (0, 0), (6, 0), (7, 0), (8, 0), (9, 0), (10, 0), (0, 0), (11, 0), (12, 0), (13, 0), (14, 0), (0, 0), (0, (-1)), (0, 7), (0, 0), (2, 0)])], [(0, (3, 0))], [(0, 3)], [15, 14, 13, 12, 11, 10, 9, 8, 7, 6, 5, 4]), [(15, 0), (15, 0), (3, 0)], 12, 157, ((-1), []))
noncomputable def zO_w : zk_O := (112, ([(0, 0, 0, 0), (1, 0, 0, 0), (2, 0, (-1), (-1)), (3, 93, 0, 0), (2, 42, 0, 0), (2, 43, 0, 0), (2, 44, 0, 0), (2, 45, 0, 0), (2, 46, 0, 0), (2, 47, 0, 0), (2, 48, 0, 0), (2, 49, 0, 0), (2, 50, 0, 0), (2, 51, 0, 0), (2, 52, 0, 0), (2, 2, 0, 0)], [], [(14, 1000, (0, 6)), (13, 1000, (0, 8)), (12, 1000, (0, 8)), (11, 1000, (0, 8)), (10, 1000, (0, 10)), (9, 1000, (0, 10)), (8, 1000, (0, 10)), (7, 1000, (0, 10)), (6, 1000, (0, 10)), (5, 1000, (0, 6)), (4, 1000, (0, 64))], [(3, 9, [(4, 0), (0, 0), (5, 0), (0, 0), (6, 0), (7, 0), (8, 0), (9, 0), (10, 0), (0, 0), (11, 0), (12, 0), (13, 0), (14, 0), (0, 0), (0, (-1)), (0, 7), (0, 0), (2, 0)])], [(0, (3, 0))], [(0, 3)], [15, 14, 13, 12, 11, 10, 9, 8, 7, 6, 5, 4]), [(15, 0), (3, 0)], 15, 179)
noncomputable def zC_w : zk_C := ([(0, 0, 0, 0), (1, 0, 0, 0), (2, 0, (-1), (-1)), (3, 93, 0, 0), (2, 42, 0, 0), (2, 43, 0, 0), (2, 44, 0, 0), (2, 45, 0, 0), (2, 46, 0, 0), (2, 47, 0, 0), (2, 48, 0, 0), (2, 49, 0, 0), (2, 50, 0, 0), (2, 51, 0, 0), (2, 52, 0, 0), (2, 2, 0, 0), (2, 17, 0, 0), (2, 18, 0, 0), (2, 19, 0, 0)], [], [(15, 2, (18, 0)), (15, 1, (17, 0)), (15, 0, (16, 0)), (14, 1000, (0, 6)), (13, 1000, (0, 8)), (12, 1000, (0, 8)), (11, 1000, (0, 8)), (10, 1000, (0, 10)), (9, 1000, (0, 10)), (8, 1000, (0, 10)), (7, 1000, (0, 10)), (6, 1000, (0, 10)), (5, 1000, (0, 6)), (4, 1000, (0, 64))], [(3, 9, [(4, 0), (0, 0), (5, 0), (0, 0), (6, 0), (7, 0), (8, 0), (9, 0), (10, 0), (0, 0), (11, 0), (12, 0), (13, 0), (14, 0), (0, 0), (0, (-1)), (0, 7), (0, 0), (2, 0)])], [(0, (3, 0))], [(0, 3)], [18, 17, 16, 15, 14, 13, 12, 11, 10, 9, 8, 7, 6, 5, 4])
noncomputable def zR_w2 : zk_An := (115, ([(0, 0, 0, 0), (1, 0, 0, 0), (2, 0, (-1), (-1)), (3, 93, 0, 0), (2, 42, 0, 0), (2, 43, 0, 0), (2, 44, 0, 0), (2, 45, 0, 0), (2, 46, 0, 0), (2, 47, 0, 0), (2, 48, 0, 0), (2, 49, 0, 0), (2, 50, 0, 0), (2, 51, 0, 0), (2, 52, 0, 0), (2, 2, 0, 0), (2, 17, 0, 0), (2, 18, 0, 0), (2, 19, 0, 0)], [], [(15, 2, (18, 0)), (15, 1, (17, 0)), (15, 0, (16, 0)), (14, 1000, (0, 6)), (13, 1000, (0, 8)), (12, 1000, (0, 8)), (11, 1000, (0, 8)), (10, 1000, (0, 10)), (9, 1000, (0, 10)), (8, 1000, (0, 10)), (7, 1000, (0, 10)), (6, 1000, (0, 10)), (5, 1000, (0, 6)), (4, 1000, (0, 64))], [(3, 9, [(4, 0), (0, 0), (5, 0), (0, 0), (6, 0), (7, 0), (8, 0), (9, 0), (10, 0), (0, 0), (11, 0), (12, 0), (13, 0), (14, 0), (0, 0), (0, (-1)), (0, 7), (0, 0), (15, 0)])], [(0, (3, 0))], [(0, 3)], [18, 17, 16, 15, 14, 13, 12, 11, 10, 9, 8, 7, 6, 5, 4]), [], 15, 179, ((-1), []))
theorem zO_we : zk_s7 zt_types zt_dv [zK_ngo] [2] [(2, 57, 2)] (zk_Ke zK_ntw) (zk_Kr zK_ntw) 0 (.invokespecial 57) 3 109 zR_w1.2.1 zR_w1.2.2.1 12 157 = some [zO_w] := zh_oe (by decide +kernel)
noncomputable def zTW : List (Nat × Nat × Nat) := [(0, 30, 42), (2, 31, 43), (4, 32, 44), (5, 33, 45), (6, 34, 46), (7, 35, 47), (8, 36, 48), (10, 37, 49), (11, 38, 50), (12, 39, 51), (13, 40, 52), (18, 2, 2)]
/-- what a new town is -/
noncomputable def zB_ntw : zk_B := fun P G ps P' F' _ => (∀ a t k, P a = some t → zp_n F' a k = zp_n G a k) ∧ ∀ (a : Nat), ps = [(a : Int)] → ∃ b : Nat → Nat, (∀ q ∈ zTW, zp_n F' a q.1 = (b q.2.1 : Int) ∧ P' (b q.2.1) = some q.2.2 ∧ P (b q.2.1) = none) ∧ ∀ i : Nat, i < 3 → zp_n F' (b 2) i = (b (50 + i) : Int) ∧ P' (b (50 + i)) = some (17 + i) ∧ P (b (50 + i)) = none
set_option maxHeartbeats 4000000 in
theorem zX_ntw {l : Launch} {w : zk_W} (hW : zh_W w) : zk_metX l w zt_dv zt_TB zK_ntw zk_tA zB_ntw ∧ zk_cok w zt_TB zK_ntw := by
  have hw := hW.1
  have hCL := zq_note_ok zd_X9_init [(7, 42, []), (15, 43, []), (23, 44, []), (31, 45, []), (39, 46, []), (47, 47, []), (55, 48, []), (63, 49, []), (71, 50, []), (79, 51, []), (87, 52, [])]
  refine zh_methK hW (lk := [(7, 3, 0, 0, 0), (5, 1, 1, 0, 0), (2, 9, 9, 0, 18), (2, 15, 9, 2, 18), (2, 18, 9, 4, 18), (2, 21, 9, 5, 18), (2, 24, 9, 6, 18), (2, 27, 9, 7, 18), (2, 30, 9, 8, 18), (2, 33, 9, 10, 18), (2, 36, 9, 11, 18), (2, 39, 9, 12, 18), (4, 42, 8, 0, 0), (2, 44, 9, 13, 18), (2, 48, 9, 15, 0), (2, 52, 9, 16, 0), (3, 55, 2, 7, 0), (2, 58, 9, 18, 18)]) (KS := [zK_ngo]) (km := [2]) (lc := [(2, 57, 2)]) (K := zK_ntw) (pl := 148) (by decide +kernel) (by decide +kernel) (fun K h => by rw [List.mem_singleton.mp h]; exact zq_ngo hW) (fun p e R s m args below meth c Q P0 G0 ps X hx hb hps hE hQ H locs ls hG => ?_)
  refine zh_segC (K := zK_ntw) hx hb hE hCL (pc := 0) (st := []) (cu := 0) (su := 0) (sv := []) (AN := [zR_w1]) (fuel := 250) (by decide +kernel) hG trivial (fun A hA N P F H locs ls sv hG hS => ?_)
  obtain rfl := List.mem_singleton.mp hA
  refine zh_callC (K := zK_ntw) hx hb hE (zX_ngo hW) (mi := 2) rfl (i := .invokespecial 57) (len := 3) (pc := 109) zO_we (zd_X9_init (109, .invokespecial 57, 3, 0, []) (List.mem_of_getElem? (i := 55) rfl)) hG hS (fun y hy N2 P2 F2 H2 locs2 ls2 sv2 ps2 rn2 hp2 hB2 hN2 hG2 hS2 => ?_)
  obtain rfl := List.mem_singleton.mp hy
  have hlV : zO_w.2.1.1.length = 16 := rfl
  obtain ⟨g, hg, qg⟩ := zh_r (i := 15) (t := 2) hG2.1 rfl
  have hgt : ∀ (j : Nat) (v : Int), j < 16 → N2[j]? = some v → N[j]? = some v := fun j v hj h => by
    rcases hN2 with e | e
    · rw [e] at h
      exact h
    · rw [e, List.getElem?_append_left (by have := zk_all2_len hG.1; have e2 : zR_w1.2.1.1.length = 16 := rfl; omega)] at h
      exact h
  have hps2 : ps2 = [(g : Int)] := by
    have hp2 : zk_all2 (fun (q : zk_S) (n : Int) => ∃ k, N[q.1]? = some k ∧ n = k + q.2) [((15, 0) : zk_S)] ps2 := hp2
    obtain ⟨y1, rfl, k1, g1, g2⟩ := zp_ps1 hp2
    cases (hgt 15 _ (by decide) hg).symm.trans g1
    rw [g2]
    simp
  obtain ⟨b, hb3⟩ := hB2.2 g hps2
  obtain ⟨h0, q0, p0⟩ := hb3 0 (by decide)
  obtain ⟨h1, q1, p1⟩ := hb3 1 (by decide)
  obtain ⟨h2, q2, p2⟩ := hb3 2 (by decide)
  have hlN : N2.length = 16 := by rw [← zk_all2_len hG2.1]; rfl
  have hextP : ∀ a t, P0 a = some t → P a = some t := hG.2.2.2.2.2.2.1
  have hfP : ∀ x : Nat, P x = none → P0 x = none := fun x h => by
    cases h9 : P0 x with
    | none => rfl
    | some t9 => rw [hextP _ _ h9] at h; cases h
  obtain ⟨ro, fs0, T0, -, -, -, -, of0, -, -, vf0⟩ := zp_rdf (xs := []) (zp_wt.of hG2.2.2.2.2.1) hw qg (show zp_fd 2 0 = some (2, 2, 17, 0, 0) from rfl) (show (2 : Nat) ≤ 2 by decide)
  obtain ⟨r1, fs1, T1, -, -, -, -, of1, -, -, vf1⟩ := zp_rdf (xs := []) (zp_wt.of hG2.2.2.2.2.1) hw qg (show zp_fd 2 1 = some (2, 2, 18, 0, 0) from rfl) (show (2 : Nat) ≤ 2 by decide)
  obtain ⟨r2, fs2, T2, -, -, -, -, of2, -, -, vf2⟩ := zp_rdf (xs := []) (zp_wt.of hG2.2.2.2.2.1) hw qg (show zp_fd 2 2 = some (2, 2, 19, 0, 0) from rfl) (show (2 : Nat) ≤ 2 by decide)
  have hG3 := ((hG2.push (zp_o2 q0)).push (zp_o2 q1)).push (zp_o2 q2)
  have hN9 : ∀ {j : Nat} {v : Int}, N2[j]? = some v → (N2 ++ [(b 0 : Int)] ++ [(b 1 : Int)] ++ [(b 2 : Int)])[j]? = some v := fun h => zk_get_snoc (zk_get_snoc (zk_get_snoc h))
  have hNa : (N2 ++ [(b 0 : Int)] ++ [(b 1 : Int)] ++ [(b 2 : Int)])[16]? = some (b 0 : Int) := by rw [List.append_assoc, List.append_assoc, List.getElem?_append_right (by omega), hlN]; rfl
  have hNb : (N2 ++ [(b 0 : Int)] ++ [(b 1 : Int)] ++ [(b 2 : Int)])[17]? = some (b 1 : Int) := by rw [List.append_assoc, List.append_assoc, List.getElem?_append_right (by omega), hlN]; rfl
  have hNc : (N2 ++ [(b 0 : Int)] ++ [(b 1 : Int)] ++ [(b 2 : Int)])[18]? = some (b 2 : Int) := by rw [List.append_assoc, List.append_assoc, List.getElem?_append_right (by omega), hlN]; rfl
  have f0 : zk_fa1 zC_w.1 (N2 ++ [(b 0 : Int)] ++ [(b 1 : Int)] ++ [(b 2 : Int)]) P2 F2 15 0 (16, 0) := ⟨(g : Int), 2, _, hN9 hg, by omega, by rw [Int.toNat_natCast]; exact qg, by rw [Int.toNat_natCast, of0]; exact vf0, ⟨(2, 17, 0, 0), (b 0 : Int), rfl, hNa, trivial, by rw [Int.add_zero, h0]⟩⟩
  have f1 : zk_fa1 zC_w.1 (N2 ++ [(b 0 : Int)] ++ [(b 1 : Int)] ++ [(b 2 : Int)]) P2 F2 15 1 (17, 0) := ⟨(g : Int), 2, _, hN9 hg, by omega, by rw [Int.toNat_natCast]; exact qg, by rw [Int.toNat_natCast, of1]; exact vf1, ⟨(2, 18, 0, 0), (b 1 : Int), rfl, hNb, trivial, by rw [Int.add_zero, h1]⟩⟩
  have f2 : zk_fa1 zC_w.1 (N2 ++ [(b 0 : Int)] ++ [(b 1 : Int)] ++ [(b 2 : Int)]) P2 F2 15 2 (18, 0) := ⟨(g : Int), 2, _, hN9 hg, by omega, by rw [Int.toNat_natCast]; exact qg, by rw [Int.toNat_natCast, of2]; exact vf2, ⟨(2, 19, 0, 0), (b 2 : Int), rfl, hNc, trivial, by rw [Int.add_zero, h2]⟩⟩
  have hG4 := zh_addf (q := (15, 2, (18, 0))) (zh_addf (q := (15, 1, (17, 0))) (zh_addf (q := (15, 0, (16, 0))) hG3 f0) f1) f2
  have hG5 : zk_G w s (P0, G0, ps, zk_Ke zK_ntw, [], zK_ntw.2.2.1, X) zC_w (N2 ++ [(b 0 : Int)] ++ [(b 1 : Int)] ++ [(b 2 : Int)]) P2 F2 H2 locs2 ls2 := by
    obtain ⟨g1, g2, g3, g4, g5, g6, g7, g8, g9, g10, g11, g12, g13⟩ := hG4
    refine ⟨g1, g2, g3, g4, g5, g6, g7, g8, g9, g10, fun x hx9 => ?_, g12, g13⟩
    have hx9 : x ∈ (18 :: 17 :: 16 :: zO_w.2.1.2.2.2.2.2.2 : List Nat) := hx9
    rcases List.mem_cons.mp hx9 with rfl | hx9
    · exact ⟨_, hNc, by omega, by rw [Int.toNat_natCast]; exact hfP _ p2⟩
    rcases List.mem_cons.mp hx9 with rfl | hx9
    · exact ⟨_, hNb, by omega, by rw [Int.toNat_natCast]; exact hfP _ p1⟩
    rcases List.mem_cons.mp hx9 with rfl | hx9
    · exact ⟨_, hNa, by omega, by rw [Int.toNat_natCast]; exact hfP _ p0⟩
    exact g11 x hx9
  have hS5 : zk_all2 (zk_sv zC_w.1 (N2 ++ [(b 0 : Int)] ++ [(b 1 : Int)] ++ [(b 2 : Int)])) [(15, 0), (3, 0)] sv2 := zk_all2_imp (fun q v h => by
    obtain ⟨f9, n9, z1, z2, z3, z4⟩ := h
    exact ⟨f9, n9, zk_get_snoc (zk_get_snoc (zk_get_snoc z1)), hN9 z2, z3, z4⟩) hS2
  refine zh_segC (K := zK_ntw) hx hb hE hCL (pc := 112) (κ := zC_w) (st := [(15, 0), (3, 0)]) (cu := 15) (su := 179) (AN := [zR_w2]) (fuel := 120) (by decide +kernel) hG5 hS5 (fun A hA N P F H locs ls sv hG hS => ?_)
  obtain rfl := List.mem_singleton.mp hA
  refine zh_retC (K := zK_ntw) hx hb hE hQ rfl rfl (List.mem_singleton.mpr rfl) (zd_X9_init (115, .return_, 1, 0, []) (List.mem_of_getElem? (i := 57) rfl)) (by decide +kernel) (by decide +kernel) (by decide +kernel) hG hS (fun z f n fs hz hf hn hnP hfs => ?_)
  have hV := hG.1
  have hF := hG.2.2.1
  have hef : zk_ef [] ps P0 G0 F := hG.2.2.2.2.2.2.2.1
  have hext : ∀ a t, P0 a = some t → P a = some t := hG.2.2.2.2.2.2.1
  have hfr : zk_fr N P0 [18, 17, 16, 15, 14, 13, 12, 11, 10, 9, 8, 7, 6, 5, 4] := hG.2.2.2.2.2.2.2.2.2.2.1
  obtain rfl := (List.cons.inj hz).1
  have hf : some ((3, 93, 0, 0) : zk_F) = some f := hf
  obtain rfl := Option.some.inj hf
  refine ⟨zp_n_new hef hext hnP, fun a hps2 => ?_⟩
  subst hps2
  have hn : some (a : Int) = some (n : Int) := hn
  obtain rfl : a = n := by have := Option.some.inj hn; omega
  obtain ⟨b30, hb30, qb30⟩ := zh_r (i := 4) (t := 42) hV rfl
  have nb30 : b30 ≠ a := fun e => by rw [e, hnP] at qb30; cases qb30
  obtain ⟨v30, x30, sv30⟩ := zk_all2_get hfs (i := 0) rfl
  obtain ⟨b31, hb31, qb31⟩ := zh_r (i := 5) (t := 43) hV rfl
  have nb31 : b31 ≠ a := fun e => by rw [e, hnP] at qb31; cases qb31
  obtain ⟨v31, x31, sv31⟩ := zk_all2_get hfs (i := 2) rfl
  obtain ⟨b32, hb32, qb32⟩ := zh_r (i := 6) (t := 44) hV rfl
  have nb32 : b32 ≠ a := fun e => by rw [e, hnP] at qb32; cases qb32
  obtain ⟨v32, x32, sv32⟩ := zk_all2_get hfs (i := 4) rfl
  obtain ⟨b33, hb33, qb33⟩ := zh_r (i := 7) (t := 45) hV rfl
  have nb33 : b33 ≠ a := fun e => by rw [e, hnP] at qb33; cases qb33
  obtain ⟨v33, x33, sv33⟩ := zk_all2_get hfs (i := 5) rfl
  obtain ⟨b34, hb34, qb34⟩ := zh_r (i := 8) (t := 46) hV rfl
  have nb34 : b34 ≠ a := fun e => by rw [e, hnP] at qb34; cases qb34
  obtain ⟨v34, x34, sv34⟩ := zk_all2_get hfs (i := 6) rfl
  obtain ⟨b35, hb35, qb35⟩ := zh_r (i := 9) (t := 47) hV rfl
  have nb35 : b35 ≠ a := fun e => by rw [e, hnP] at qb35; cases qb35
  obtain ⟨v35, x35, sv35⟩ := zk_all2_get hfs (i := 7) rfl
  obtain ⟨b36, hb36, qb36⟩ := zh_r (i := 10) (t := 48) hV rfl
  have nb36 : b36 ≠ a := fun e => by rw [e, hnP] at qb36; cases qb36
  obtain ⟨v36, x36, sv36⟩ := zk_all2_get hfs (i := 8) rfl
  obtain ⟨b37, hb37, qb37⟩ := zh_r (i := 11) (t := 49) hV rfl
  have nb37 : b37 ≠ a := fun e => by rw [e, hnP] at qb37; cases qb37
  obtain ⟨v37, x37, sv37⟩ := zk_all2_get hfs (i := 10) rfl
  obtain ⟨b38, hb38, qb38⟩ := zh_r (i := 12) (t := 50) hV rfl
  have nb38 : b38 ≠ a := fun e => by rw [e, hnP] at qb38; cases qb38
  obtain ⟨v38, x38, sv38⟩ := zk_all2_get hfs (i := 11) rfl
  obtain ⟨b39, hb39, qb39⟩ := zh_r (i := 13) (t := 51) hV rfl
  have nb39 : b39 ≠ a := fun e => by rw [e, hnP] at qb39; cases qb39
  obtain ⟨v39, x39, sv39⟩ := zk_all2_get hfs (i := 12) rfl
  obtain ⟨b40, hb40, qb40⟩ := zh_r (i := 14) (t := 52) hV rfl
  have nb40 : b40 ≠ a := fun e => by rw [e, hnP] at qb40; cases qb40
  obtain ⟨v40, x40, sv40⟩ := zk_all2_get hfs (i := 13) rfl
  obtain ⟨b2, hb2, qb2⟩ := zh_r (i := 15) (t := 2) hV rfl
  have nb2 : b2 ≠ a := fun e => by rw [e, hnP] at qb2; cases qb2
  obtain ⟨v2, x2, sv2⟩ := zk_all2_get hfs (i := 18) rfl
  obtain ⟨b50, hb50, qb50⟩ := zh_r (i := 16) (t := 17) hV rfl
  have nb50 : b50 ≠ a := fun e => by rw [e, hnP] at qb50; cases qb50
  obtain ⟨y50, hy50, sy50⟩ := zh_rdf hF (x := 15) (k := 0) (List.mem_of_getElem? (i := 2) rfl) hb2
  obtain ⟨b51, hb51, qb51⟩ := zh_r (i := 17) (t := 18) hV rfl
  have nb51 : b51 ≠ a := fun e => by rw [e, hnP] at qb51; cases qb51
  obtain ⟨y51, hy51, sy51⟩ := zh_rdf hF (x := 15) (k := 1) (List.mem_of_getElem? (i := 1) rfl) hb2
  obtain ⟨b52, hb52, qb52⟩ := zh_r (i := 18) (t := 19) hV rfl
  have nb52 : b52 ≠ a := fun e => by rw [e, hnP] at qb52; cases qb52
  obtain ⟨y52, hy52, sy52⟩ := zh_rdf hF (x := 15) (k := 2) (List.mem_of_getElem? (i := 0) rfl) hb2
  refine ⟨fun i => if i = 30 then b30 else if i = 31 then b31 else if i = 32 then b32 else if i = 33 then b33 else if i = 34 then b34 else if i = 35 then b35 else if i = 36 then b36 else if i = 37 then b37 else if i = 38 then b38 else if i = 39 then b39 else if i = 40 then b40 else if i = 2 then b2 else if i = 50 then b50 else if i = 51 then b51 else b52, fun q hq => ?_, fun i hi => ?_⟩
  · have hq : q = (0, 30, 42) ∨ q = (2, 31, 43) ∨ q = (4, 32, 44) ∨ q = (5, 33, 45) ∨ q = (6, 34, 46) ∨ q = (7, 35, 47) ∨ q = (8, 36, 48) ∨ q = (10, 37, 49) ∨ q = (11, 38, 50) ∨ q = (12, 39, 51) ∨ q = (13, 40, 52) ∨ q = (18, 2, 2) := by simpa [zTW] using hq
    rcases hq with rfl | rfl | rfl | rfl | rfl | rfl | rfl | rfl | rfl | rfl | rfl | rfl
    · refine ⟨?_, ?_, ?_⟩
      · show zp_n _ a 0 = (b30 : Int)
        rw [zp_n_upo x30, zh_vr (x := 4) (t := 42) sv30 rfl hb30]
        rfl
      · show zk_up P a _ b30 = _
        rw [zk_up_ne nb30]
        exact qb30
      · exact zB_fr hfr (x := 4) (by decide) hb30
    · refine ⟨?_, ?_, ?_⟩
      · show zp_n _ a 2 = (b31 : Int)
        rw [zp_n_upo x31, zh_vr (x := 5) (t := 43) sv31 rfl hb31]
        rfl
      · show zk_up P a _ b31 = _
        rw [zk_up_ne nb31]
        exact qb31
      · exact zB_fr hfr (x := 5) (by decide) hb31
    · refine ⟨?_, ?_, ?_⟩
      · show zp_n _ a 4 = (b32 : Int)
        rw [zp_n_upo x32, zh_vr (x := 6) (t := 44) sv32 rfl hb32]
        rfl
      · show zk_up P a _ b32 = _
        rw [zk_up_ne nb32]
        exact qb32
      · exact zB_fr hfr (x := 6) (by decide) hb32
    · refine ⟨?_, ?_, ?_⟩
      · show zp_n _ a 5 = (b33 : Int)
        rw [zp_n_upo x33, zh_vr (x := 7) (t := 45) sv33 rfl hb33]
        rfl
      · show zk_up P a _ b33 = _
        rw [zk_up_ne nb33]
        exact qb33
      · exact zB_fr hfr (x := 7) (by decide) hb33
    · refine ⟨?_, ?_, ?_⟩
      · show zp_n _ a 6 = (b34 : Int)
        rw [zp_n_upo x34, zh_vr (x := 8) (t := 46) sv34 rfl hb34]
        rfl
      · show zk_up P a _ b34 = _
        rw [zk_up_ne nb34]
        exact qb34
      · exact zB_fr hfr (x := 8) (by decide) hb34
    · refine ⟨?_, ?_, ?_⟩
      · show zp_n _ a 7 = (b35 : Int)
        rw [zp_n_upo x35, zh_vr (x := 9) (t := 47) sv35 rfl hb35]
        rfl
      · show zk_up P a _ b35 = _
        rw [zk_up_ne nb35]
        exact qb35
      · exact zB_fr hfr (x := 9) (by decide) hb35
    · refine ⟨?_, ?_, ?_⟩
      · show zp_n _ a 8 = (b36 : Int)
        rw [zp_n_upo x36, zh_vr (x := 10) (t := 48) sv36 rfl hb36]
        rfl
      · show zk_up P a _ b36 = _
        rw [zk_up_ne nb36]
        exact qb36
      · exact zB_fr hfr (x := 10) (by decide) hb36
    · refine ⟨?_, ?_, ?_⟩
      · show zp_n _ a 10 = (b37 : Int)
        rw [zp_n_upo x37, zh_vr (x := 11) (t := 49) sv37 rfl hb37]
        rfl
      · show zk_up P a _ b37 = _
        rw [zk_up_ne nb37]
        exact qb37
      · exact zB_fr hfr (x := 11) (by decide) hb37
    · refine ⟨?_, ?_, ?_⟩
      · show zp_n _ a 11 = (b38 : Int)
        rw [zp_n_upo x38, zh_vr (x := 12) (t := 50) sv38 rfl hb38]
        rfl
      · show zk_up P a _ b38 = _
        rw [zk_up_ne nb38]
        exact qb38
      · exact zB_fr hfr (x := 12) (by decide) hb38
    · refine ⟨?_, ?_, ?_⟩
      · show zp_n _ a 12 = (b39 : Int)
        rw [zp_n_upo x39, zh_vr (x := 13) (t := 51) sv39 rfl hb39]
        rfl
      · show zk_up P a _ b39 = _
        rw [zk_up_ne nb39]
        exact qb39
      · exact zB_fr hfr (x := 13) (by decide) hb39
    · refine ⟨?_, ?_, ?_⟩
      · show zp_n _ a 13 = (b40 : Int)
        rw [zp_n_upo x40, zh_vr (x := 14) (t := 52) sv40 rfl hb40]
        rfl
      · show zk_up P a _ b40 = _
        rw [zk_up_ne nb40]
        exact qb40
      · exact zB_fr hfr (x := 14) (by decide) hb40
    · refine ⟨?_, ?_, ?_⟩
      · show zp_n _ a 18 = (b2 : Int)
        rw [zp_n_upo x2, zh_vr (x := 15) (t := 2) sv2 rfl hb2]
        rfl
      · show zk_up P a _ b2 = _
        rw [zk_up_ne nb2]
        exact qb2
      · exact zB_fr hfr (x := 15) (by decide) hb2
  · have hi3 : i = 0 ∨ i = 1 ∨ i = 2 := by omega
    rcases hi3 with rfl | rfl | rfl
    · refine ⟨?_, ?_, ?_⟩
      · show zp_n _ b2 0 = (b50 : Int)
        rw [zp_n_up nb2, zC_num hy50, zh_vr (x := 16) (t := 17) sy50 rfl hb50]
        rfl
      · show zk_up P a _ b50 = _
        rw [zk_up_ne nb50]
        exact qb50
      · exact zB_fr hfr (x := 16) (by decide) hb50
    · refine ⟨?_, ?_, ?_⟩
      · show zp_n _ b2 1 = (b51 : Int)
        rw [zp_n_up nb2, zC_num hy51, zh_vr (x := 17) (t := 18) sy51 rfl hb51]
        rfl
      · show zk_up P a _ b51 = _
        rw [zk_up_ne nb51]
        exact qb51
      · exact zB_fr hfr (x := 17) (by decide) hb51
    · refine ⟨?_, ?_, ?_⟩
      · show zp_n _ b2 2 = (b52 : Int)
        rw [zp_n_up nb2, zC_num hy52, zh_vr (x := 18) (t := 19) sy52 rfl hb52]
        rfl
      · show zk_up P a _ b52 = _
        rw [zk_up_ne nb52]
        exact qb52
      · exact zB_fr hfr (x := 18) (by decide) hb52
