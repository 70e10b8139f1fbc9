/-! part 32: reckonAll (by a law of the row), by hand between segments -/
noncomputable def zK_rk : zk_K := (zt_mn 243, prog_14_method_65_code, 7, (Option.none : Option Jvm.ClassFile.FieldType), 1, 12, [(2, 13, 0, 0), (0, 0, 0, 400), (0, 0, 0, 400)], [(none, [])], [(13, 38, 0), (13, 39, 0), (77, 1001, 0)], (1, 25, 0, 0))
noncomputable def zr_ns : List (Nat × Nat × List (Nat × Int × Nat)) := [(289, 1, [])]
noncomputable def zr_CL : List zk_Ci := zc_X12_reckonAll.map (zq_note zr_ns)
noncomputable def zr_E : zk_Ev := (zt_types, [(2, 388, 12, 38, 3), (2, 319, 12, 20, 3), (2, 45, 12, 24, 18), (2, 13, 12, 3, 18), (2, 391, 12, 34, 0), (2, 48, 12, 25, 18), (2, 107, 12, 37, 18), (2, 101, 12, 35, 18), (2, 104, 12, 36, 18), (1, 267, 0, 0, (-1)), (1, 398, 0, 0, (-1000000000)), (1, 400, 0, 0, 1000000000), (2, 402, 12, 39, 1)], zt_dv, [zK_1142, zK_1143], [244, 186], [(0, 201, 193), (0, 207, 195), (0, 217, 200), (0, 188, 196), (0, 394, 244), (1, 181, 186)], zK_rk)
noncomputable def zr_eff : List (Nat × Nat × Nat) := [(13, 38, 0), (13, 39, 0), (77, 1001, 0)]
theorem zr_eok : ∀ e ∈ zr_eff, e ∈ zr_eff ∧ e.2.2 = 0 := by decide
noncomputable def zr_KH : zk_C := ([(0, 0, 0, 0), (1, 0, 0, 0), (2, 0, (-1), (-1)), (2, 13, 0, 0), (0, 0, 0, 400), (0, 0, 0, 400), (0, 0, 0, 400), (0, 0, 0, 4680), (2, 59, 0, 0)], [], [(3, 20, (0, 0)), (3, 3, (8, 0)), (3, 34, (7, 0))], [], [(0, (3, 0)), (2, (4, 0)), (3, (5, 0)), (4, (6, 0))], [], [])
noncomputable def zr_K0 : zk_C := ([(0, 0, 0, 0), (1, 0, 0, 0), (2, 0, (-1), (-1)), (2, 13, 0, 0), (0, 0, 0, 400), (0, 0, 0, 400), (0, 0, 0, 4680), (2, 59, 0, 0)], [], [(3, 20, (0, 0)), (3, 3, (7, 0)), (3, 34, (6, 0))], [], [(0, (3, 0)), (1, (4, 0)), (2, (5, 0))], [(0, 3), (1, 4), (2, 5), (3, 6), (4, 7)], [])
noncomputable def zr_A10 : zk_An := (10, ([(0, 0, 0, 0), (1, 0, 0, 0), (2, 0, (-1), (-1)), (2, 13, 0, 0), (0, 0, 0, 400), (0, 0, 0, 400), (0, 0, 0, 4680), (2, 59, 0, 0)], [], [(3, 38, (0, 0)), (3, 20, (0, 0)), (3, 3, (7, 0)), (3, 34, (6, 0))], [], [(4, (4, 0)), (3, (0, 0)), (0, (3, 0)), (2, (5, 0))], [(0, 3), (1, 4), (2, 5), (3, 6), (4, 7)], []), [], 0, 0, (0, []))
noncomputable def zr_A54 : zk_An := (54, ([(0, 0, 0, 0), (1, 0, 0, 0), (2, 0, (-1), (-1)), (2, 13, 0, 0), (0, 0, 1, 400), (0, 0, 0, 400), (0, 0, 0, 399), (0, 0, 0, 4680), (2, 59, 0, 0), (0, 0, 0, 0)], [(6, 4, (-1))], [(3, 38, (9, 0)), (3, 20, (0, 0)), (3, 3, (8, 0)), (3, 34, (7, 0))], [], [(0, (3, 0)), (2, (4, 0)), (3, (5, 0)), (4, (6, 0))], [(0, 3), (1, 4), (2, 5), (3, 6), (4, 7), (5, 8)], []), [(6, 0), (0, 2), (7, 98), (8, 0)], 0, 0, (0, []))
noncomputable def zr_A371 : zk_An := (371, ([(0, 0, 0, 0), (1, 0, 0, 0), (2, 0, (-1), (-1)), (2, 13, 0, 0), (0, 0, 0, 400), (0, 0, 0, 400), (0, 0, 0, 400), (0, 0, 0, 4680), (2, 59, 0, 0)], [], [(3, 20, (0, 0)), (3, 3, (8, 0)), (3, 34, (7, 0))], [], [(0, (3, 0)), (3, (5, 0))], [(0, 3), (1, 4), (2, 5), (3, 6), (4, 7), (5, 8)], []), [], 0, 0, (0, []))
noncomputable def zr_A90 : zk_An := (90, ([(0, 0, 0, 0), (1, 0, 0, 0), (2, 0, (-1), (-1)), (2, 13, 0, 0), (0, 0, 1, 400), (0, 0, 0, 400), (0, 0, 0, 399), (0, 0, 0, 4680), (2, 59, 0, 0), (0, 0, (-2147483648), 2147483647), (0, 0, 0, 0)], [(6, 4, (-1))], [(3, 38, (10, 0)), (3, 20, (0, 0)), (3, 3, (8, 0)), (3, 34, (7, 0))], [], [(5, (9, 0)), (0, (3, 0)), (2, (4, 0)), (3, (5, 0)), (4, (6, 0))], [(0, 3), (1, 4), (2, 5), (3, 6), (4, 7), (5, 8), (6, 9)], []), [(6, 0), (0, 2), (7, 98), (8, 0)], 0, 0, (0, []))
theorem zr_hCL : ∀ q ∈ zr_CL, decode prog_14_method_65_code q.1 = .ok (q.2.1, q.2.2.1) := zq_note_ok zd_X12_reckonAll zr_ns
noncomputable def zr_H : zk_An := (10, zr_KH, [], 0, 0, (0, []))
noncomputable def zr_Ba0 : zk_An := (10, ([(0, 0, 0, 0), (1, 0, 0, 0), (2, 0, (-1), (-1)), (2, 13, 0, 0), (0, 0, 1, 400), (0, 0, 0, 399), (0, 0, 0, 399), (0, 0, 0, 4680), (2, 59, 0, 0), (0, 0, 0, 12), (0, 0, (-2147483648), 2147483647), (2, 77, 0, 0), (0, 0, 0, 0)], [(6, 4, (-1))], [(3, 37, (11, 0)), (3, 38, (12, 0)), (3, 20, (0, 0)), (3, 3, (8, 0)), (3, 34, (7, 0))], [], [(3, (5, 1)), (4, (6, 1)), (0, (3, 0)), (2, (4, 0))], [(0, 3), (1, 4), (2, 5), (3, 6), (4, 7), (5, 8), (6, 9), (7, 10)], []), [], 0, 0, (0, []))
noncomputable def zr_Bb0 : zk_An := (10, ([(0, 0, 0, 0), (1, 0, 0, 0), (2, 0, (-1), (-1)), (2, 13, 0, 0), (0, 0, 1, 400), (0, 0, 2, 400), (0, 0, 0, 399), (0, 0, 0, 4680), (2, 59, 0, 0), (0, 0, 20, 27), (0, 0, (-2147483648), 2147483647), (0, 0, 0, 1), (2, 77, 0, 0)], [(6, 4, (-1))], [(3, 38, (11, 0)), (3, 37, (12, 0)), (3, 20, (0, 0)), (3, 3, (8, 0)), (3, 34, (7, 0))], [], [(3, (5, (-1))), (4, (6, 1)), (0, (3, 0)), (2, (4, 0))], [(0, 3), (1, 4), (2, 5), (3, 6), (4, 7), (5, 8), (6, 9), (7, 10)], []), [], 0, 0, (0, []))
noncomputable def zr_Bc0 : zk_An := (10, ([(0, 0, 0, 0), (1, 0, 0, 0), (2, 0, (-1), (-1)), (2, 13, 0, 0), (0, 0, 1, 400), (0, 0, 1, 400), (0, 0, 0, 399), (0, 0, 0, 4680), (2, 59, 0, 0), (0, 0, 28, 28), (0, 0, (-2147483648), 2147483647), (2, 77, 0, 0), (0, 0, 0, 0)], [(6, 4, (-1))], [(3, 37, (11, 0)), (3, 38, (12, 0)), (3, 20, (0, 0)), (3, 3, (8, 0)), (3, 34, (7, 0))], [], [(4, (6, 1)), (0, (3, 0)), (2, (4, 0)), (3, (5, 0))], [(0, 3), (1, 4), (2, 5), (3, 6), (4, 7), (5, 8), (6, 9), (7, 10)], []), [], 0, 0, (0, []))
noncomputable def zr_Bd0 : zk_An := (10, ([(0, 0, 0, 0), (1, 0, 0, 0), (2, 0, (-1), (-1)), (2, 13, 0, 0), (0, 0, 1, 400), (0, 0, 1, 400), (0, 0, 0, 399), (0, 0, 0, 4680), (2, 59, 0, 0), (0, 0, 29, 2147483647), (0, 0, 0, 400), (2, 77, 0, 0), (0, 0, 0, 0)], [(6, 4, (-1))], [(3, 37, (11, 0)), (3, 38, (12, 0)), (3, 20, (0, 0)), (3, 3, (8, 0)), (3, 34, (7, 0))], [], [(3, (5, (-1))), (4, (6, 1)), (0, (3, 0)), (2, (4, 0))], [(0, 3), (1, 4), (2, 5), (3, 6), (4, 7), (5, 8), (6, 9), (7, 10)], []), [], 0, 0, (0, []))
noncomputable def zr_Bd1 : zk_An := (10, ([(0, 0, 0, 0), (1, 0, 0, 0), (2, 0, (-1), (-1)), (2, 13, 0, 0), (0, 0, 1, 400), (0, 0, 1, 400), (0, 0, 0, 399), (0, 0, 0, 4680), (2, 59, 0, 0), (0, 0, 29, 2147483647), (0, 0, 0, 400), (2, 77, 0, 0), (0, 0, 0, 0)], [(6, 4, (-1))], [(3, 37, (11, 0)), (3, 38, (12, 0)), (3, 20, (0, 0)), (3, 3, (8, 0)), (3, 34, (7, 0))], [], [(4, (10, 0)), (0, (3, 0)), (2, (4, 0)), (3, (5, 0))], [(0, 3), (1, 4), (2, 5), (3, 6), (4, 7), (5, 8), (6, 9), (7, 10)], []), [], 0, 0, (0, []))
section ZK52
variable {p : Program} {l : Launch} {e : Env} {R : Room} {s : State} {m : MethodId} {args : Array Value} {below : List Frame} {meth : Method} {c : Code} {Q : State → Prop}
variable {cc : ByteArray} {w : zk_W} {u : zk_M} {Ts : List Jvm.Cond} {own : String}
theorem zr_head (hx : p.tables.exec = Jvm.exec) (hb : c.code = cc) (hcc : cc = prog_14_method_65_code) {X : Nat → Prop} {P0 : Nat → Option Nat} {G0 : Nat → va_E} {ps : List Int} (hE : zh_E l R s m args meth c w zr_E P0 X) (hQ : Q = MQ below (fun _ st o t => zk_post w zK_rk P0 G0 ps st t o) args s (zk_Kr zK_rk).2.2.1 (zk_Kr zK_rk).2.2.2 (fun q => w.2.2.2.1 ≤ q)) (hpl : ps.length = 3) {r a : Nat} {cA : ClassId} {nr : Nat} {f : Nat → Int32} (hr : P0 r = some 59) (hf : G0 r = .inl (cA, nr, .inl f)) (hnr : 5580 ≤ nr) {L first last : Int} (hL : 0 ≤ L) (hL2 : L ≤ 4680) (hfi : 0 ≤ first) (hla : last ≤ 400) {d : Nat → Nat} (hd : ∀ q, first.toNat ≤ q → q < last.toNat → zk_ops d last.toNat q (f (L.toNat + 98 + 2 * q)).toInt (f (L.toNat + 98 + 2 * q + 1)).toInt) (hdq : ∀ q, first.toNat ≤ q → q ≤ last.toNat → d q ≤ q) (hw : w.1 = zt_types) :
    ∀ (j : Nat) (N : List Int) (P : Nat → Option Nat) (F : Nat → va_E) (H : Heap) (locs : List Loc) (ls : Array Slot) (nn k : Int), zk_G w s (P0, G0, ps, zr_eff, [], 7, X) zr_KH N P F H locs ls → N[3]? = some (a : Int) → N[4]? = some last → N[5]? = some nn → N[6]? = some k → N[7]? = some L → N[8]? = some (r : Int) → (last - k).toNat < j → (k < last → first ≤ k ∧ nn = (d k.toNat : Int)) → W p l e R s m args below meth c H locs 0 0 Q (F0 m 10 ls []) := by
  subst hcc
  intro j
  induction j with
  | zero => intro N P F H locs ls nn k hG e3 e4 e5 e6 e7 e8 hj; exact absurd hj (Nat.not_lt_zero _)
  | succ j ih =>
    intro N P F H locs ls nn k hG e3 e4 e5 e6 e7 e8 hj hinv
    have hext := hG.2.2.2.2.2.2.1
    have hef := hG.2.2.2.2.2.2.2.1
    have hpa : zk_pa N [(a : Int), last, nn, k, L, (r : Int)] [(0, 3), (1, 4), (2, 5), (3, 6), (4, 7), (5, 8)] := by
      intro q hq
      simp only [List.mem_cons, List.not_mem_nil, or_false] at hq
      rcases hq with rfl | rfl | rfl | rfl | rfl | rfl
      · exact ⟨_, e3, rfl⟩
      · exact ⟨_, e4, rfl⟩
      · exact ⟨_, e5, rfl⟩
      · exact ⟨_, e6, rfl⟩
      · exact ⟨_, e7, rfl⟩
      · exact ⟨_, e8, rfl⟩
    refine zh_seg hx hb hE (kp' := [(0, 0, 0, 0), (0, 0, 0, 0), (0, 0, 0, 0), (0, 0, 0, 0), (0, 0, 0, 0), (0, 0, 0, 0)]) (eff := zr_eff) rfl zr_hCL (AL := []) (AN := [zr_A54, zr_A371]) (fuel := 400) (by decide +kernel) hext (zh_reb hG hpa) zh_nil (fun A hA => Or.inr (fun N' P' F' H' locs' ls' sv' hG' hS' => ?_))
    have hext' := hG'.2.2.2.2.2.2.1
    have hef' : zk_ef zr_eff ps P0 G0 F' := zh_ef hef hG'.2.2.2.2.2.2.2.1 hext zr_eok zr_eok
    have hextP : ∀ a t, P0 a = some t → P' a = some t := fun a t h => hext' a t (hext a t h)
    simp only [List.mem_cons, List.not_mem_nil, or_false] at hA
    rcases hA with rfl | rfl
    rotate_left
    · exact zh_tail hx hb hE hQ hpl zr_hCL (fuel := 400) (by decide +kernel) (zh_back hG' hext hef' (pa := []) (fun q hq => absurd hq List.not_mem_nil)) hS'
    · have hp' := hG'.2.2.2.2.2.2.2.2.2.1
      have g0 : N'[3]? = some (a : Int) := zh_pa hp' (j := 0) (by decide) rfl
      have g1 : N'[4]? = some last := zh_pa hp' (j := 1) (by decide) rfl
      have g2 : N'[5]? = some nn := zh_pa hp' (j := 2) (by decide) rfl
      have g3 : N'[6]? = some k := zh_pa hp' (j := 3) (by decide) rfl
      have g4 : N'[7]? = some L := zh_pa hp' (j := 4) (by decide) rfl
      have g5 : N'[8]? = some (r : Int) := zh_pa hp' (j := 5) (by decide) rfl
      obtain ⟨v1, s1, rfl, q1, hS1⟩ := zk_all2_cons hS'
      obtain ⟨v2, s2, rfl, q2, hS2⟩ := zk_all2_cons hS1
      obtain ⟨v3, s3, rfl, q3, hS3⟩ := zk_all2_cons hS2
      obtain ⟨v4, s4, rfl, q4, hS4⟩ := zk_all2_cons hS3
      match s4, hS4 with
      | [], _ =>
      obtain ⟨rfl, -⟩ := zh_vi (t := 0) q1 rfl g3
      obtain ⟨rfl, -⟩ := zh_vi (t := 0) q2 rfl (zk_c0 hG'.1 rfl)
      obtain ⟨rfl, -⟩ := zh_vi (t := 0) q3 rfl g4
      obtain rfl := zh_vr q4 rfl g5
      have hk0 : 0 ≤ k ∧ k < last := by
        obtain ⟨m6, z1, z2, z3⟩ := zh_i hG'.1 (i := 6) rfl
        have hdd := zh_d hG'.2.1 (x := 6) (y := 4) (d := -1) (by decide) g3 g1
        rw [g3] at z1
        cases z1
        omega
      obtain ⟨i1, i2⟩ := hinv hk0.2
      obtain ⟨cA', n', f', o1, o2, o3, o4, o5, o6, o7⟩ := zk_iarr hG'.2.2.2.2.1 (hextP r 59 hr) (T := zt_types.getD 59 (0, 0, 0, [])) (by rw [hw]; rfl) (Or.inl rfl)
      obtain ⟨y1, y2⟩ := zh_same hef' hr (by decide) hf o1
      refine zw_bin (o := 2) hx hb rfl (zr_hCL (54, .imul, 1, 0, []) (List.mem_of_getElem? (i := 29) rfl)) (fun h => absurd h (by decide)) ?_
      refine zw_bin (o := 0) hx hb rfl (zr_hCL (55, .iadd, 1, 0, []) (List.mem_of_getElem? (i := 30) rfl)) (fun h => absurd h (by decide)) ?_
      have e55 : zk_bn 0 (Int32.ofInt (L + 98)) (zk_bn 2 (Int32.ofInt (0 + 2)) (Int32.ofInt (k + 0))) = Int32.ofInt (L + 98 + 2 * k) := by
        show Int32.ofInt (L + 98) + Int32.ofInt (0 + 2) * Int32.ofInt (k + 0) = _
        rw [← Int32.ofInt_mul, ← Int32.ofInt_add]
        congr 1
        omega
      rw [e55]
      have hrg : zk_rg 0 (L + 98 + 2 * k) := ⟨by omega, by omega⟩
      have hix : (Int32.ofInt (L + 98 + 2 * k)).toNatClampNeg = L.toNat + 98 + 2 * k.toNat := by
        show (Int32.ofInt (L + 98 + 2 * k)).toInt.toNat = _
        rw [zk_i32 hrg]
        omega
      refine zw_iald hx hb o6 (by have := o4; exact this) (zh_in hrg (by omega) (by omega)) (zr_hCL (56, .iaload, 1, 0, []) (List.mem_of_getElem? (i := 31) rfl)) ?_
      rw [hix, y2 _ (by omega)]
      have hop0 := zk_to32 (f (L.toNat + 98 + 2 * k.toNat))
      have hGo := zk_G.push hG' (f := (0, 0, -2147483648, 2147483647)) (n := (f (L.toNat + 98 + 2 * k.toNat)).toInt) (zh_ok32 hop0.1)
      have hSo := zk_sv_last hG'.1 (f := (0, 0, -2147483648, 2147483647)) (n := (f (L.toNat + 98 + 2 * k.toNat)).toInt) (zh_ok32 hop0.1)
      generalize hop : (f (L.toNat + 98 + 2 * k.toNat)).toInt = op at hGo hSo
      have hvo : Value.int (f (L.toNat + 98 + 2 * k.toNat)) = zk_mk 0 op := by rw [← hop]; exact congrArg Value.int hop0.2
      rw [hvo]
      have hpaO : zk_pa (N' ++ [op]) [(a : Int), last, nn, k, L, (r : Int), op] [(0, 3), (1, 4), (2, 5), (3, 6), (4, 7), (5, 8), (6, 10)] := by
        intro q hq
        simp only [List.mem_cons, List.not_mem_nil, or_false] at hq
        have hlN := zk_all2_len hG'.1
        rcases hq with rfl | rfl | rfl | rfl | rfl | rfl | rfl
        · exact ⟨_, zk_get_snoc g0, rfl⟩
        · exact ⟨_, zk_get_snoc g1, rfl⟩
        · exact ⟨_, zk_get_snoc g2, rfl⟩
        · exact ⟨_, zk_get_snoc g3, rfl⟩
        · exact ⟨_, zk_get_snoc g4, rfl⟩
        · exact ⟨_, zk_get_snoc g5, rfl⟩
        · exact ⟨_, by show (N' ++ [op])[zr_A54.2.1.1.length]? = _; rw [hlN]; exact zk_get_last, rfl⟩
      refine zh_seg hx hb hE (kp' := [(0, 0, 0, 0), (0, 0, 0, 0), (0, 0, 0, 0), (0, 0, 0, 0), (0, 0, 0, 0), (0, 0, 0, 0), (0, 0, 0, 0)]) (eff := zr_eff) rfl zr_hCL (AL := []) (AN := [zr_A90]) (fuel := 400) (by decide +kernel) hextP (zh_reb hGo hpaO) (zh_one hSo) (fun A hA => Or.inr (fun N2 P2 F2 H2 locs2 ls2 sv2 hG2 hS2 => ?_))
      obtain rfl := List.mem_singleton.mp hA
      have hext2 := hG2.2.2.2.2.2.2.1
      have hef2 : zk_ef zr_eff ps P0 G0 F2 := zh_ef hef' hG2.2.2.2.2.2.2.2.1 hextP zr_eok zr_eok
      have hextP2 : ∀ a t, P0 a = some t → P2 a = some t := fun a t h => hext2 a t (hextP a t h)
      have hp2 := hG2.2.2.2.2.2.2.2.2.2.1
      have b0 : N2[3]? = some (a : Int) := zh_pa hp2 (j := 0) (by decide) rfl
      have b1 : N2[4]? = some last := zh_pa hp2 (j := 1) (by decide) rfl
      have b2 : N2[5]? = some nn := zh_pa hp2 (j := 2) (by decide) rfl
      have b3 : N2[6]? = some k := zh_pa hp2 (j := 3) (by decide) rfl
      have b4 : N2[7]? = some L := zh_pa hp2 (j := 4) (by decide) rfl
      have b5 : N2[8]? = some (r : Int) := zh_pa hp2 (j := 5) (by decide) rfl
      have b6 : N2[9]? = some op := zh_pa hp2 (j := 6) (by decide) rfl
      obtain ⟨yv1, ys1, rfl, yq1, yS1⟩ := zk_all2_cons hS2
      obtain ⟨yv2, ys2, rfl, yq2, yS2⟩ := zk_all2_cons yS1
      obtain ⟨yv3, ys3, rfl, yq3, yS3⟩ := zk_all2_cons yS2
      obtain ⟨yv4, ys4, rfl, yq4, yS4⟩ := zk_all2_cons yS3
      match ys4, yS4 with
      | [], _ =>
      obtain ⟨rfl, -⟩ := zh_vi (t := 0) yq1 rfl b3
      obtain ⟨rfl, -⟩ := zh_vi (t := 0) yq2 rfl (zk_c0 hG2.1 rfl)
      obtain ⟨rfl, -⟩ := zh_vi (t := 0) yq3 rfl b4
      obtain rfl := zh_vr yq4 rfl b5
      obtain ⟨cA2, n2, f2, p1, p2, p3, p4, p5, p6, p7⟩ := zk_iarr hG2.2.2.2.2.1 (hextP2 r 59 hr) (T := zt_types.getD 59 (0, 0, 0, [])) (by rw [hw]; rfl) (Or.inl rfl)
      obtain ⟨w1, w2⟩ := zh_same hef2 hr (by decide) hf p1
      refine zw_bin (o := 2) hx hb rfl (zr_hCL (90, .imul, 1, 0, []) (List.mem_of_getElem? (i := 49) rfl)) (fun h => absurd h (by decide)) ?_
      refine zw_bin (o := 0) hx hb rfl (zr_hCL (91, .iadd, 1, 0, []) (List.mem_of_getElem? (i := 50) rfl)) (fun h => absurd h (by decide)) ?_
      refine zw_const (k := 0) (n := 1) (len := 1) hx hb rfl (zr_hCL (92, .iconst 1, 1, 0, []) (List.mem_of_getElem? (i := 51) rfl)) ?_
      refine zw_bin (o := 0) (y := Int32.ofInt 1) hx hb rfl (zr_hCL (93, .iadd, 1, 0, []) (List.mem_of_getElem? (i := 52) rfl)) (fun h => absurd h (by decide)) ?_
      have e93 : zk_bn 0 (zk_bn 0 (Int32.ofInt (L + 98)) (zk_bn 2 (Int32.ofInt (0 + 2)) (Int32.ofInt (k + 0)))) (Int32.ofInt 1) = Int32.ofInt (L + 98 + 2 * k + 1) := by
        show Int32.ofInt (L + 98) + Int32.ofInt (0 + 2) * Int32.ofInt (k + 0) + Int32.ofInt 1 = _
        rw [← Int32.ofInt_mul, ← Int32.ofInt_add, ← Int32.ofInt_add]
        congr 1
        omega
      rw [e93]
      have hrg2 : zk_rg 0 (L + 98 + 2 * k + 1) := ⟨by omega, by omega⟩
      have hix2 : (Int32.ofInt (L + 98 + 2 * k + 1)).toNatClampNeg = L.toNat + 98 + 2 * k.toNat + 1 := by
        show (Int32.ofInt (L + 98 + 2 * k + 1)).toInt.toNat = _
        rw [zk_i32 hrg2]
        omega
      refine zw_iald hx hb p6 (by have := p4; exact this) (zh_in hrg2 (by omega) (by omega)) (zr_hCL (94, .iaload, 1, 0, []) (List.mem_of_getElem? (i := 53) rfl)) ?_
      rw [hix2, w2 _ (by omega)]
      have har0 := zk_to32 (f (L.toNat + 98 + 2 * k.toNat + 1))
      have hops := hd k.toNat (by omega) (by omega)
      rw [hop] at hops
      generalize harg : (f (L.toNat + 98 + 2 * k.toNat + 1)).toInt = arg at har0 hops
      have hva : Value.int (f (L.toNat + 98 + 2 * k.toNat + 1)) = zk_mk 0 arg := congrArg Value.int har0.2
      rw [hva]
      have hGa := zk_G.push hG2 (f := (0, 0, -2147483648, 2147483647)) (n := arg) (zh_ok32 har0.1)
      have hdk := hdq k.toNat (by omega) (by omega)
      have hl2 := zk_all2_len hG2.1
      have c6 : (N2 ++ [arg])[9]? = some op := zk_get_snoc b6
      have c2 : (N2 ++ [arg])[5]? = some nn := zk_get_snoc b2
      have c7 : (N2 ++ [arg])[11]? = some arg := by show (N2 ++ [arg])[zr_A90.2.1.1.length]? = _; rw [hl2]; exact zk_get_last
      have hopr : zk_rg 0 op := by rw [← hop]; exact hop0.1
      have hpaA : zk_pa (N2 ++ [arg]) [(a : Int), last, nn, k, L, (r : Int), op, arg] [(0, 3), (1, 4), (2, 5), (3, 6), (4, 7), (5, 8), (6, 9), (7, 11)] := by
        intro q hq
        simp only [List.mem_cons, List.not_mem_nil, or_false] at hq
        rcases hq with rfl | rfl | rfl | rfl | rfl | rfl | rfl | rfl
        · exact ⟨_, zk_get_snoc b0, rfl⟩
        · exact ⟨_, zk_get_snoc b1, rfl⟩
        · exact ⟨_, c2, rfl⟩
        · exact ⟨_, zk_get_snoc b3, rfl⟩
        · exact ⟨_, zk_get_snoc b4, rfl⟩
        · exact ⟨_, zk_get_snoc b5, rfl⟩
        · exact ⟨_, c6, rfl⟩
        · exact ⟨_, c7, rfl⟩
      obtain ⟨hop00, hops⟩ := hops
      rcases hops with ⟨t1, t2, t3⟩ | ⟨t1, t2, t3, t4⟩ | ⟨t1, t2, t3⟩ | ⟨t1, t2, t3, t4, t5, t6⟩
      · have hs1 := zk_G.set hGa (x := 9) (f := (0, 0, (-2147483648), 2147483647)) (f' := (0, 0, 0, 12)) rfl (Or.inl rfl) (fun q hq _ => by rw [c6] at hq; cases hq; exact ⟨by dsimp only; omega, by dsimp only; have := hopr.2; omega, hopr⟩)
        have hs2 := zk_G.set hs1 (x := 5) (f := (0, 0, 0, 400)) (f' := (0, 0, 0, 399)) rfl (Or.inl rfl) (fun q hq _ => by rw [c2] at hq; cases hq; exact ⟨by dsimp only; omega, by dsimp only; omega, ⟨by omega, by omega⟩⟩)
        refine zh_seg hx hb hE (kp' := [(0, 0, 0, 0), (0, 0, 0, 0), (0, 0, 0, 0), (0, 0, 0, 0), (0, 0, 0, 0), (0, 0, 0, 0), (0, 0, 0, 0), (0, 0, 0, 0)]) (eff := zr_eff) rfl zr_hCL (AL := []) (AN := [zr_Ba0]) (fuel := 400) (by decide +kernel) hextP2 (zh_reb hs2 hpaA) (zh_one (x := (11, 0)) ⟨(0, 0, (-2147483648), 2147483647), arg, rfl, c7, by rw [Int.add_zero]; exact har0.1, by rw [Int.add_zero]⟩) (fun A hA => Or.inr (fun N3 P3 F3 H3 locs3 ls3 sv3 hG3 hS3 => ?_))
        have hext3 := hG3.2.2.2.2.2.2.1
        have hef3 : zk_ef zr_eff ps P0 G0 F3 := zh_ef hef2 hG3.2.2.2.2.2.2.2.1 hextP2 zr_eok zr_eok
        have hp3 := hG3.2.2.2.2.2.2.2.2.2.1
        have hb3 := zh_back hG3 hextP2 hef3 (pa := []) (fun q hq => absurd hq List.not_mem_nil)
        simp only [List.mem_cons, List.not_mem_nil, or_false] at hA
        rcases hA with rfl
        · obtain ⟨hf1, hf2⟩ := zh_fit hb3 hS3 zr_H [(0, 0), (1, 0), (2, 0), (3, 0), (4, 0), (5, 1), (6, 1), (7, 0), (8, 0)] (by decide +kernel)
          have d2 : N3[5]? = some nn := zh_pa hp3 (j := 2) (by decide) rfl
          have d3 : N3[6]? = some k := zh_pa hp3 (j := 3) (by decide) rfl
          have d7 : N3[10]? = some arg := zh_pa hp3 (j := 7) (by decide) rfl
          match sv3, hf2 with
          | [], _ =>
          refine ih _ P3 F3 H3 locs3 ls3 (nn + 1) (k + 1) hf1 ?_ ?_ ?_ ?_ ?_ ?_ ?_ ?_
          · show some (zk_val N3 (3, 0)) = _
            rw [zk_val_ok (zh_pa hp3 (j := 0) (by decide) rfl), Int.add_zero]
          · show some (zk_val N3 (4, 0)) = _
            rw [zk_val_ok (zh_pa hp3 (j := 1) (by decide) rfl), Int.add_zero]
          · show some (zk_val N3 (5, 1)) = _
            rw [zk_val_ok d2]
          · show some (zk_val N3 (6, 1)) = _
            rw [zk_val_ok d3]
          · show some (zk_val N3 (7, 0)) = _
            rw [zk_val_ok (zh_pa hp3 (j := 4) (by decide) rfl), Int.add_zero]
          · show some (zk_val N3 (8, 0)) = _
            rw [zk_val_ok (zh_pa hp3 (j := 5) (by decide) rfl), Int.add_zero]
          · omega
          · intro hlt
            refine ⟨by omega, ?_⟩
            have e1 : (k + 1).toNat = k.toNat + 1 := by omega
            rw [e1]
            omega
      · have hs1 := zk_G.set hGa (x := 9) (f := (0, 0, (-2147483648), 2147483647)) (f' := (0, 0, 20, 27)) rfl (Or.inl rfl) (fun q hq _ => by rw [c6] at hq; cases hq; exact ⟨by dsimp only; omega, by dsimp only; have := hopr.2; omega, hopr⟩)
        have hs2 := zk_G.set hs1 (x := 5) (f := (0, 0, 0, 400)) (f' := (0, 0, 2, 400)) rfl (Or.inl rfl) (fun q hq _ => by rw [c2] at hq; cases hq; exact ⟨by dsimp only; omega, by dsimp only; omega, ⟨by omega, by omega⟩⟩)
        refine zh_seg hx hb hE (kp' := [(0, 0, 0, 0), (0, 0, 0, 0), (0, 0, 0, 0), (0, 0, 0, 0), (0, 0, 0, 0), (0, 0, 0, 0), (0, 0, 0, 0), (0, 0, 0, 0)]) (eff := zr_eff) rfl zr_hCL (AL := []) (AN := [zr_Bb0]) (fuel := 400) (by decide +kernel) hextP2 (zh_reb hs2 hpaA) (zh_one (x := (11, 0)) ⟨(0, 0, (-2147483648), 2147483647), arg, rfl, c7, by rw [Int.add_zero]; exact har0.1, by rw [Int.add_zero]⟩) (fun A hA => Or.inr (fun N3 P3 F3 H3 locs3 ls3 sv3 hG3 hS3 => ?_))
        have hext3 := hG3.2.2.2.2.2.2.1
        have hef3 : zk_ef zr_eff ps P0 G0 F3 := zh_ef hef2 hG3.2.2.2.2.2.2.2.1 hextP2 zr_eok zr_eok
        have hp3 := hG3.2.2.2.2.2.2.2.2.2.1
        have hb3 := zh_back hG3 hextP2 hef3 (pa := []) (fun q hq => absurd hq List.not_mem_nil)
        simp only [List.mem_cons, List.not_mem_nil, or_false] at hA
        rcases hA with rfl
        · obtain ⟨hf1, hf2⟩ := zh_fit hb3 hS3 zr_H [(0, 0), (1, 0), (2, 0), (3, 0), (4, 0), (5, (-1)), (6, 1), (7, 0), (8, 0)] (by decide +kernel)
          have d2 : N3[5]? = some nn := zh_pa hp3 (j := 2) (by decide) rfl
          have d3 : N3[6]? = some k := zh_pa hp3 (j := 3) (by decide) rfl
          have d7 : N3[10]? = some arg := zh_pa hp3 (j := 7) (by decide) rfl
          match sv3, hf2 with
          | [], _ =>
          refine ih _ P3 F3 H3 locs3 ls3 (nn + (-1)) (k + 1) hf1 ?_ ?_ ?_ ?_ ?_ ?_ ?_ ?_
          · show some (zk_val N3 (3, 0)) = _
            rw [zk_val_ok (zh_pa hp3 (j := 0) (by decide) rfl), Int.add_zero]
          · show some (zk_val N3 (4, 0)) = _
            rw [zk_val_ok (zh_pa hp3 (j := 1) (by decide) rfl), Int.add_zero]
          · show some (zk_val N3 (5, (-1))) = _
            rw [zk_val_ok d2]
          · show some (zk_val N3 (6, 1)) = _
            rw [zk_val_ok d3]
          · show some (zk_val N3 (7, 0)) = _
            rw [zk_val_ok (zh_pa hp3 (j := 4) (by decide) rfl), Int.add_zero]
          · show some (zk_val N3 (8, 0)) = _
            rw [zk_val_ok (zh_pa hp3 (j := 5) (by decide) rfl), Int.add_zero]
          · omega
          · intro hlt
            refine ⟨by omega, ?_⟩
            have e1 : (k + 1).toNat = k.toNat + 1 := by omega
            rw [e1]
            omega
      · have hs1 := zk_G.set hGa (x := 9) (f := (0, 0, (-2147483648), 2147483647)) (f' := (0, 0, 28, 28)) rfl (Or.inl rfl) (fun q hq _ => by rw [c6] at hq; cases hq; exact ⟨by dsimp only; omega, by dsimp only; have := hopr.2; omega, hopr⟩)
        have hs2 := zk_G.set hs1 (x := 5) (f := (0, 0, 0, 400)) (f' := (0, 0, 1, 400)) rfl (Or.inl rfl) (fun q hq _ => by rw [c2] at hq; cases hq; exact ⟨by dsimp only; omega, by dsimp only; omega, ⟨by omega, by omega⟩⟩)
        refine zh_seg hx hb hE (kp' := [(0, 0, 0, 0), (0, 0, 0, 0), (0, 0, 0, 0), (0, 0, 0, 0), (0, 0, 0, 0), (0, 0, 0, 0), (0, 0, 0, 0), (0, 0, 0, 0)]) (eff := zr_eff) rfl zr_hCL (AL := []) (AN := [zr_Bc0]) (fuel := 400) (by decide +kernel) hextP2 (zh_reb hs2 hpaA) (zh_one (x := (11, 0)) ⟨(0, 0, (-2147483648), 2147483647), arg, rfl, c7, by rw [Int.add_zero]; exact har0.1, by rw [Int.add_zero]⟩) (fun A hA => Or.inr (fun N3 P3 F3 H3 locs3 ls3 sv3 hG3 hS3 => ?_))
        have hext3 := hG3.2.2.2.2.2.2.1
        have hef3 : zk_ef zr_eff ps P0 G0 F3 := zh_ef hef2 hG3.2.2.2.2.2.2.2.1 hextP2 zr_eok zr_eok
        have hp3 := hG3.2.2.2.2.2.2.2.2.2.1
        have hb3 := zh_back hG3 hextP2 hef3 (pa := []) (fun q hq => absurd hq List.not_mem_nil)
        simp only [List.mem_cons, List.not_mem_nil, or_false] at hA
        rcases hA with rfl
        · obtain ⟨hf1, hf2⟩ := zh_fit hb3 hS3 zr_H [(0, 0), (1, 0), (2, 0), (3, 0), (4, 0), (5, 0), (6, 1), (7, 0), (8, 0)] (by decide +kernel)
          have d2 : N3[5]? = some nn := zh_pa hp3 (j := 2) (by decide) rfl
          have d3 : N3[6]? = some k := zh_pa hp3 (j := 3) (by decide) rfl
          have d7 : N3[10]? = some arg := zh_pa hp3 (j := 7) (by decide) rfl
          match sv3, hf2 with
          | [], _ =>
          refine ih _ P3 F3 H3 locs3 ls3 (nn + 0) (k + 1) hf1 ?_ ?_ ?_ ?_ ?_ ?_ ?_ ?_
          · show some (zk_val N3 (3, 0)) = _
            rw [zk_val_ok (zh_pa hp3 (j := 0) (by decide) rfl), Int.add_zero]
          · show some (zk_val N3 (4, 0)) = _
            rw [zk_val_ok (zh_pa hp3 (j := 1) (by decide) rfl), Int.add_zero]
          · show some (zk_val N3 (5, 0)) = _
            rw [zk_val_ok d2]
          · show some (zk_val N3 (6, 1)) = _
            rw [zk_val_ok d3]
          · show some (zk_val N3 (7, 0)) = _
            rw [zk_val_ok (zh_pa hp3 (j := 4) (by decide) rfl), Int.add_zero]
          · show some (zk_val N3 (8, 0)) = _
            rw [zk_val_ok (zh_pa hp3 (j := 5) (by decide) rfl), Int.add_zero]
          · omega
          · intro hlt
            refine ⟨by omega, ?_⟩
            have e1 : (k + 1).toNat = k.toNat + 1 := by omega
            rw [e1]
            omega
      · have hs1 := zk_G.set hGa (x := 9) (f := (0, 0, (-2147483648), 2147483647)) (f' := (0, 0, 29, 2147483647)) rfl (Or.inl rfl) (fun q hq _ => by rw [c6] at hq; cases hq; exact ⟨by dsimp only; omega, by dsimp only; have := hopr.2; omega, hopr⟩)
        have hs2 := zk_G.set hs1 (x := 5) (f := (0, 0, 0, 400)) (f' := (0, 0, 1, 400)) rfl (Or.inl rfl) (fun q hq _ => by rw [c2] at hq; cases hq; exact ⟨by dsimp only; omega, by dsimp only; omega, ⟨by omega, by omega⟩⟩)
        have hs3 := zk_G.set hs2 (x := 11) (f := (0, 0, -2147483648, 2147483647)) (f' := (0, 0, 0, 400)) rfl (Or.inl rfl) (fun q hq _ => by rw [c7] at hq; cases hq; exact ⟨by dsimp only; omega, by dsimp only; omega, ⟨by omega, by omega⟩⟩)
        refine zh_seg hx hb hE (kp' := [(0, 0, 0, 0), (0, 0, 0, 0), (0, 0, 0, 0), (0, 0, 0, 0), (0, 0, 0, 0), (0, 0, 0, 0), (0, 0, 0, 0), (0, 0, 0, 0)]) (eff := zr_eff) rfl zr_hCL (AL := []) (AN := [zr_Bd0, zr_Bd1]) (fuel := 400) (by decide +kernel) hextP2 (zh_reb hs3 hpaA) (zh_one (x := (11, 0)) ⟨(0, 0, 0, 400), arg, rfl, c7, by rw [Int.add_zero]; exact har0.1, by rw [Int.add_zero]⟩) (fun A hA => Or.inr (fun N3 P3 F3 H3 locs3 ls3 sv3 hG3 hS3 => ?_))
        have hext3 := hG3.2.2.2.2.2.2.1
        have hef3 : zk_ef zr_eff ps P0 G0 F3 := zh_ef hef2 hG3.2.2.2.2.2.2.2.1 hextP2 zr_eok zr_eok
        have hp3 := hG3.2.2.2.2.2.2.2.2.2.1
        have hb3 := zh_back hG3 hextP2 hef3 (pa := []) (fun q hq => absurd hq List.not_mem_nil)
        simp only [List.mem_cons, List.not_mem_nil, or_false] at hA
        rcases hA with rfl | rfl
        · obtain ⟨hf1, hf2⟩ := zh_fit hb3 hS3 zr_H [(0, 0), (1, 0), (2, 0), (3, 0), (4, 0), (5, (-1)), (6, 1), (7, 0), (8, 0)] (by decide +kernel)
          have d2 : N3[5]? = some nn := zh_pa hp3 (j := 2) (by decide) rfl
          have d3 : N3[6]? = some k := zh_pa hp3 (j := 3) (by decide) rfl
          have d7 : N3[10]? = some arg := zh_pa hp3 (j := 7) (by decide) rfl
          match sv3, hf2 with
          | [], _ =>
          refine ih _ P3 F3 H3 locs3 ls3 (nn + (-1)) (k + 1) hf1 ?_ ?_ ?_ ?_ ?_ ?_ ?_ ?_
          · show some (zk_val N3 (3, 0)) = _
            rw [zk_val_ok (zh_pa hp3 (j := 0) (by decide) rfl), Int.add_zero]
          · show some (zk_val N3 (4, 0)) = _
            rw [zk_val_ok (zh_pa hp3 (j := 1) (by decide) rfl), Int.add_zero]
          · show some (zk_val N3 (5, (-1))) = _
            rw [zk_val_ok d2]
          · show some (zk_val N3 (6, 1)) = _
            rw [zk_val_ok d3]
          · show some (zk_val N3 (7, 0)) = _
            rw [zk_val_ok (zh_pa hp3 (j := 4) (by decide) rfl), Int.add_zero]
          · show some (zk_val N3 (8, 0)) = _
            rw [zk_val_ok (zh_pa hp3 (j := 5) (by decide) rfl), Int.add_zero]
          · omega
          · intro hlt
            refine ⟨by omega, ?_⟩
            have e1 : (k + 1).toNat = k.toNat + 1 := by omega
            rw [e1]
            omega
        · obtain ⟨hf1, hf2⟩ := zh_fit hb3 hS3 zr_H [(0, 0), (1, 0), (2, 0), (3, 0), (4, 0), (5, 0), (10, 0), (7, 0), (8, 0)] (by decide +kernel)
          have d2 : N3[5]? = some nn := zh_pa hp3 (j := 2) (by decide) rfl
          have d3 : N3[6]? = some k := zh_pa hp3 (j := 3) (by decide) rfl
          have d7 : N3[10]? = some arg := zh_pa hp3 (j := 7) (by decide) rfl
          match sv3, hf2 with
          | [], _ =>
          refine ih _ P3 F3 H3 locs3 ls3 (nn + 0) (arg + 0) hf1 ?_ ?_ ?_ ?_ ?_ ?_ ?_ ?_
          · show some (zk_val N3 (3, 0)) = _
            rw [zk_val_ok (zh_pa hp3 (j := 0) (by decide) rfl), Int.add_zero]
          · show some (zk_val N3 (4, 0)) = _
            rw [zk_val_ok (zh_pa hp3 (j := 1) (by decide) rfl), Int.add_zero]
          · show some (zk_val N3 (5, 0)) = _
            rw [zk_val_ok d2]
          · show some (zk_val N3 (10, 0)) = _
            rw [zk_val_ok d7]
          · show some (zk_val N3 (7, 0)) = _
            rw [zk_val_ok (zh_pa hp3 (j := 4) (by decide) rfl), Int.add_zero]
          · show some (zk_val N3 (8, 0)) = _
            rw [zk_val_ok (zh_pa hp3 (j := 5) (by decide) rfl), Int.add_zero]
          · omega
          · intro hlt
            refine ⟨by omega, ?_⟩
            rw [show arg + 0 = arg by omega, t6]
            omega
end ZK52
/-- the depth never passes the place -/
theorem zr_depth {co ca : Nat → Int} {d : Nat → Nat} {first last : Nat} (h0 : d first = 0) (h : ∀ q, first ≤ q → q < last → zk_ops d last q (co q) (ca q)) : ∀ q, first ≤ q → q ≤ last → d q ≤ q := by
  intro q
  induction q with
  | zero => intro h1 _; rw [show (0 : Nat) = first by omega, h0]; omega
  | succ q ih =>
    intro h1 h2
    by_cases e : first = q + 1
    · rw [← e, h0]; omega
    · have h3 := ih (by omega) (by omega)
      obtain ⟨-, h4⟩ := h q (by omega) (by omega)
      omega
/-- a law's code is to be reckoned: what stands where, and that it's well-formed -/
noncomputable def zr_A : zk_Q := fun P F ps => ∃ (a r : Nat) (L first last : Int) (cA : ClassId) (n : Nat) (f : Nat → Int32), ps = [(a : Int), first, last] ∧ P a = some 13 ∧ zk_rd (F a) 20 = some (.int 0) ∧ zk_rd (F a) 34 = some (.int (Int32.ofInt L)) ∧ 0 ≤ L ∧ L ≤ 4680 ∧ zk_rd (F a) 3 = some (.ref r) ∧ P r = some 59 ∧ F r = .inl (cA, n, .inl f) ∧ 5580 ≤ n ∧ (first < last → zk_cr (fun k => (f (L.toNat + 98 + 2 * k)).toInt) (fun k => (f (L.toNat + 98 + 2 * k + 1)).toInt) first.toNat last.toNat)
theorem zr_reckon {l : Launch} {w : zk_W} (hW : zh_W w) : zk_metX l w zt_dv zt_TB zK_rk zr_A zk_tB ∧ zk_cok w zt_TB zK_rk := by
  refine zh_methH hW (lk := zr_E.2.1) (KS := zr_E.2.2.2.1) (km := zr_E.2.2.2.2.1) (lc := zr_E.2.2.2.2.2.1) (K := zK_rk) (pl := 1821) (by decide) (by decide +kernel) (by decide +kernel) (by
    intro K h
    rcases List.mem_cons.mp h with rfl | h
    · exact zq_1142 hW
    rw [List.mem_singleton.mp h]
    exact zq_1143 hW) (fun p e R s m args below meth c Q P0 G0 ps X hx hb hA hps hE hQ H locs ls hG => ?_)
  obtain ⟨a, r, L, first, last, cA, n, f, rfl, ha, h20, h34, hL, hL2, h3, hr, hf, hnr, hcr⟩ := hA
  have hE : zh_E l R s m args meth c w zr_E P0 X := hE
  have r1 : 0 ≤ first ∧ first ≤ 400 := by
    obtain ⟨n1, z1, z2, z3⟩ := zh_i (i := 1) (lo := 0) (hi := 400) hps rfl
    cases z1
    exact ⟨z2, z3⟩
  have r2 : 0 ≤ last ∧ last ≤ 400 := by
    obtain ⟨n1, z1, z2, z3⟩ := zh_i (i := 2) (lo := 0) (hi := 400) hps rfl
    cases z1
    exact ⟨z2, z3⟩
  have g1 := zh_fact hG (x := 3) (a := a) (t := 13) (k := 34) (f := (0, 0, 0, 4680)) (n := L) rfl ha h34 rfl ⟨by dsimp only; omega, by dsimp only; omega, ⟨by omega, by omega⟩⟩
  have g2 := zh_fact g1 (x := 3) (a := a) (t := 13) (k := 3) (f := (2, 59, 0, 0)) (n := (r : Int)) rfl ha h3 (by show Value.ref r = if (r : Int) < 0 then Value.null else .ref (r : Int).toNat; rw [if_neg (by omega)]; rfl) ⟨by dsimp only; omega, by omega, fun q => absurd q (by decide), fun _ => hr⟩
  have g3 := zh_factc g2 (x := 3) (a := a) (t := 13) (k := 20) (q := (0, 0)) rfl ha h20 ⟨(0, 0, 0, 0), 0, rfl, rfl, ⟨by decide, by decide⟩, rfl⟩
  obtain ⟨d, hd0, hd, hdq⟩ : ∃ d : Nat → Nat, (first < last → d first.toNat = 0) ∧ (∀ q, first.toNat ≤ q → q < last.toNat → zk_ops d last.toNat q (f (L.toNat + 98 + 2 * q)).toInt (f (L.toNat + 98 + 2 * q + 1)).toInt) ∧ ∀ q, first.toNat ≤ q → q ≤ last.toNat → d q ≤ q := by
    by_cases hlt : first < last
    · obtain ⟨d, z1, z2⟩ := hcr hlt
      exact ⟨d, fun _ => z1, z2, zr_depth z1 z2⟩
    · exact ⟨fun _ => 0, fun q => absurd q hlt, fun q z1 z2 => by omega, fun q _ _ => Nat.zero_le _⟩
  have hpa : zk_pa (([0, 0, -1] ++ [(a : Int), first, last] : List Int) ++ [L] ++ [(r : Int)]) [(a : Int), first, last, L, (r : Int)] [(0, 3), (1, 4), (2, 5), (3, 6), (4, 7)] := by
    intro q hq
    simp only [List.mem_cons, List.not_mem_nil, or_false] at hq
    rcases hq with rfl | rfl | rfl | rfl | rfl
    all_goals exact ⟨_, rfl, rfl⟩
  refine zh_seg hx hb hE (kp' := [(0, 0, 0, 0), (0, 0, 0, 0), (0, 0, 0, 0), (0, 0, 0, 0), (0, 0, 0, 0)]) (eff := zr_eff) rfl zr_hCL (AL := []) (AN := [zr_A10]) (fuel := 400) (κ := zr_K0) (by decide +kernel) (fun _ _ h => h) (zh_reb g3 hpa) zh_nil (fun A hA => Or.inr (fun N1 P1 F1 H1 locs1 ls1 sv1 hG1 hS1 => ?_))
  obtain rfl := List.mem_singleton.mp hA
  have hef1 : zk_ef zr_eff [(a : Int), first, last] P0 G0 F1 := zh_ef (P1 := P0) (G1 := G0) (e1 := []) (ps1 := []) (fun _ _ _ => zk_same.rf) hG1.2.2.2.2.2.2.2.1 (fun _ _ h => h) (fun e h => absurd h List.not_mem_nil) zr_eok
  have hp1 := hG1.2.2.2.2.2.2.2.2.2.1
  have hb1 := zh_back hG1 (fun _ _ h => h) hef1 (pa := []) (fun q hq => absurd hq List.not_mem_nil)
  obtain ⟨hf1, hf2⟩ := zh_fit hb1 hS1 zr_H [(0, 0), (1, 0), (2, 0), (3, 0), (5, 0), (0, 0), (4, 0), (6, 0), (7, 0)] (by decide +kernel)
  match sv1, hf2 with
  | [], _ =>
  refine zr_head hx hb rfl hE hQ rfl hr hf hnr hL hL2 r1.1 r2.2 hd hdq hW.1 ((last - first).toNat + 1) _ P1 F1 H1 locs1 ls1 0 first hf1 (a := a) ?_ ?_ ?_ ?_ ?_ ?_ (by omega) (fun hlt => ⟨Int.le_refl _, by rw [hd0 hlt]; rfl⟩)
  · show some (zk_val N1 (3, 0)) = _
    rw [zk_val_ok (zh_pa hp1 (j := 0) (by decide) rfl), Int.add_zero]
  · show some (zk_val N1 (5, 0)) = _
    rw [zk_val_ok (zh_pa hp1 (j := 2) (by decide) rfl), Int.add_zero]
  · show some (zk_val N1 (0, 0)) = _
    rw [zk_val_ok (zk_c0 hG1.1 rfl)]
    rfl
  · show some (zk_val N1 (4, 0)) = _
    rw [zk_val_ok (zh_pa hp1 (j := 1) (by decide) rfl), Int.add_zero]
  · show some (zk_val N1 (6, 0)) = _
    rw [zk_val_ok (zh_pa hp1 (j := 3) (by decide) rfl), Int.add_zero]
  · show some (zk_val N1 (7, 0)) = _
    rw [zk_val_ok (zh_pa hp1 (j := 4) (by decide) rfl), Int.add_zero]

