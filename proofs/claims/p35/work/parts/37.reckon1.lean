/-! part 37: reckonAll while ordered is 1, over nOp and nArg -/
/-- X12_in -/
def zK_2011 : zk_K := (zt_mn 186, prog_14_method_3_code, 6, (Option.some Jvm.ClassFile.FieldType.boolean), 0, 12, [(1, 0, (-9223372036854775808), 9223372036854775807), (1, 0, 0, 0), (1, 0, (-1), 5)], [(some (0, 0, 0, 0), []), (some (0, 0, 1, 1), [(0, 1, 5), (0, 2, 0), (0, 3, 4), (0, 99, 5), (1, 0, 0), (1, 2, 0), (2, 0, 5), (3, 0, 1), (3, 2, 1), (99, 0, 0), (99, 2, 0)])], [], (0, 0, 0, 0))
theorem zq_2011 {l : Launch} {w : zk_W} (hW : zh_W w) : zh_K l w zK_2011 := zh_meth hW (lk := []) (KS := []) (km := []) (lc := []) (CL0 := zc_X12_in) (ns := []) (AN := []) (fuel := 98) (pl := 1572) (by decide +kernel) (by decide +kernel) zd_X12_in (fun K h => nomatch h)
/-- X12_in -/
def zK_2029 : zk_K := (zt_mn 186, prog_14_method_3_code, 6, (Option.some Jvm.ClassFile.FieldType.boolean), 0, 12, [(1, 0, (-9223372036854775808), 9223372036854775807), (1, 0, 0, 0), (1, 0, (-1), 9)], [(some (0, 0, 0, 0), []), (some (0, 0, 1, 1), [(0, 1, 9), (0, 2, 0), (0, 3, 8), (0, 99, 9), (1, 0, 0), (1, 2, 0), (2, 0, 9), (3, 0, 1), (3, 2, 1), (99, 0, 0), (99, 2, 0)])], [], (0, 0, 0, 0))
theorem zq_2029 {l : Launch} {w : zk_W} (hW : zh_W w) : zh_K l w zK_2029 := zh_meth hW (lk := []) (KS := []) (km := []) (lc := []) (CL0 := zc_X12_in) (ns := []) (AN := []) (fuel := 98) (pl := 1572) (by decide +kernel) (by decide +kernel) zd_X12_in (fun K h => nomatch h)
/-- X12_isWork -/
def zK_2142 : zk_K := (zt_mn 200, prog_14_method_20_code, 2, (Option.some Jvm.ClassFile.FieldType.boolean), 1, 12, [(2, 92, 0, 0), (0, 0, (-2147483648), 2147483647)], [(some (0, 0, 0, 0), []), (some (0, 0, 1, 1), [(1, 2, 8), (1, 99, 9), (2, 1, 1), (99, 1, 0)])], [], (1, 25, 0, 0))
theorem zq_2142 {l : Launch} {w : zk_W} (hW : zh_W w) : zh_K l w zK_2142 := zh_meth hW (lk := [(2, 13, 12, 3, 18)]) (KS := [zK_2029]) (km := [186]) (lc := [(1, 181, 186)]) (CL0 := zc_X12_isWork) (ns := [(15, 0, [(0, 0, 0)])]) (AN := []) (fuel := 98) (pl := 1634) (by decide +kernel) (by decide +kernel) zd_X12_isWork (by
  intro K h
  rw [List.mem_singleton.mp h]
  exact zq_2029 hW)
/-- X12_ofWork -/
def zK_2143 : zk_K := (zt_mn 196, prog_14_method_18_code, 3, (Option.some Jvm.ClassFile.FieldType.int), 1, 12, [(2, 92, 0, 0), (0, 0, 0, 9), (0, 0, 1, 1)], [(some (0, 0, (-2147483648), 2147483647), [])], [], (0, 0, 0, 0))
theorem zq_2143 {l : Launch} {w : zk_W} (hW : zh_W w) : zh_K l w zK_2143 := zh_meth hW (lk := [(2, 13, 12, 3, 18)]) (KS := []) (km := []) (lc := []) (CL0 := zc_X12_ofWork) (ns := [(8, 0, [(0, 0, 10)])]) (AN := []) (fuel := 94) (pl := 1616) (by decide +kernel) (by decide +kernel) zd_X12_ofWork (fun K h => nomatch h)
/-- X12_isPerson -/
def zK_2144 : zk_K := (zt_mn 193, prog_14_method_19_code, 2, (Option.some Jvm.ClassFile.FieldType.boolean), 1, 12, [(2, 92, 0, 0), (0, 0, (-2147483648), 2147483647)], [(some (0, 0, 0, 0), []), (some (0, 0, 1, 1), [(1, 2, 4), (1, 99, 5), (2, 1, 1), (99, 1, 0)])], [], (1, 25, 0, 0))
theorem zq_2144 {l : Launch} {w : zk_W} (hW : zh_W w) : zh_K l w zK_2144 := zh_meth hW (lk := [(2, 13, 12, 3, 18)]) (KS := [zK_2011]) (km := [186]) (lc := [(1, 181, 186)]) (CL0 := zc_X12_isPerson) (ns := [(15, 0, [(0, 0, 0)])]) (AN := []) (fuel := 98) (pl := 1603) (by decide +kernel) (by decide +kernel) zd_X12_isPerson (by
  intro K h
  rw [List.mem_singleton.mp h]
  exact zq_2011 hW)
/-- X12_ofPerson -/
def zK_2145 : zk_K := (zt_mn 195, prog_14_method_17_code, 3, (Option.some Jvm.ClassFile.FieldType.int), 1, 12, [(2, 92, 0, 0), (0, 0, 0, 5), (0, 0, 2, 2)], [(some (0, 0, 0, 9), [])], [], (0, 0, 0, 0))
theorem zq_2145 {l : Launch} {w : zk_W} (hW : zh_W w) : zh_K l w zK_2145 := zh_meth hW (lk := [(2, 13, 12, 3, 18)]) (KS := []) (km := []) (lc := []) (CL0 := zc_X12_ofPerson) (ns := [(8, 0, [(0, 0, 6)])]) (AN := []) (fuel := 94) (pl := 1612) (by decide +kernel) (by decide +kernel) zd_X12_ofPerson (fun K h => nomatch h)
/-- X12_reckon -/
def zK_2146 : zk_K := (zt_mn 244, prog_14_method_64_code, 6, (Option.some Jvm.ClassFile.FieldType.long), 1, 12, [(2, 92, 0, 0), (0, 0, (-2147483648), 2147483647), (1, 0, (-9223372036854775808), 9223372036854775807), (1, 0, (-9223372036854775808), 9223372036854775807)], [(some (1, 0, (-9223372036854775808), 9223372036854775807), [(1, 4, 9223372036854775832), (4, 1, 9223372036854775787)])], [(92, 38, 0)], (0, 0, 0, 0))
theorem zq_2146 {l : Launch} {w : zk_W} (hW : zh_W w) : zh_K l w zK_2146 := zh_meth hW (lk := [(2, 388, 12, 38, 3)]) (KS := []) (km := []) (lc := []) (CL0 := zc_X12_reckon) (ns := [(63, 1, []), (79, 1, []), (95, 1, []), (111, 1, []), (126, 1, []), (139, 1, []), (152, 1, [])]) (AN := []) (fuel := 346) (pl := 1825) (by decide +kernel) (by decide +kernel) zd_X12_reckon (fun K h => nomatch h)
/-- X12_in -/
def zK_2147 : zk_K := (zt_mn 186, prog_14_method_3_code, 6, (Option.some Jvm.ClassFile.FieldType.boolean), 0, 12, [(1, 0, (-9223372036854775808), 9223372036854775807), (1, 0, (-1000000000), (-1000000000)), (1, 0, 1000000000, 1000000000)], [(some (0, 0, 0, 0), []), (some (0, 0, 1, 1), [(0, 1, 2000000000), (0, 2, 0), (0, 3, 999999999), (0, 99, 1000000000), (1, 0, 0), (2, 0, 2000000000), (3, 0, 1000000001), (99, 0, 1000000000)])], [], (0, 0, 0, 0))
theorem zq_2147 {l : Launch} {w : zk_W} (hW : zh_W w) : zh_K l w zK_2147 := zh_meth hW (lk := []) (KS := []) (km := []) (lc := []) (CL0 := zc_X12_in) (ns := []) (AN := []) (fuel := 98) (pl := 1572) (by decide +kernel) (by decide +kernel) zd_X12_in (fun K h => nomatch h)
def zK_rk1 : zk_K := (zt_mn 243, prog_14_method_65_code, 7, (Option.none : Option Jvm.ClassFile.FieldType), 1, 12, [(2, 92, 0, 0), (0, 0, 0, 400), (0, 0, 0, 400)], [(none, [])], [(92, 38, 0), (92, 39, 0), (77, 1001, 0)], (2, 46, 0, 0))
def zv_ns : List (Nat × Nat × List (Nat × Int × Nat)) := [(177, 1, []), (191, 2, []), (201, 3, []), (263, 4, []), (289, 5, [])]
def zv_CL : List zk_Ci := zc_X12_reckonAll.map (zq_note zv_ns)
def zv_E : zk_Ev := (zt_types, [(2, 388, 12, 38, 3), (2, 319, 12, 20, 3), (2, 45, 12, 24, 18), (2, 13, 12, 3, 18), (2, 391, 12, 34, 0), (2, 48, 12, 25, 18), (2, 107, 12, 37, 18), (2, 101, 12, 35, 18), (2, 104, 12, 36, 18), (1, 267, 0, 0, (-1)), (1, 398, 0, 0, (-1000000000)), (1, 400, 0, 0, 1000000000), (2, 402, 12, 39, 1)], zt_dv, [zK_2144, zK_2145, zK_2142, zK_2143, zK_2146, zK_2147], [193, 195, 200, 196, 244, 186], [(0, 201, 193), (0, 207, 195), (0, 217, 200), (0, 188, 196), (0, 394, 244), (1, 181, 186)], zK_rk1)
def zv_eff : List (Nat × Nat × Nat) := [(92, 38, 0), (92, 39, 0), (77, 1001, 0)]
theorem zv_eok : ∀ e ∈ zv_eff, e ∈ zv_eff ∧ e.2.2 = 0 := by decide
def zv_KH : zk_C := ([(0, 0, 0, 0), (1, 0, 0, 0), (2, 0, (-1), (-1)), (2, 92, 0, 0), (0, 0, 0, 400), (0, 0, 0, 400), (0, 0, 0, 400), (0, 0, 1, 1), (2, 68, 0, 0), (2, 69, 0, 0)], [], [(3, 20, (7, 0)), (3, 24, (8, 0)), (3, 25, (9, 0))], [], [(0, (3, 0)), (2, (4, 0)), (3, (5, 0)), (4, (6, 0))], [], [])
def zv_K0 : zk_C := ([(0, 0, 0, 0), (1, 0, 0, 0), (2, 0, (-1), (-1)), (2, 92, 0, 0), (0, 0, 0, 400), (0, 0, 0, 400), (0, 0, 1, 1), (2, 68, 0, 0), (2, 69, 0, 0)], [], [(3, 25, (8, 0)), (3, 24, (7, 0)), (3, 20, (6, 0))], [], [(0, (3, 0)), (1, (4, 0)), (2, (5, 0))], [(0, 3), (1, 4), (2, 5), (3, 7), (4, 8)], [])
def zv_A10 : zk_An := (10, ([(0, 0, 0, 0), (1, 0, 0, 0), (2, 0, (-1), (-1)), (2, 92, 0, 0), (0, 0, 0, 400), (0, 0, 0, 400), (2, 68, 0, 0), (2, 69, 0, 0), (0, 0, 1, 1)], [], [(3, 38, (0, 0)), (3, 25, (7, 0)), (3, 24, (6, 0)), (3, 20, (8, 0))], [], [(4, (4, 0)), (3, (0, 0)), (0, (3, 0)), (2, (5, 0))], [(0, 3), (1, 4), (2, 5), (3, 6), (4, 7)], []), [], 0, 0, (0, []))
def zv_A36 : zk_An := (36, ([(0, 0, 0, 0), (1, 0, 0, 0), (2, 0, (-1), (-1)), (2, 92, 0, 0), (0, 0, 1, 400), (0, 0, 0, 400), (0, 0, 0, 399), (2, 68, 0, 0), (2, 69, 0, 0), (0, 0, 0, 0), (0, 0, 1, 1)], [(6, 4, (-1))], [(3, 38, (9, 0)), (3, 20, (10, 0)), (3, 24, (7, 0)), (3, 25, (8, 0))], [], [(0, (3, 0)), (2, (4, 0)), (3, (5, 0)), (4, (6, 0))], [(0, 3), (1, 4), (2, 5), (3, 6), (4, 7), (5, 8)], []), [(6, 0), (7, 0)], 0, 0, (0, []))
def zv_A371 : zk_An := (371, ([(0, 0, 0, 0), (1, 0, 0, 0), (2, 0, (-1), (-1)), (2, 92, 0, 0), (0, 0, 0, 400), (0, 0, 0, 400), (0, 0, 0, 400), (2, 68, 0, 0), (2, 69, 0, 0), (0, 0, 1, 1)], [], [(3, 20, (9, 0)), (3, 24, (7, 0)), (3, 25, (8, 0))], [], [(0, (3, 0)), (3, (5, 0))], [(0, 3), (1, 4), (2, 5), (3, 6), (4, 7), (5, 8)], []), [], 0, 0, (0, []))
def zv_A72 : zk_An := (72, ([(0, 0, 0, 0), (1, 0, 0, 0), (2, 0, (-1), (-1)), (2, 92, 0, 0), (0, 0, 1, 400), (0, 0, 0, 400), (0, 0, 0, 399), (2, 68, 0, 0), (2, 69, 0, 0), (0, 0, (-2147483648), 2147483647), (0, 0, 0, 0), (0, 0, 1, 1)], [(6, 4, (-1))], [(3, 38, (10, 0)), (3, 20, (11, 0)), (3, 24, (7, 0)), (3, 25, (8, 0))], [], [(5, (9, 0)), (0, (3, 0)), (2, (4, 0)), (3, (5, 0)), (4, (6, 0))], [(0, 3), (1, 4), (2, 5), (3, 6), (4, 7), (5, 8), (6, 9)], []), [(6, 0), (8, 0)], 0, 0, (0, []))
def zv_Ba0 : zk_An := (10, ([(0, 0, 0, 0), (1, 0, 0, 0), (2, 0, (-1), (-1)), (2, 92, 0, 0), (0, 0, 1, 400), (0, 0, 0, 399), (0, 0, 0, 399), (2, 68, 0, 0), (2, 69, 0, 0), (0, 0, 0, 12), (0, 0, (-2147483648), 2147483647), (2, 77, 0, 0), (0, 0, 0, 0), (0, 0, 1, 1)], [(6, 4, (-1))], [(3, 37, (11, 0)), (3, 38, (12, 0)), (3, 20, (13, 0)), (3, 24, (7, 0)), (3, 25, (8, 0))], [], [(3, (5, 1)), (4, (6, 1)), (0, (3, 0)), (2, (4, 0))], [(0, 3), (1, 4), (2, 5), (3, 6), (4, 7), (5, 8), (6, 9), (7, 10)], []), [], 0, 0, (0, []))
def zv_Bb0 : zk_An := (10, ([(0, 0, 0, 0), (1, 0, 0, 0), (2, 0, (-1), (-1)), (2, 92, 0, 0), (0, 0, 1, 400), (0, 0, 2, 400), (0, 0, 0, 399), (2, 68, 0, 0), (2, 69, 0, 0), (0, 0, 20, 27), (0, 0, (-2147483648), 2147483647), (0, 0, 0, 1), (2, 77, 0, 0), (0, 0, 1, 1)], [(6, 4, (-1))], [(3, 38, (11, 0)), (3, 37, (12, 0)), (3, 20, (13, 0)), (3, 24, (7, 0)), (3, 25, (8, 0))], [], [(3, (5, (-1))), (4, (6, 1)), (0, (3, 0)), (2, (4, 0))], [(0, 3), (1, 4), (2, 5), (3, 6), (4, 7), (5, 8), (6, 9), (7, 10)], []), [], 0, 0, (0, []))
def zv_Bc0 : zk_An := (10, ([(0, 0, 0, 0), (1, 0, 0, 0), (2, 0, (-1), (-1)), (2, 92, 0, 0), (0, 0, 1, 400), (0, 0, 1, 400), (0, 0, 0, 399), (2, 68, 0, 0), (2, 69, 0, 0), (0, 0, 28, 28), (0, 0, (-2147483648), 2147483647), (2, 77, 0, 0), (0, 0, 0, 0), (0, 0, 1, 1)], [(6, 4, (-1))], [(3, 37, (11, 0)), (3, 38, (12, 0)), (3, 20, (13, 0)), (3, 24, (7, 0)), (3, 25, (8, 0))], [], [(4, (6, 1)), (0, (3, 0)), (2, (4, 0)), (3, (5, 0))], [(0, 3), (1, 4), (2, 5), (3, 6), (4, 7), (5, 8), (6, 9), (7, 10)], []), [], 0, 0, (0, []))
def zv_Bd0 : zk_An := (10, ([(0, 0, 0, 0), (1, 0, 0, 0), (2, 0, (-1), (-1)), (2, 92, 0, 0), (0, 0, 1, 400), (0, 0, 1, 400), (0, 0, 0, 399), (2, 68, 0, 0), (2, 69, 0, 0), (0, 0, 29, 2147483647), (0, 0, 0, 400), (2, 77, 0, 0), (0, 0, 0, 0), (0, 0, 1, 1)], [(6, 4, (-1))], [(3, 37, (11, 0)), (3, 38, (12, 0)), (3, 20, (13, 0)), (3, 24, (7, 0)), (3, 25, (8, 0))], [], [(3, (5, (-1))), (4, (6, 1)), (0, (3, 0)), (2, (4, 0))], [(0, 3), (1, 4), (2, 5), (3, 6), (4, 7), (5, 8), (6, 9), (7, 10)], []), [], 0, 0, (0, []))
def zv_Bd1 : zk_An := (10, ([(0, 0, 0, 0), (1, 0, 0, 0), (2, 0, (-1), (-1)), (2, 92, 0, 0), (0, 0, 1, 400), (0, 0, 1, 400), (0, 0, 0, 399), (2, 68, 0, 0), (2, 69, 0, 0), (0, 0, 29, 2147483647), (0, 0, 0, 400), (2, 77, 0, 0), (0, 0, 0, 0), (0, 0, 1, 1)], [(6, 4, (-1))], [(3, 37, (11, 0)), (3, 38, (12, 0)), (3, 20, (13, 0)), (3, 24, (7, 0)), (3, 25, (8, 0))], [], [(4, (10, 0)), (0, (3, 0)), (2, (4, 0)), (3, (5, 0))], [(0, 3), (1, 4), (2, 5), (3, 6), (4, 7), (5, 8), (6, 9), (7, 10)], []), [], 0, 0, (0, []))
theorem zv_hCL : ∀ q ∈ zv_CL, decode prog_14_method_65_code q.1 = .ok (q.2.1, q.2.2.1) := zq_note_ok zd_X12_reckonAll zv_ns
def zv_H : zk_An := (10, zv_KH, [], 0, 0, (0, []))
section ZK37
variable {p : Program} {l : Launch} {e : Env} {R : Room} {s : State} {m : MethodId} {args : Array Value} {below : List Frame} {meth : Method} {c : Code} {Q : State → Prop}
variable {cc : ByteArray} {w : zk_W} {u : zk_M} {Ts : List Jvm.Cond} {own : String}
theorem zv_head (hx : p.tables.exec = Jvm.exec) (hb : c.code = cc) (hcc : cc = prog_14_method_65_code) {X : Nat → Prop} {P0 : Nat → Option Nat} {G0 : Nat → va_E} {ps : List Int} (hE : zh_E l R s m args meth c w zv_E P0 X) (hQ : Q = MQ below (fun _ st o t => zk_post w zK_rk1 P0 G0 ps st t o) args s (zk_Kr zK_rk1).2.2.1 (zk_Kr zK_rk1).2.2.2 (fun q => w.2.2.2.1 ≤ q)) (hpl : ps.length = 3) {rO rA a : Nat} {cO cA : ClassId} {nO nA : Nat} {fO fA : Nat → Int32} (hrO : P0 rO = some 68) (hfO : G0 rO = .inl (cO, nO, .inl fO)) (hnO : 400 ≤ nO) (hrA : P0 rA = some 69) (hfA : G0 rA = .inl (cA, nA, .inl fA)) (hnA : 400 ≤ nA) {first last : Int} (hfi : 0 ≤ first) (hla : last ≤ 400) {d : Nat → Nat} (hd : ∀ q, first.toNat ≤ q → q < last.toNat → zk_ops d last.toNat q (fO q).toInt (fA q).toInt) (hdq : ∀ q, first.toNat ≤ q → q ≤ last.toNat → d q ≤ q) (hw : w.1 = zt_types) :
    ∀ (j : Nat) (N : List Int) (P : Nat → Option Nat) (F : Nat → va_E) (H : Heap) (locs : List Loc) (ls : Array Slot) (nn k : Int), zk_G w s (P0, G0, ps, zv_eff, [], 7, X) zv_KH N P F H locs ls → N[3]? = some (a : Int) → N[4]? = some last → N[5]? = some nn → N[6]? = some k → N[8]? = some (rO : Int) → N[9]? = some (rA : Int) → (last - k).toNat < j → (k < last → first ≤ k ∧ nn = (d k.toNat : Int)) → W p l e R s m args below meth c H locs 0 0 Q (F0 m 10 ls []) := by
  subst hcc
  intro j
  induction j with
  | zero => intro N P F H locs ls nn k hG e3 e4 e5 e6 e8 e9 hj; exact absurd hj (Nat.not_lt_zero _)
  | succ j ih =>
    intro N P F H locs ls nn k hG e3 e4 e5 e6 e8 e9 hj hinv
    have hext := hG.2.2.2.2.2.2.1
    have hef := hG.2.2.2.2.2.2.2.1
    refine zh_seg hx hb hE (ps' := [(a : Int), last, nn, k, (rO : Int), (rA : Int)]) (kp' := [(0, 0, 0, 0), (0, 0, 0, 0), (0, 0, 0, 0), (0, 0, 0, 0), (0, 0, 0, 0), (0, 0, 0, 0)]) (eff := zv_eff) rfl zv_hCL (AL := []) (AN := [zv_A371, zv_A36]) (fuel := 400) (pc := 10) (by decide +kernel) hext (zh_reb hG (pa := [(0, 3), (1, 4), (2, 5), (3, 6), (4, 8), (5, 9)]) (by
          intro q hq
          simp only [List.mem_cons, List.not_mem_nil, or_false] at hq
          rcases hq with rfl | rfl | rfl | rfl | rfl | rfl
          · exact ⟨_, e3, rfl⟩
          · exact ⟨_, e4, rfl⟩
          · exact ⟨_, e5, rfl⟩
          · exact ⟨_, e6, rfl⟩
          · exact ⟨_, e8, rfl⟩
          · exact ⟨_, e9, rfl⟩)) zh_nil (fun A hA => Or.inr (fun N1 P1 F1 H1 locs1 ls1 sv1 hG1 hS1 => ?_))
    have hxt1 := hG1.2.2.2.2.2.2.1
    have hext1 : ∀ a t, P0 a = some t → P1 a = some t := fun a t h => hxt1 a t (hext a t h)
    have hef1 : zk_ef zv_eff ps P0 G0 F1 := zh_ef hef hG1.2.2.2.2.2.2.2.1 hext zv_eok zv_eok
    have hp1 := hG1.2.2.2.2.2.2.2.2.2.1
    simp only [List.mem_cons, List.not_mem_nil, or_false] at hA
    rcases hA with rfl | rfl
    · exact zh_tail hx hb hE hQ hpl zv_hCL (fuel := 400) (by decide +kernel) (zh_back hG1 hext hef1 (pa := []) (fun q hq => absurd hq List.not_mem_nil)) hS1
    · have b1_0 : N1[3]? = some (a : Int) := zh_pa hp1 (j := 0) (List.mem_of_getElem? (i := 0) rfl) rfl
      have b1_1 : N1[4]? = some last := zh_pa hp1 (j := 1) (List.mem_of_getElem? (i := 1) rfl) rfl
      have b1_2 : N1[5]? = some nn := zh_pa hp1 (j := 2) (List.mem_of_getElem? (i := 2) rfl) rfl
      have b1_3 : N1[6]? = some k := zh_pa hp1 (j := 3) (List.mem_of_getElem? (i := 3) rfl) rfl
      have b1_4 : N1[7]? = some (rO : Int) := zh_pa hp1 (j := 4) (List.mem_of_getElem? (i := 4) rfl) rfl
      have b1_5 : N1[8]? = some (rA : Int) := zh_pa hp1 (j := 5) (List.mem_of_getElem? (i := 5) rfl) rfl
      obtain ⟨cB1, nB1, fB1, oB1, pB1, qB1, -⟩ := zk_iarr hG1.2.2.2.2.1 (hext1 rO 68 hrO) (T := zt_types.getD 68 (0, 0, 0, [])) (by rw [hw]; rfl) (Or.inl rfl)
      obtain ⟨yB1, zB1⟩ := zh_same hef1 hrO (by decide) hfO oB1
      have hk0 : 0 ≤ k ∧ k < last := by
        obtain ⟨m6, z1, z2, z3⟩ := zh_i hG1.1 (i := 6) rfl
        have hdd := zh_d hG1.2.1 (x := 6) (y := 4) (d := -1) (by decide) b1_3 b1_1
        rw [b1_3] at z1
        cases z1
        omega
      obtain ⟨i1, i2⟩ := hinv hk0.2
      refine zh_ald hx hb (zv_hCL (36, .iaload, 1, 0, []) (List.mem_of_getElem? (i := 19) rfl)) hG1 hS1 (xi := 6) (oi := 0) rfl b1_3 rfl b1_4 (hext1 rO 68 hrO) (T := zt_types.getD 68 (0, 0, 0, [])) (by rw [hw]; rfl) rfl oB1 (by omega) (by omega) (lo := -2147483648) (h9 := 2147483647) (zk_to32 _).1.1 (zk_to32 _).1.2 (fun sv15 hG15 hS15 => ?_)
      rw [show (fB1 (k + 0).toNat).toInt = (fO k.toNat).toInt by rw [Int.add_zero, zB1 _ (by omega)]] at hG15 hS15
      have hz1 := (zk_to32 (fO k.toNat)).1
      generalize hop : (fO k.toNat).toInt = op at hG15 hS15 hz1
      have hl1 := zk_all2_len hG1.1
      refine zh_seg hx hb hE (ps' := [(a : Int), last, nn, k, (rO : Int), (rA : Int), op]) (kp' := [(0, 0, 0, 0), (0, 0, 0, 0), (0, 0, 0, 0), (0, 0, 0, 0), (0, 0, 0, 0), (0, 0, 0, 0), (0, 0, 0, 0)]) (eff := zv_eff) rfl zv_hCL (AL := []) (AN := [zv_A72]) (fuel := 400) (pc := 37) (by decide +kernel) hext1 (zh_reb hG15 (pa := [(0, 3), (1, 4), (2, 5), (3, 6), (4, 7), (5, 8), (6, 11)]) (by
          intro q hq
          simp only [List.mem_cons, List.not_mem_nil, or_false] at hq
          rcases hq with rfl | rfl | rfl | rfl | rfl | rfl | rfl
          · exact ⟨_, zk_get_snoc b1_0, rfl⟩
          · exact ⟨_, zk_get_snoc b1_1, rfl⟩
          · exact ⟨_, zk_get_snoc b1_2, rfl⟩
          · exact ⟨_, zk_get_snoc b1_3, rfl⟩
          · exact ⟨_, zk_get_snoc b1_4, rfl⟩
          · exact ⟨_, zk_get_snoc b1_5, rfl⟩
          · exact ⟨_, (by show (N1 ++ [op])[zv_A36.2.1.1.length]? = _; rw [hl1]; exact zk_get_last), rfl⟩)) hS15 (fun A hA => Or.inr (fun N2 P2 F2 H2 locs2 ls2 sv2 hG2 hS2 => ?_))
      obtain rfl := List.mem_singleton.mp hA
      have hxt2 := hG2.2.2.2.2.2.2.1
      have hext2 : ∀ a t, P0 a = some t → P2 a = some t := fun a t h => hxt2 a t (hext1 a t h)
      have hef2 : zk_ef zv_eff ps P0 G0 F2 := zh_ef hef1 hG2.2.2.2.2.2.2.2.1 hext1 zv_eok zv_eok
      have hp2 := hG2.2.2.2.2.2.2.2.2.2.1
      have b2_0 : N2[3]? = some (a : Int) := zh_pa hp2 (j := 0) (List.mem_of_getElem? (i := 0) rfl) rfl
      have b2_1 : N2[4]? = some last := zh_pa hp2 (j := 1) (List.mem_of_getElem? (i := 1) rfl) rfl
      have b2_2 : N2[5]? = some nn := zh_pa hp2 (j := 2) (List.mem_of_getElem? (i := 2) rfl) rfl
      have b2_3 : N2[6]? = some k := zh_pa hp2 (j := 3) (List.mem_of_getElem? (i := 3) rfl) rfl
      have b2_4 : N2[7]? = some (rO : Int) := zh_pa hp2 (j := 4) (List.mem_of_getElem? (i := 4) rfl) rfl
      have b2_5 : N2[8]? = some (rA : Int) := zh_pa hp2 (j := 5) (List.mem_of_getElem? (i := 5) rfl) rfl
      obtain ⟨cB2, nB2, fB2, oB2, pB2, qB2, -⟩ := zk_iarr hG2.2.2.2.2.1 (hext2 rA 69 hrA) (T := zt_types.getD 69 (0, 0, 0, [])) (by rw [hw]; rfl) (Or.inl rfl)
      obtain ⟨yB2, zB2⟩ := zh_same hef2 hrA (by decide) hfA oB2
      refine zh_ald hx hb (zv_hCL (72, .iaload, 1, 0, []) (List.mem_of_getElem? (i := 39) rfl)) hG2 hS2 (xi := 6) (oi := 0) rfl b2_3 rfl b2_5 (hext2 rA 69 hrA) (T := zt_types.getD 69 (0, 0, 0, [])) (by rw [hw]; rfl) rfl oB2 (by omega) (by omega) (lo := -2147483648) (h9 := 2147483647) (zk_to32 _).1.1 (zk_to32 _).1.2 (fun sv25 hG25 hS25 => ?_)
      rw [show (fB2 (k + 0).toNat).toInt = (fA k.toNat).toInt by rw [Int.add_zero, zB2 _ (by omega)]] at hG25 hS25
      have hz2 := (zk_to32 (fA k.toNat)).1
      generalize harg : (fA k.toNat).toInt = arg at hG25 hS25 hz2
      have hl2 := zk_all2_len hG2.1
      have b2_6 : N2[9]? = some op := zh_pa hp2 (j := 6) (List.mem_of_getElem? (i := 6) rfl) rfl
      have hops := hd k.toNat (by omega) (by omega)
      rw [hop, harg] at hops
      have hdk := hdq k.toNat (by omega) (by omega)
      have c6 : (N2 ++ [arg])[9]? = some op := zk_get_snoc b2_6
      have c2 : (N2 ++ [arg])[5]? = some nn := zk_get_snoc b2_2
      have c7 : (N2 ++ [arg])[12]? = some arg := (by show (N2 ++ [arg])[zv_A72.2.1.1.length]? = _; rw [hl2]; exact zk_get_last)
      obtain ⟨hop00, hops⟩ := hops
      rcases hops with ⟨t1, t2, t3⟩ | ⟨t1, t2, t3, t4⟩ | ⟨t1, t2, t3⟩ | ⟨t1, t2, t3, t4, t5, t6⟩
      · have hs1 := zk_G.set hG25 (x := 9) (f := (0, 0, (-2147483648), 2147483647)) (f' := (0, 0, 0, 12)) rfl (Or.inl rfl) (fun q hq _ => by rw [c6] at hq; cases hq; exact ⟨by dsimp only; omega, by dsimp only; have := hz1.2; omega, hz1⟩)
        have hs2 := zk_G.set hs1 (x := 5) (f := (0, 0, 0, 400)) (f' := (0, 0, 0, 399)) rfl (Or.inl rfl) (fun q hq _ => by rw [c2] at hq; cases hq; exact ⟨by dsimp only; omega, by dsimp only; omega, ⟨by omega, by omega⟩⟩)
        obtain ⟨v9, s9, rfl, q9, hS9⟩ := zk_all2_cons hS25
        obtain ⟨f9, n9, z91, z92, z93, z94⟩ := q9
        cases c7.symm.trans z92
        match s9, hS9 with
        | [], _ =>
        refine zh_seg hx hb hE (ps' := [(a : Int), last, nn, k, (rO : Int), (rA : Int), op, arg]) (kp' := [(0, 0, 0, 0), (0, 0, 0, 0), (0, 0, 0, 0), (0, 0, 0, 0), (0, 0, 0, 0), (0, 0, 0, 0), (0, 0, 0, 0), (0, 0, 0, 0)]) (eff := zv_eff) rfl zv_hCL (AL := []) (AN := [zv_Ba0]) (fuel := 400) (pc := 73) (by decide +kernel) hext2 (zh_reb hs2 (pa := [(0, 3), (1, 4), (2, 5), (3, 6), (4, 7), (5, 8), (6, 9), (7, 12)]) (by
          intro q hq
          simp only [List.mem_cons, List.not_mem_nil, or_false] at hq
          rcases hq with rfl | rfl | rfl | rfl | rfl | rfl | rfl | rfl
          · exact ⟨_, zk_get_snoc b2_0, rfl⟩
          · exact ⟨_, zk_get_snoc b2_1, rfl⟩
          · exact ⟨_, zk_get_snoc b2_2, rfl⟩
          · exact ⟨_, zk_get_snoc b2_3, rfl⟩
          · exact ⟨_, zk_get_snoc b2_4, rfl⟩
          · exact ⟨_, zk_get_snoc b2_5, rfl⟩
          · exact ⟨_, zk_get_snoc b2_6, rfl⟩
          · exact ⟨_, c7, rfl⟩)) (zh_one (x := (12, 0)) ⟨(0, 0, (-2147483648), 2147483647), arg, rfl, c7, by rw [Int.add_zero]; exact hz2, by rw [z94]; cases z91; rfl⟩) (fun A hA => Or.inr (fun N3 P3 F3 H3 locs3 ls3 sv3 hG3 hS3 => ?_))
        have hxt3 := hG3.2.2.2.2.2.2.1
        have hext3 : ∀ a t, P0 a = some t → P3 a = some t := fun a t h => hxt3 a t (hext2 a t h)
        have hef3 : zk_ef zv_eff ps P0 G0 F3 := zh_ef hef2 hG3.2.2.2.2.2.2.2.1 hext2 zv_eok zv_eok
        have hp3 := hG3.2.2.2.2.2.2.2.2.2.1
        have hb3 := zh_back hG3 hext2 hef3 (pa := []) (fun q hq => absurd hq List.not_mem_nil)
        simp only [List.mem_cons, List.not_mem_nil, or_false] at hA
        rcases hA with rfl
        · obtain ⟨hf1, hf2⟩ := zh_fit hb3 hS3 zv_H [(0, 0), (1, 0), (2, 0), (3, 0), (4, 0), (5, 1), (6, 1), (13, 0), (7, 0), (8, 0)] (by decide +kernel)
          match sv3, hf2 with
          | [], _ =>
          refine ih _ P3 F3 H3 locs3 ls3 (nn + 1) (k + 1) hf1 ?_ ?_ ?_ ?_ ?_ ?_ ?_ ?_
          · show some (zk_val N3 (3, 0)) = _
            rw [zk_val_ok (zh_pa hp3 (j := 0) (List.mem_of_getElem? (i := 0) rfl) rfl), Int.add_zero]
          · show some (zk_val N3 (4, 0)) = _
            rw [zk_val_ok (zh_pa hp3 (j := 1) (List.mem_of_getElem? (i := 1) rfl) rfl), Int.add_zero]
          · show some (zk_val N3 (5, 1)) = _
            rw [zk_val_ok (zh_pa hp3 (j := 2) (List.mem_of_getElem? (i := 2) rfl) rfl)]
          · show some (zk_val N3 (6, 1)) = _
            rw [zk_val_ok (zh_pa hp3 (j := 3) (List.mem_of_getElem? (i := 3) rfl) rfl)]
          · show some (zk_val N3 (7, 0)) = _
            rw [zk_val_ok (zh_pa hp3 (j := 4) (List.mem_of_getElem? (i := 4) rfl) rfl), Int.add_zero]
          · show some (zk_val N3 (8, 0)) = _
            rw [zk_val_ok (zh_pa hp3 (j := 5) (List.mem_of_getElem? (i := 5) rfl) rfl), Int.add_zero]
          · omega
          · intro hlt
            refine ⟨by omega, ?_⟩
            have e1 : (k + 1).toNat = k.toNat + 1 := by omega
            rw [e1]
            omega
      · have hs1 := zk_G.set hG25 (x := 9) (f := (0, 0, (-2147483648), 2147483647)) (f' := (0, 0, 20, 27)) rfl (Or.inl rfl) (fun q hq _ => by rw [c6] at hq; cases hq; exact ⟨by dsimp only; omega, by dsimp only; have := hz1.2; omega, hz1⟩)
        have hs2 := zk_G.set hs1 (x := 5) (f := (0, 0, 0, 400)) (f' := (0, 0, 2, 400)) rfl (Or.inl rfl) (fun q hq _ => by rw [c2] at hq; cases hq; exact ⟨by dsimp only; omega, by dsimp only; omega, ⟨by omega, by omega⟩⟩)
        obtain ⟨v9, s9, rfl, q9, hS9⟩ := zk_all2_cons hS25
        obtain ⟨f9, n9, z91, z92, z93, z94⟩ := q9
        cases c7.symm.trans z92
        match s9, hS9 with
        | [], _ =>
        refine zh_seg hx hb hE (ps' := [(a : Int), last, nn, k, (rO : Int), (rA : Int), op, arg]) (kp' := [(0, 0, 0, 0), (0, 0, 0, 0), (0, 0, 0, 0), (0, 0, 0, 0), (0, 0, 0, 0), (0, 0, 0, 0), (0, 0, 0, 0), (0, 0, 0, 0)]) (eff := zv_eff) rfl zv_hCL (AL := []) (AN := [zv_Bb0]) (fuel := 400) (pc := 73) (by decide +kernel) hext2 (zh_reb hs2 (pa := [(0, 3), (1, 4), (2, 5), (3, 6), (4, 7), (5, 8), (6, 9), (7, 12)]) (by
          intro q hq
          simp only [List.mem_cons, List.not_mem_nil, or_false] at hq
          rcases hq with rfl | rfl | rfl | rfl | rfl | rfl | rfl | rfl
          · exact ⟨_, zk_get_snoc b2_0, rfl⟩
          · exact ⟨_, zk_get_snoc b2_1, rfl⟩
          · exact ⟨_, zk_get_snoc b2_2, rfl⟩
          · exact ⟨_, zk_get_snoc b2_3, rfl⟩
          · exact ⟨_, zk_get_snoc b2_4, rfl⟩
          · exact ⟨_, zk_get_snoc b2_5, rfl⟩
          · exact ⟨_, zk_get_snoc b2_6, rfl⟩
          · exact ⟨_, c7, rfl⟩)) (zh_one (x := (12, 0)) ⟨(0, 0, (-2147483648), 2147483647), arg, rfl, c7, by rw [Int.add_zero]; exact hz2, by rw [z94]; cases z91; rfl⟩) (fun A hA => Or.inr (fun N3 P3 F3 H3 locs3 ls3 sv3 hG3 hS3 => ?_))
        have hxt3 := hG3.2.2.2.2.2.2.1
        have hext3 : ∀ a t, P0 a = some t → P3 a = some t := fun a t h => hxt3 a t (hext2 a t h)
        have hef3 : zk_ef zv_eff ps P0 G0 F3 := zh_ef hef2 hG3.2.2.2.2.2.2.2.1 hext2 zv_eok zv_eok
        have hp3 := hG3.2.2.2.2.2.2.2.2.2.1
        have hb3 := zh_back hG3 hext2 hef3 (pa := []) (fun q hq => absurd hq List.not_mem_nil)
        simp only [List.mem_cons, List.not_mem_nil, or_false] at hA
        rcases hA with rfl
        · obtain ⟨hf1, hf2⟩ := zh_fit hb3 hS3 zv_H [(0, 0), (1, 0), (2, 0), (3, 0), (4, 0), (5, (-1)), (6, 1), (13, 0), (7, 0), (8, 0)] (by decide +kernel)
          match sv3, hf2 with
          | [], _ =>
          refine ih _ P3 F3 H3 locs3 ls3 (nn + (-1)) (k + 1) hf1 ?_ ?_ ?_ ?_ ?_ ?_ ?_ ?_
          · show some (zk_val N3 (3, 0)) = _
            rw [zk_val_ok (zh_pa hp3 (j := 0) (List.mem_of_getElem? (i := 0) rfl) rfl), Int.add_zero]
          · show some (zk_val N3 (4, 0)) = _
            rw [zk_val_ok (zh_pa hp3 (j := 1) (List.mem_of_getElem? (i := 1) rfl) rfl), Int.add_zero]
          · show some (zk_val N3 (5, (-1))) = _
            rw [zk_val_ok (zh_pa hp3 (j := 2) (List.mem_of_getElem? (i := 2) rfl) rfl)]
          · show some (zk_val N3 (6, 1)) = _
            rw [zk_val_ok (zh_pa hp3 (j := 3) (List.mem_of_getElem? (i := 3) rfl) rfl)]
          · show some (zk_val N3 (7, 0)) = _
            rw [zk_val_ok (zh_pa hp3 (j := 4) (List.mem_of_getElem? (i := 4) rfl) rfl), Int.add_zero]
          · show some (zk_val N3 (8, 0)) = _
            rw [zk_val_ok (zh_pa hp3 (j := 5) (List.mem_of_getElem? (i := 5) rfl) rfl), Int.add_zero]
          · omega
          · intro hlt
            refine ⟨by omega, ?_⟩
            have e1 : (k + 1).toNat = k.toNat + 1 := by omega
            rw [e1]
            omega
      · have hs1 := zk_G.set hG25 (x := 9) (f := (0, 0, (-2147483648), 2147483647)) (f' := (0, 0, 28, 28)) rfl (Or.inl rfl) (fun q hq _ => by rw [c6] at hq; cases hq; exact ⟨by dsimp only; omega, by dsimp only; have := hz1.2; omega, hz1⟩)
        have hs2 := zk_G.set hs1 (x := 5) (f := (0, 0, 0, 400)) (f' := (0, 0, 1, 400)) rfl (Or.inl rfl) (fun q hq _ => by rw [c2] at hq; cases hq; exact ⟨by dsimp only; omega, by dsimp only; omega, ⟨by omega, by omega⟩⟩)
        obtain ⟨v9, s9, rfl, q9, hS9⟩ := zk_all2_cons hS25
        obtain ⟨f9, n9, z91, z92, z93, z94⟩ := q9
        cases c7.symm.trans z92
        match s9, hS9 with
        | [], _ =>
        refine zh_seg hx hb hE (ps' := [(a : Int), last, nn, k, (rO : Int), (rA : Int), op, arg]) (kp' := [(0, 0, 0, 0), (0, 0, 0, 0), (0, 0, 0, 0), (0, 0, 0, 0), (0, 0, 0, 0), (0, 0, 0, 0), (0, 0, 0, 0), (0, 0, 0, 0)]) (eff := zv_eff) rfl zv_hCL (AL := []) (AN := [zv_Bc0]) (fuel := 400) (pc := 73) (by decide +kernel) hext2 (zh_reb hs2 (pa := [(0, 3), (1, 4), (2, 5), (3, 6), (4, 7), (5, 8), (6, 9), (7, 12)]) (by
          intro q hq
          simp only [List.mem_cons, List.not_mem_nil, or_false] at hq
          rcases hq with rfl | rfl | rfl | rfl | rfl | rfl | rfl | rfl
          · exact ⟨_, zk_get_snoc b2_0, rfl⟩
          · exact ⟨_, zk_get_snoc b2_1, rfl⟩
          · exact ⟨_, zk_get_snoc b2_2, rfl⟩
          · exact ⟨_, zk_get_snoc b2_3, rfl⟩
          · exact ⟨_, zk_get_snoc b2_4, rfl⟩
          · exact ⟨_, zk_get_snoc b2_5, rfl⟩
          · exact ⟨_, zk_get_snoc b2_6, rfl⟩
          · exact ⟨_, c7, rfl⟩)) (zh_one (x := (12, 0)) ⟨(0, 0, (-2147483648), 2147483647), arg, rfl, c7, by rw [Int.add_zero]; exact hz2, by rw [z94]; cases z91; rfl⟩) (fun A hA => Or.inr (fun N3 P3 F3 H3 locs3 ls3 sv3 hG3 hS3 => ?_))
        have hxt3 := hG3.2.2.2.2.2.2.1
        have hext3 : ∀ a t, P0 a = some t → P3 a = some t := fun a t h => hxt3 a t (hext2 a t h)
        have hef3 : zk_ef zv_eff ps P0 G0 F3 := zh_ef hef2 hG3.2.2.2.2.2.2.2.1 hext2 zv_eok zv_eok
        have hp3 := hG3.2.2.2.2.2.2.2.2.2.1
        have hb3 := zh_back hG3 hext2 hef3 (pa := []) (fun q hq => absurd hq List.not_mem_nil)
        simp only [List.mem_cons, List.not_mem_nil, or_false] at hA
        rcases hA with rfl
        · obtain ⟨hf1, hf2⟩ := zh_fit hb3 hS3 zv_H [(0, 0), (1, 0), (2, 0), (3, 0), (4, 0), (5, 0), (6, 1), (13, 0), (7, 0), (8, 0)] (by decide +kernel)
          match sv3, hf2 with
          | [], _ =>
          refine ih _ P3 F3 H3 locs3 ls3 (nn + 0) (k + 1) hf1 ?_ ?_ ?_ ?_ ?_ ?_ ?_ ?_
          · show some (zk_val N3 (3, 0)) = _
            rw [zk_val_ok (zh_pa hp3 (j := 0) (List.mem_of_getElem? (i := 0) rfl) rfl), Int.add_zero]
          · show some (zk_val N3 (4, 0)) = _
            rw [zk_val_ok (zh_pa hp3 (j := 1) (List.mem_of_getElem? (i := 1) rfl) rfl), Int.add_zero]
          · show some (zk_val N3 (5, 0)) = _
            rw [zk_val_ok (zh_pa hp3 (j := 2) (List.mem_of_getElem? (i := 2) rfl) rfl)]
          · show some (zk_val N3 (6, 1)) = _
            rw [zk_val_ok (zh_pa hp3 (j := 3) (List.mem_of_getElem? (i := 3) rfl) rfl)]
          · show some (zk_val N3 (7, 0)) = _
            rw [zk_val_ok (zh_pa hp3 (j := 4) (List.mem_of_getElem? (i := 4) rfl) rfl), Int.add_zero]
          · show some (zk_val N3 (8, 0)) = _
            rw [zk_val_ok (zh_pa hp3 (j := 5) (List.mem_of_getElem? (i := 5) rfl) rfl), Int.add_zero]
          · omega
          · intro hlt
            refine ⟨by omega, ?_⟩
            have e1 : (k + 1).toNat = k.toNat + 1 := by omega
            rw [e1]
            omega
      · have hs1 := zk_G.set hG25 (x := 9) (f := (0, 0, (-2147483648), 2147483647)) (f' := (0, 0, 29, 2147483647)) rfl (Or.inl rfl) (fun q hq _ => by rw [c6] at hq; cases hq; exact ⟨by dsimp only; omega, by dsimp only; have := hz1.2; omega, hz1⟩)
        have hs2 := zk_G.set hs1 (x := 5) (f := (0, 0, 0, 400)) (f' := (0, 0, 1, 400)) rfl (Or.inl rfl) (fun q hq _ => by rw [c2] at hq; cases hq; exact ⟨by dsimp only; omega, by dsimp only; omega, ⟨by omega, by omega⟩⟩)
        have hs3 := zk_G.set hs2 (x := 12) (f := (0, 0, -2147483648, 2147483647)) (f' := (0, 0, 0, 400)) rfl (Or.inl rfl) (fun q hq _ => by rw [c7] at hq; cases hq; exact ⟨by dsimp only; omega, by dsimp only; omega, ⟨by omega, by omega⟩⟩)
        obtain ⟨v9, s9, rfl, q9, hS9⟩ := zk_all2_cons hS25
        obtain ⟨f9, n9, z91, z92, z93, z94⟩ := q9
        cases c7.symm.trans z92
        match s9, hS9 with
        | [], _ =>
        refine zh_seg hx hb hE (ps' := [(a : Int), last, nn, k, (rO : Int), (rA : Int), op, arg]) (kp' := [(0, 0, 0, 0), (0, 0, 0, 0), (0, 0, 0, 0), (0, 0, 0, 0), (0, 0, 0, 0), (0, 0, 0, 0), (0, 0, 0, 0), (0, 0, 0, 0)]) (eff := zv_eff) rfl zv_hCL (AL := []) (AN := [zv_Bd0, zv_Bd1]) (fuel := 400) (pc := 73) (by decide +kernel) hext2 (zh_reb hs3 (pa := [(0, 3), (1, 4), (2, 5), (3, 6), (4, 7), (5, 8), (6, 9), (7, 12)]) (by
          intro q hq
          simp only [List.mem_cons, List.not_mem_nil, or_false] at hq
          rcases hq with rfl | rfl | rfl | rfl | rfl | rfl | rfl | rfl
          · exact ⟨_, zk_get_snoc b2_0, rfl⟩
          · exact ⟨_, zk_get_snoc b2_1, rfl⟩
          · exact ⟨_, zk_get_snoc b2_2, rfl⟩
          · exact ⟨_, zk_get_snoc b2_3, rfl⟩
          · exact ⟨_, zk_get_snoc b2_4, rfl⟩
          · exact ⟨_, zk_get_snoc b2_5, rfl⟩
          · exact ⟨_, zk_get_snoc b2_6, rfl⟩
          · exact ⟨_, c7, rfl⟩)) (zh_one (x := (12, 0)) ⟨(0, 0, 0, 400), arg, rfl, c7, by rw [Int.add_zero]; exact hz2, by rw [z94]; cases z91; rfl⟩) (fun A hA => Or.inr (fun N3 P3 F3 H3 locs3 ls3 sv3 hG3 hS3 => ?_))
        have hxt3 := hG3.2.2.2.2.2.2.1
        have hext3 : ∀ a t, P0 a = some t → P3 a = some t := fun a t h => hxt3 a t (hext2 a t h)
        have hef3 : zk_ef zv_eff ps P0 G0 F3 := zh_ef hef2 hG3.2.2.2.2.2.2.2.1 hext2 zv_eok zv_eok
        have hp3 := hG3.2.2.2.2.2.2.2.2.2.1
        have hb3 := zh_back hG3 hext2 hef3 (pa := []) (fun q hq => absurd hq List.not_mem_nil)
        simp only [List.mem_cons, List.not_mem_nil, or_false] at hA
        rcases hA with rfl | rfl
        · obtain ⟨hf1, hf2⟩ := zh_fit hb3 hS3 zv_H [(0, 0), (1, 0), (2, 0), (3, 0), (4, 0), (5, (-1)), (6, 1), (13, 0), (7, 0), (8, 0)] (by decide +kernel)
          match sv3, hf2 with
          | [], _ =>
          refine ih _ P3 F3 H3 locs3 ls3 (nn + (-1)) (k + 1) hf1 ?_ ?_ ?_ ?_ ?_ ?_ ?_ ?_
          · show some (zk_val N3 (3, 0)) = _
            rw [zk_val_ok (zh_pa hp3 (j := 0) (List.mem_of_getElem? (i := 0) rfl) rfl), Int.add_zero]
          · show some (zk_val N3 (4, 0)) = _
            rw [zk_val_ok (zh_pa hp3 (j := 1) (List.mem_of_getElem? (i := 1) rfl) rfl), Int.add_zero]
          · show some (zk_val N3 (5, (-1))) = _
            rw [zk_val_ok (zh_pa hp3 (j := 2) (List.mem_of_getElem? (i := 2) rfl) rfl)]
          · show some (zk_val N3 (6, 1)) = _
            rw [zk_val_ok (zh_pa hp3 (j := 3) (List.mem_of_getElem? (i := 3) rfl) rfl)]
          · show some (zk_val N3 (7, 0)) = _
            rw [zk_val_ok (zh_pa hp3 (j := 4) (List.mem_of_getElem? (i := 4) rfl) rfl), Int.add_zero]
          · show some (zk_val N3 (8, 0)) = _
            rw [zk_val_ok (zh_pa hp3 (j := 5) (List.mem_of_getElem? (i := 5) rfl) rfl), Int.add_zero]
          · omega
          · intro hlt
            refine ⟨by omega, ?_⟩
            have e1 : (k + 1).toNat = k.toNat + 1 := by omega
            rw [e1]
            omega
        · obtain ⟨hf1, hf2⟩ := zh_fit hb3 hS3 zv_H [(0, 0), (1, 0), (2, 0), (3, 0), (4, 0), (5, 0), (10, 0), (13, 0), (7, 0), (8, 0)] (by decide +kernel)
          match sv3, hf2 with
          | [], _ =>
          refine ih _ P3 F3 H3 locs3 ls3 (nn + 0) (arg + 0) hf1 ?_ ?_ ?_ ?_ ?_ ?_ ?_ ?_
          · show some (zk_val N3 (3, 0)) = _
            rw [zk_val_ok (zh_pa hp3 (j := 0) (List.mem_of_getElem? (i := 0) rfl) rfl), Int.add_zero]
          · show some (zk_val N3 (4, 0)) = _
            rw [zk_val_ok (zh_pa hp3 (j := 1) (List.mem_of_getElem? (i := 1) rfl) rfl), Int.add_zero]
          · show some (zk_val N3 (5, 0)) = _
            rw [zk_val_ok (zh_pa hp3 (j := 2) (List.mem_of_getElem? (i := 2) rfl) rfl)]
          · show some (zk_val N3 (10, 0)) = _
            rw [zk_val_ok (zh_pa hp3 (j := 7) (List.mem_of_getElem? (i := 7) rfl) rfl)]
          · show some (zk_val N3 (7, 0)) = _
            rw [zk_val_ok (zh_pa hp3 (j := 4) (List.mem_of_getElem? (i := 4) rfl) rfl), Int.add_zero]
          · show some (zk_val N3 (8, 0)) = _
            rw [zk_val_ok (zh_pa hp3 (j := 5) (List.mem_of_getElem? (i := 5) rfl) rfl), Int.add_zero]
          · omega
          · intro hlt
            refine ⟨by omega, ?_⟩
            rw [show arg + 0 = arg by omega, t6]
            omega
end ZK37

/-- an order's code is to be reckoned: what stands where, and that it's well-formed -/
def zv_A : zk_Q := fun P F ps => ∃ (a rO rA : Nat) (first last : Int) (cO cA : ClassId) (nO nA : Nat) (fO fA : Nat → Int32), ps = [(a : Int), first, last] ∧ P a = some 92 ∧ zk_rd (F a) 20 = some (.int 1) ∧ zk_rd (F a) 24 = some (.ref rO) ∧ P rO = some 68 ∧ F rO = .inl (cO, nO, .inl fO) ∧ zk_rd (F a) 25 = some (.ref rA) ∧ P rA = some 69 ∧ F rA = .inl (cA, nA, .inl fA) ∧ (first < last → zk_cr (fun k => (fO k).toInt) (fun k => (fA k).toInt) first.toNat last.toNat)
theorem zv_reckon {l : Launch} {w : zk_W} (hW : zh_W w) : zk_metX l w zt_dv zt_TB zK_rk1 zv_A zk_tB ∧ zk_cok w zt_TB zK_rk1 := by
  refine zh_methH hW (lk := zv_E.2.1) (KS := zv_E.2.2.2.1) (km := zv_E.2.2.2.2.1) (lc := zv_E.2.2.2.2.2.1) (K := zK_rk1) (pl := 1821) (by decide) (by decide +kernel) (by decide +kernel) (by
    intro K h
    rcases List.mem_cons.mp h with rfl | h
    · exact zq_2144 hW
    rcases List.mem_cons.mp h with rfl | h
    · exact zq_2145 hW
    rcases List.mem_cons.mp h with rfl | h
    · exact zq_2142 hW
    rcases List.mem_cons.mp h with rfl | h
    · exact zq_2143 hW
    rcases List.mem_cons.mp h with rfl | h
    · exact zq_2146 hW
    rw [List.mem_singleton.mp h]
    exact zq_2147 hW) (fun p e R s m args below meth c Q P0 G0 ps X hx hb hA hps hE hQ H locs ls hG => ?_)
  obtain ⟨a, rO, rA, first, last, cO, cA, nO, nA, fO, fA, rfl, ha, h20, h24, hrO, hfO, h25, hrA, hfA, hcr⟩ := hA
  have hE : zh_E l R s m args meth c w zv_E P0 X := hE
  have r1 : 0 ≤ first ∧ first ≤ 400 := by
    obtain ⟨n1, z1, z2, z3⟩ := zh_i (i := 1) (lo := 0) (hi := 400) hps rfl
    cases z1
    exact ⟨z2, z3⟩
  have r2 : 0 ≤ last ∧ last ≤ 400 := by
    obtain ⟨n1, z1, z2, z3⟩ := zh_i (i := 2) (lo := 0) (hi := 400) hps rfl
    cases z1
    exact ⟨z2, z3⟩
  have hnO : 400 ≤ nO := by
    obtain ⟨c1, n1, f1, o1, o2, -⟩ := zk_iarr hG.2.2.2.2.1 hrO (T := zt_types.getD 68 (0, 0, 0, [])) (by rw [hW.1]; rfl) (Or.inl rfl)
    rw [hfO] at o1
    cases o1
    exact o2
  have hnA : 400 ≤ nA := by
    obtain ⟨c1, n1, f1, o1, o2, -⟩ := zk_iarr hG.2.2.2.2.1 hrA (T := zt_types.getD 69 (0, 0, 0, [])) (by rw [hW.1]; rfl) (Or.inl rfl)
    rw [hfA] at o1
    cases o1
    exact o2
  have g1 := zh_fact hG (x := 3) (a := a) (t := 92) (k := 20) (f := (0, 0, 1, 1)) (n := 1) rfl ha h20 rfl ⟨by decide, by decide, ⟨by decide, by decide⟩⟩
  have g2 := zh_fact g1 (x := 3) (a := a) (t := 92) (k := 24) (f := (2, 68, 0, 0)) (n := (rO : Int)) rfl ha h24 (by show Value.ref rO = if (rO : Int) < 0 then Value.null else .ref (rO : Int).toNat; rw [if_neg (by omega)]; rfl) ⟨by dsimp only; omega, by omega, fun q => absurd q (by decide), fun _ => hrO⟩
  have g3 := zh_fact g2 (x := 3) (a := a) (t := 92) (k := 25) (f := (2, 69, 0, 0)) (n := (rA : Int)) rfl ha h25 (by show Value.ref rA = if (rA : Int) < 0 then Value.null else .ref (rA : Int).toNat; rw [if_neg (by omega)]; rfl) ⟨by dsimp only; omega, by omega, fun q => absurd q (by decide), fun _ => hrA⟩
  obtain ⟨d, hd0, hd, hdq⟩ : ∃ d : Nat → Nat, (first < last → d first.toNat = 0) ∧ (∀ q, first.toNat ≤ q → q < last.toNat → zk_ops d last.toNat q (fO q).toInt (fA q).toInt) ∧ ∀ q, first.toNat ≤ q → q ≤ last.toNat → d q ≤ q := by
    by_cases hlt : first < last
    · obtain ⟨d, z1, z2⟩ := hcr hlt
      exact ⟨d, fun _ => z1, z2, zr_depth (co := fun k => (fO k).toInt) (ca := fun k => (fA k).toInt) z1 z2⟩
    · exact ⟨fun _ => 0, fun q => absurd q hlt, fun q z1 z2 => by omega, fun q _ _ => Nat.zero_le _⟩
  have hpa : zk_pa (([0, 0, -1] ++ [(a : Int), first, last] : List Int) ++ [1] ++ [(rO : Int)] ++ [(rA : Int)]) [(a : Int), first, last, (rO : Int), (rA : Int)] [(0, 3), (1, 4), (2, 5), (3, 7), (4, 8)] := by
    intro q hq
    simp only [List.mem_cons, List.not_mem_nil, or_false] at hq
    rcases hq with rfl | rfl | rfl | rfl | rfl
    all_goals exact ⟨_, rfl, rfl⟩
  refine zh_seg hx hb hE (kp' := [(0, 0, 0, 0), (0, 0, 0, 0), (0, 0, 0, 0), (0, 0, 0, 0), (0, 0, 0, 0)]) (eff := zv_eff) rfl zv_hCL (AL := []) (AN := [zv_A10]) (fuel := 400) (κ := zv_K0) (by decide +kernel) (fun _ _ h => h) (zh_reb g3 hpa) zh_nil (fun A hA => Or.inr (fun N1 P1 F1 H1 locs1 ls1 sv1 hG1 hS1 => ?_))
  obtain rfl := List.mem_singleton.mp hA
  have hef1 : zk_ef zv_eff [(a : Int), first, last] P0 G0 F1 := zh_ef (P1 := P0) (G1 := G0) (e1 := []) (ps1 := []) (fun _ _ _ => zk_same.rf) hG1.2.2.2.2.2.2.2.1 (fun _ _ h => h) (fun e h => absurd h List.not_mem_nil) zv_eok
  have hp1 := hG1.2.2.2.2.2.2.2.2.2.1
  have hb1 := zh_back hG1 (fun _ _ h => h) hef1 (pa := []) (fun q hq => absurd hq List.not_mem_nil)
  obtain ⟨hf1, hf2⟩ := zh_fit hb1 hS1 zv_H [(0, 0), (1, 0), (2, 0), (3, 0), (5, 0), (0, 0), (4, 0), (8, 0), (6, 0), (7, 0)] (by decide +kernel)
  match sv1, hf2 with
  | [], _ =>
  refine zv_head hx hb rfl hE hQ rfl hrO hfO hnO hrA hfA hnA r1.1 r2.2 hd hdq hW.1 ((last - first).toNat + 1) _ P1 F1 H1 locs1 ls1 0 first hf1 (a := a) ?_ ?_ ?_ ?_ ?_ ?_ (by omega) (fun hlt => ⟨Int.le_refl _, by rw [hd0 hlt]; rfl⟩)
  · show some (zk_val N1 (3, 0)) = _
    rw [zk_val_ok (zh_pa hp1 (j := 0) (List.mem_of_getElem? (i := 0) rfl) rfl), Int.add_zero]
  · show some (zk_val N1 (5, 0)) = _
    rw [zk_val_ok (zh_pa hp1 (j := 2) (List.mem_of_getElem? (i := 2) rfl) rfl), Int.add_zero]
  · show some (zk_val N1 (0, 0)) = _
    rw [zk_val_ok (zk_c0 hG1.1 rfl)]
    rfl
  · show some (zk_val N1 (4, 0)) = _
    rw [zk_val_ok (zh_pa hp1 (j := 1) (List.mem_of_getElem? (i := 1) rfl) rfl), Int.add_zero]
  · show some (zk_val N1 (6, 0)) = _
    rw [zk_val_ok (zh_pa hp1 (j := 3) (List.mem_of_getElem? (i := 3) rfl) rfl), Int.add_zero]
  · show some (zk_val N1 (7, 0)) = _
    rw [zk_val_ok (zh_pa hp1 (j := 4) (List.mem_of_getElem? (i := 4) rfl) rfl), Int.add_zero]

