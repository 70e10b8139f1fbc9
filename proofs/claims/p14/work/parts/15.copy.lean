/-! part 15: System.arraycopy of ints -/
theorem zk_all2_cons {α β : Type} {R : α → β → Prop} {a : α} {as : List α} {bs : List β} (h : zk_all2 R (a :: as) bs) : ∃ b bs', bs = b :: bs' ∧ R a b ∧ zk_all2 R as bs' := by
  cases bs with
  | nil => exact h.elim
  | cons b bs' => exact ⟨b, bs', rfl, h.1, h.2⟩
section ZK15
variable {p : Program} {l : Launch} {e : Env} {R : Room} {s : State} {m : MethodId} {args : Array Value} {below : List Frame} {meth : Method} {c : Code} {Q : State → Prop}
variable {cc : ByteArray} {w : zk_W} {u : zk_M} {Ts : List Jvm.Cond} {own : String}
theorem zw_copyi (hx : p.tables.exec = Jvm.exec) (hb : c.code = cc) {pc : Nat} {ls : Array Slot} {rest : List Value} {H : Heap} {locs : List Loc} {cells slots : Nat} (hml : c.maxLocals = ls.size) {index : Nat} (hown : s.vm.findClass own = some m.cls) (hlink : (Jvm.Cond.methodLink own index arraycopyName).before args s = true) (hnat : (Jvm.Cond.native arraycopyName).before args s = true) (hstat : (Jvm.Cond.static arraycopyName).before args s = true) (hini : (Jvm.Cond.initialized "java/lang/System").before args s = true)
    {a0 a : Nat} {c0 c1 : ClassId} {n0 n1 : Nat} {f g : Nat → Int32} (ha0 : H[a0]? = some (vp_cell c0 (n0, .inl f))) (ha1 : H[a]? = some (vp_cell c1 (n1, .inl g))) (ht0 : ArrOfT s c0 .int) (ht1 : ArrOfT s c1 .int)
    {sp dp n : Int32} (h1 : ¬ sp < 0) (h2 : ¬ dp < 0) (h3 : ¬ n < 0) (h4 : sp.toNatClampNeg + n.toNatClampNeg ≤ n0) (h5 : dp.toNatClampNeg + n.toNatClampNeg ≤ n1)
    (hframes : 1 ≤ R.frames) (hlocals : (rest.map fun v => v.category).sum + (nativeFrameWords "java/lang/System" "arraycopy" 5 + 11) ≤ R.locals) (hdg : decode cc pc = .ok (.invokestatic index, 3))
    (kk : ∀ (H1 : Heap) (L : List Loc), H1[a]? = some (vp_cell c1 (n1, .inl (va_cpy f g sp.toNatClampNeg dp.toNatClampNeg n.toNatClampNeg))) → H1.size = H.size → (∀ q, q ≠ a → H1[q]? = H[q]?) → (∀ q ∈ L, q.base = a) → W p l e R s m args below meth c H1 (locs ++ L) cells slots Q (F0 m (pc + 3) ls rest)) : W p l e R s m args below meth c H locs cells slots Q (F0 m pc ls (.int n :: .int dp :: .ref a :: .int sp :: .ref a0 :: rest)) := by
  have nn : ∀ z : Int32, ¬ z < 0 → z.toInt = (z.toNatClampNeg : Int) := by
    intro z hz
    have hz0 : (0 : Int) ≤ z.toInt := by
      have := Int32.not_lt.mp hz
      simpa using Int32.le_iff_toInt_le.mp this
    show z.toInt = ((z.toInt.toNat : Nat) : Int)
    omega
  intro T hT X
  obtain ⟨-, k0, hk0, cm0, hkk0⟩ := ht0 n0 (fun j => .int (f j))
  obtain ⟨-, k1, hk1, cm1, hkk1⟩ := ht1 n1 (fun j => .int (g j))
  obtain ⟨vm', X', step⟩ := X.arraycopy hx hown hlink hnat hstat hini (src := a0) (dst := a) (cs := vp_cell c0 (n0, .inl f)) (cd := vp_cell c1 (n1, .inl g)) (srcPos := sp) (destPos := dp) (n := n) (by rw [hT]; exact ha0) (by rw [hT]; exact ha1)
    (fun _ h => by cases h) (fun _ h => by cases h) (fun h => by cases h) (fun h => by cases h) hk0 hk1 hkk0 hkk1 (by simp [refKind]) h1 h2 h3
    (by rw [nn sp h1, nn n h3]; show ¬ _ > ((arrV c0 n0 (fun j => .int (f j))).slots.size : Int); rw [arrV_size]; omega)
    (by rw [nn dp h2, nn n h3]; show ¬ _ > ((arrV c1 n1 (fun j => .int (g j))).slots.size : Int); rw [arrV_size]; omega)
    (fun vm₁ _ i hi => by
      have e : (vp_cell c0 (n0, .inl f)).slots.getD (sp.toNatClampNeg + i) .null = .int (f (sp.toNatClampNeg + i)) := by
        show (arrV c0 n0 (fun j => .int (f j))).slots.getD _ _ = _
        rw [Array.getD_eq_getD_getElem?, arrV_read _ _ (by omega)]
        rfl
      refine ⟨?_, ?_⟩
      · rw [e]
        rfl
      · rw [e]
        exact trivial)
    (g := F0 m pc ls (.int n :: .int dp :: .ref a :: .int sp :: .ref a0 :: rest)) rfl (by rw [hml]) (rest := rest) rfl (by rw [hb]; exact hdg) hframes (by show 2 * 0 + _ + _ ≤ _; omega)
  have e1 : copied (vp_cell c0 (n0, .inl f)) (vp_cell c1 (n1, .inl g)) sp dp n = vp_cell c1 (n1, .inl (va_cpy f g sp.toNatClampNeg dp.toNatClampNeg n.toNatClampNeg)) := va_copied (fun z => .int z) c0 c1 f g h4
  rw [e1] at X' step
  have hl : a < H.size := (Array.getElem?_eq_some_iff.mp ha1).1
  have hheap : ((T.setVm vm').setCell a (vp_cell c1 (n1, .inl (va_cpy f g sp.toNatClampNeg dp.toNatClampNeg n.toNatClampNeg)))).heap = H.setIfInBounds a (vp_cell c1 (n1, .inl (va_cpy f g sp.toNatClampNeg dp.toNatClampNeg n.toNatClampNeg))) := by rw [← hT]; rfl
  obtain ⟨t, a1, b1⟩ := kk _ _ (show (H.setIfInBounds a _)[a]? = some _ by simp [Array.getElem?_setIfInBounds, hl]) (by simp) (fun q hq => by simp [Array.getElem?_setIfInBounds, Ne.symm hq]) (fun q hq => by
    obtain ⟨z, -, hz⟩ := List.mem_map.mp hq
    rw [← hz]) _ hheap X'
  exact ⟨t, step t a1, b1⟩
theorem zk_nfw : nativeFrameWords "java/lang/System" "arraycopy" 5 = 7 := by decide +kernel
/-- what is copied fits where it comes to -/
noncomputable def zk_cpT (ts t : Nat) (Ts Td : zk_T) (V : List zk_F) (n sp dp : zk_S) : Bool := (ts == t && decide (sp = dp)) || (match zk_rdT Ts (zk_lw V sp) (zk_hg V sp + zk_hg V n - 1) with
  | some g => g.1 == 0 && zk_wrT [g] (0, 0) Td (zk_lw V dp) (zk_hg V dp + zk_hg V n - 1)
  | none => false)
/-- the place q and n behind it lie within the array x of type T -/
noncomputable def zk_cin (κ : zk_C) (q n x : zk_S) (T : zk_T) : Bool := decide (zk_hg κ.1 q + zk_hg κ.1 n ≤ (T.2.1 : Int)) || (decide (zk_hg κ.1 q ≤ 0) && ((match zk_fnd κ x.1 1000 with
  | some r => zk_kd κ.1 r == 0 && (decide (zk_hg κ.1 n ≤ zk_lw κ.1 r) || (n.1 == r.1 && decide (n.2 ≤ r.2)))
  | none => false) || zk_cinr κ n x))
noncomputable def zk_s6 (ty : List zk_T) (lk : List zk_L) (eff : List (Nat × Nat × Nat)) (rm : Nat × Nat × Nat × Nat) (i : ClassFile.Instr) (len pc : Nat) (κ : zk_C) (st : List zk_S) (cu su : Nat) : Option zk_O := match i, st with
  | .invokestatic idx, n :: dp :: xd :: sp :: xs :: st' => match zk_lk lk 8 idx, zk_typ ty κ xs, zk_typ ty κ xd with
    | some _, some (ts, Ts), some (t, Td) => if len = 3 ∧ 1 ≤ rm.1 ∧ zk_cs κ.1 st' + 18 ≤ rm.2.1 ∧ Ts.1 = 1 ∧ Td.1 = 1 ∧ (t ≠ 59 ∧ t ≠ 60) ∧ zk_cpT ts t Ts Td κ.1 n sp dp = true ∧ zk_kd κ.1 n = 0 ∧ zk_kd κ.1 dp = 0 ∧ zk_kd κ.1 sp = 0 ∧ 0 ≤ zk_lw κ.1 n ∧ 0 ≤ zk_lw κ.1 dp ∧ 0 ≤ zk_lw κ.1 sp ∧ Ts.2.2.1 ≤ 2147483647 ∧ Td.2.2.1 ≤ 2147483647 ∧ zk_cin κ sp n xs Ts = true ∧ zk_cin κ dp n xd Td = true ∧ zk_mayb eff κ t 1001 xd.1 = true then some (pc + 3, (κ.1, κ.2.1, κ.2.2.1.filter (zk_keep κ.1 t 2000 1000000000000), κ.2.2.2), st', cu, su) else none
    | _, _, _ => none
  | _, _ => none
theorem zk_cin_ok {κ : zk_C} {N : List Int} {P : Nat → Option Nat} {F : Nat → va_E} {H : Heap} {locs : List Loc} {ls : Array Slot} (hG : zk_G w s u κ N P F H locs ls) {q n x : zk_S} {T : zk_T} (h : zk_cin κ q n x T = true) {vn : Int} {kn : Int} (hn : N[n.1]? = some kn) (en : vn = kn + n.2) (ln : vn ≤ zk_hg κ.1 n) {vq : Int} (lq : vq ≤ zk_hg κ.1 q) {a : Nat} (ha : N[x.1]? = some (a : Int)) {cA : ClassId} {y : vp_A} (hF : F a = .inl (cA, y)) (hp : T.2.1 ≤ y.1) (hq : y.1 ≤ 2147483647) : vq + vn ≤ y.1 := by
  unfold zk_cin at h
  simp only [Bool.or_eq_true, Bool.and_eq_true, decide_eq_true_eq] at h
  rcases h with h | ⟨h0, h | h⟩
  · omega
  rotate_left
  · have := zk_cinr_ok hG h hn ha hF
    omega
  · split at h
    · rename_i r hr
      simp only [Bool.and_eq_true, Bool.or_eq_true, beq_iff_eq, decide_eq_true_eq] at h
      obtain ⟨v', g1, g2⟩ := zk_fnd_ok hG.2.2.1 hr ha
      obtain ⟨j, f1, f2, f3, f4, k', f5, f6⟩ := g2.int hG.1 h.1
      rw [hF] at g1
      have g1 : some (Value.int (Int32.ofNat y.1)) = some v' := g1
      cases g1
      have f1 := Value.int.inj f1
      rw [zk_n32 (by omega), zk_eq32 (by constructor <;> omega) f2] at f1
      rcases h.2 with h2 | h2
      · omega
      · rw [h2.1, f5] at hn
        cases hn
        have := h2.2
        omega
    · cases h
theorem zk_s6_ok (hx : p.tables.exec = Jvm.exec) (hb : c.code = cc) (hml : c.maxLocals = u.2.2.2.2.2.1) (hown : s.vm.findClass own = some m.cls) {ty : List zk_T} (hw : w.1 = ty) {lk : List zk_L} (hlk : ∀ q ∈ lk, zk_lkok w s args own q) {rm : Nat × Nat × Nat × Nat} (hR : rm.1 ≤ R.frames ∧ rm.2.1 ≤ R.locals ∧ rm.2.2.1 ≤ R.cells ∧ rm.2.2.2 ≤ R.slots) {i : ClassFile.Instr} {len pc : Nat} {κ : zk_C} {st : List zk_S} {cu su : Nat} {o : zk_O} (hs : zk_s6 ty lk u.2.2.2.1 rm i len pc κ st cu su = some o) (hdg : decode cc pc = .ok (i, len)) (kk : zk_J p l e R s m args below meth c Q w u o.2.1 o.2.2.1 o.2.2.2.1 o.2.2.2.2 o.1) : zk_J p l e R s m args below meth c Q w u κ st cu su pc := by
  intro N P F H locs ls sv hG hS
  have hV := hG.1
  unfold zk_s6 at hs
  split at hs
  · rename_i idx n dp xd sp xs st'
    split at hs
    · rename_i e ts Ts t Td he hTs hTd
      split at hs
      · rename_i hc
        obtain ⟨rfl, c1, c2, c3, c4, c5, c6, c7, c8, c9, d1, d2, d3, d4, d5, d6, d7, d8⟩ := hc
        cases hs
        obtain ⟨k0, k1, k2, k3, k4⟩ := e
        obtain ⟨e1, e2, e3⟩ := zk_lk_ok hlk he
        dsimp only at e1 e2
        subst e1; subst e2
        obtain ⟨vn, sv1, rfl, hSn, hS1⟩ := zk_all2_cons hS
        obtain ⟨vdp, sv2, rfl, hSd, hS2⟩ := zk_all2_cons hS1
        obtain ⟨vxd, sv3, rfl, hSxd, hS3⟩ := zk_all2_cons hS2
        obtain ⟨vsp, sv4, rfl, hSs, hS4⟩ := zk_all2_cons hS3
        obtain ⟨vxs, sv', rfl, hSxs, hS5⟩ := zk_all2_cons hS4
        · skip
          obtain ⟨a0, rfl, hna0, hp0, hwT0⟩ := zk_typ_ok hw hV hTs hSxs
          obtain ⟨a, rfl, hna, hp, hwT⟩ := zk_typ_ok hw hV hTd hSxd
          obtain ⟨cA0, n0, f, o1, o2, o3, o4, o5, o6, o7⟩ := zk_iarr hG.2.2.2.2.1 hp0 hwT0 (Or.inl c3)
          obtain ⟨cA, n1, g, y1, y2, y3, y4, y5, y6, y7⟩ := zk_iarr hG.2.2.2.2.1 hp hwT (Or.inl c4)
          obtain ⟨zn, rfl, rn, ln, hn, kn, nn, en⟩ := hSn.int hV c7
          obtain ⟨zd, rfl, rd, ld, hd, kd, nd, ed⟩ := hSd.int hV c8
          obtain ⟨zs, rfl, rs, lss, hss, ks, ns, es⟩ := hSs.int hV c9
          have cs1 := zk_cin_ok hG d6 nn en hn hss hna0 o1 o2 (by dsimp only; omega)
          have cs2 := zk_cin_ok hG d7 nn en hn hd hna y1 y2 (by dsimp only; omega)
          dsimp only at cs1 cs2
          have nz : ∀ {z : Int}, zk_rg 0 z → 0 ≤ z → ¬ Int32.ofInt z < 0 ∧ (Int32.ofInt z).toNatClampNeg = z.toNat := by
            intro z hz h0
            refine ⟨?_, ?_⟩
            · rw [← zk_z32, zk_lt32 hz ⟨by decide, by decide⟩]
              omega
            · show (Int32.ofInt z).toInt.toNat = _
              rw [zk_i32 hz]
          have q1 := nz rs (by omega)
          have q2 := nz rd (by omega)
          have q3 := nz rn (by omega)
          rw [c3] at o4
          rw [c4] at y4
          have hls : c.maxLocals = ls.size := by
            obtain ⟨lv, g1, -⟩ := hG.2.2.2.2.2.1
            rw [hml]
            exact g1.1.symm
          have hcs := zk_cs_ok hS5
          have hsame : ∀ g' : Nat → Int32, zk_same (fun j => 2000 ≤ j ∧ j ≤ 1000000000000) (F a) (.inl (cA, n1, .inl g')) := fun g' => by
            rw [y1]
            exact ⟨rfl, rfl, fun j hj h => absurd (show 2000 ≤ 2000 + j ∧ 2000 + j ≤ 1000000000000 from ⟨by omega, by have : j < n1 := hj; omega⟩) h⟩
          have hmay := zk_mayb_ok d8 hG.2.2.2.2.2.2.2.2.2.1 hG.2.2.2.2.2.2.2.2.2.2.1 hna (Int.natCast_nonneg _)
          rw [Int.toNat_natCast] at hmay
          refine zw_copyi hx hb hls hown e3.1 e3.2.1 e3.2.2.1 e3.2.2.2 o6 y6 o4 y4 q1.1 q2.1 q3.1 (by rw [q1.2, q3.2]; omega) (by rw [q2.2, q3.2]; omega) (Nat.le_trans c1 hR.1) (by rw [hcs, zk_nfw]; exact Nat.le_trans c2 hR.2.1) hdg (fun H1 L z1 z2 z3 z4 => ?_)
          refine kk N P _ H1 _ ls sv' (zk_G.write hG hp hwT ?_ (show va_at _ _ (a, .inl (cA, n1, .inl _)) H1 from z1) z2 z3 (L := L) z4 (hsame _) (hmay.imp (fun z => z) (fun z k hk2 => z k hk2)) ⟨fun e => absurd e c5.1, fun e => absurd e c5.2⟩ (fun z hz => by
            obtain ⟨g1, g2⟩ := List.mem_filter.mp hz
            exact zk_fa1_keep hG.1 (hG.2.2.1 z g1) hp (hsame _) g2)) hS5
          unfold zk_el
          rw [c4]
          refine ⟨cA, n1, _, rfl, y2, y3, y4, fun i hi => ?_⟩
          unfold va_cpy
          try dsimp only
          split
          · rename_i hi2
            rw [q2.2, q3.2] at hi2
            obtain ⟨z, f1, f2⟩ := o5 ((Int32.ofInt zs).toNatClampNeg + (i - (Int32.ofInt zd).toNatClampNeg)) (by rw [q1.2, q2.2]; omega)
            rw [f2]
            rw [q1.2, q2.2] at f1 ⊢
            unfold zk_cpT at c6
            rw [Bool.or_eq_true, Bool.and_eq_true, beq_iff_eq, decide_eq_true_eq] at c6
            rcases c6 with ⟨c6, c7'⟩ | c6
            · subst c6
              cases hwT0.symm.trans hwT
              have e9 : zs = zd := by
                rw [c7', nd] at ns
                cases ns
                rw [es, ed, c7']
              rw [e9] at f1 ⊢
              have e10 : zd.toNat + (i - zd.toNat) = i := by omega
              rw [e10] at f1 ⊢
              exact ⟨z, f1, rfl⟩
            · split at c6
              · rename_i g0 hg0
                rw [Bool.and_eq_true, beq_iff_eq] at c6
                obtain ⟨i1, i2⟩ := zk_rdT_ok hg0 (j := zs.toNat + (i - zd.toNat)) (by omega) (by omega) f1
                rw [i1]
                refine zk_fits_ok (V := [g0]) (N := [z]) ⟨i2, trivial⟩ (zk_wrT_ok c6.2 (j := i) (by omega) (by omega)) ⟨g0, z, rfl, rfl, ?_, ?_⟩
                · show zk_rg g0.1 (z + 0)
                  rw [Int.add_zero]
                  exact i2.rg
                · show _ = zk_mk g0.1 (z + 0)
                  rw [Int.add_zero]
              · cases c6
          · exact y5 i hi
      · cases hs
    · cases hs
  · cases hs
end ZK15
