/-! part 14: the steps on arrays and on what is made hold -/
noncomputable def zk_dvok (w : zk_W) (dv : List (List zk_S)) : Prop := ∀ (ci : Nat) (C : String) (T : u_T) (N : Nat), w.2.1[ci]? = some (C, T, N) → ∃ ds, dv[ci]? = some ds ∧ ds.length = N ∧ ∀ (j : Nat) (ty : FieldType), j < N → parseFieldDescriptor (T j).2.2.1 = some ty → ds[j]? = some (zk_dk ty, 0) ∧ zk_tyc ty ≠ 9
noncomputable def zk_dval (q : zk_S) : Value := zk_mk q.1 (if q.1 = 2 then -1 else 0)
theorem zk_dval_ok {ty : FieldType} (h : zk_tyc ty ≠ 9) : defaultValue ty = zk_dval (zk_dk ty, 0) := by
  cases ty
  case float => exact absurd rfl h
  case double => exact absurd rfl h
  all_goals rfl
section ZK14
variable {p : Program} {l : Launch} {e : Env} {R : Room} {s : State} {m : MethodId} {args : Array Value} {below : List Frame} {meth : Method} {c : Code} {Q : State → Prop}
variable {cc : ByteArray} {w : zk_W} {u : zk_M} {Ts : List Jvm.Cond} {own : String}
theorem zk_len32 {T : zk_T} {x : vp_A} (h : x.1 ≤ T.2.2.1) (h2 : T.2.2.1 ≤ 2147483647) : zk_rg 0 (x.1 : Int) := ⟨by omega, by omega⟩
theorem zk_all2_ofall {α β : Type} {R : α → β → Prop} {f : α → β} : ∀ {l : List α}, (∀ a ∈ l, R a (f a)) → zk_all2 R l (l.map f)
  | [], _ => trivial
  | a :: l, h => ⟨h a List.mem_cons_self, zk_all2_ofall (fun b hb => h b (List.mem_cons_of_mem _ hb))⟩
theorem zk_ac_ok {hi lo : Int} (h0 : 0 ≤ lo) (hb : hi ≤ 2147483647) {k : Nat} (hk : 2000 + lo.toNat ≤ k ∧ k ≤ 2000 + hi.toNat) : zk_pm (zk_ac lo hi) k := by
  unfold zk_ac
  split
  · unfold zk_pm zk_er
    rw [if_neg (by omega), if_neg (by omega), if_neg (by omega), if_pos (by omega)]
    dsimp only
    omega
  · show 2000 ≤ k ∧ k ≤ 1000000000000
    omega
theorem zk_rd_i {cA : ClassId} {n j : Nat} {f : Nat → Int32} (h : j < n) : zk_rd (.inl (cA, n, .inl f)) (2000 + j) = some (.int (f j)) := by
  unfold zk_rd zk_av
  dsimp only
  rw [if_neg (by omega), if_pos ⟨by omega, by omega⟩, Nat.add_sub_cancel_left]
theorem zk_rd_l {cA : ClassId} {n j : Nat} {f : Nat → Int64} (h : j < n) : zk_rd (.inl (cA, n, .inr (.inl f))) (2000 + j) = some (.long (f j)) := by
  unfold zk_rd zk_av
  dsimp only
  rw [if_neg (by omega), if_pos ⟨by omega, by omega⟩, Nat.add_sub_cancel_left]
theorem zk_afs_ok {κ : zk_C} {N : List Int} {P : Nat → Option Nat} {F : Nat → va_E} (hV : zk_all2 (zk_ok P) κ.1 N) (hfa : zk_fa κ.1 N P F κ.2.2.1) {an a t : Nat} {e' : va_E} (hp : P a = some t) {qv qi qa : zk_S} (hna : N[qa.1]? = some (a : Int)) {hi j : Int} (h1 : zk_lw κ.1 qi ≤ j) (h2 : j ≤ zk_hg κ.1 qi) (hs : zk_same (fun k => 2000 + (zk_lw κ.1 qi).toNat ≤ k ∧ k ≤ 2000 + hi.toNat) (F a) e') {vv : Value} (hrd : zk_rd e' (2000 + j.toNat) = some vv) (hsv : zk_sv κ.1 N qv vv) : zk_fa κ.1 N P (zk_up F a e') (zk_afs an t κ qv qi qa hi) := by
  have hf : ∀ z ∈ κ.2.2.1.filter (zk_keep κ.1 t (2000 + (zk_lw κ.1 qi).toNat) (2000 + hi.toNat)), zk_fa1 κ.1 N P (zk_up F a e') z.1 z.2.1 z.2.2 := fun z hz => by
    obtain ⟨z1, z2⟩ := List.mem_filter.mp hz
    exact zk_fa1_keep hV (hfa z z1) hp hs z2
  unfold zk_afs
  split
  · rename_i hc
    intro z hz
    rcases List.mem_cons.mp hz with rfl | hz
    · refine ⟨(a : Int), t, vv, hna, Int.natCast_nonneg _, by rw [Int.toNat_natCast]; exact hp, ?_, hsv⟩
      rw [Int.toNat_natCast, zk_up_self]
      have e1 : zk_lw κ.1 qi = j := by omega
      dsimp only
      rw [e1]
      exact hrd
    · exact hf z hz
  · exact hf
theorem zk_lds_ok {κ : zk_C} {N : List Int} {P : Nat → Option Nat} {F : Nat → va_E} {H : Heap} {locs : List Loc} {ls : Array Slot} (hG : zk_G w s u κ N P F H locs ls) {an a t : Nat} {qi qa : zk_S} {g : zk_F} (hna : N[qa.1]? = some (a : Int)) (hp : P a = some t) {j : Int} (h1 : zk_lw κ.1 qi ≤ j) (h2 : j ≤ zk_hg κ.1 qi) {z : Int} (hz : zk_ok P g z) {v : Value} (hv : v = zk_mk g.1 z) (hrd : zk_rd (F a) (2000 + j.toNat) = some v) :
    ∃ N', zk_G w s u (zk_lds an κ qi qa g).1 N' P F H locs ls ∧ zk_le κ.1 N (zk_lds an κ qi qa g).1.1 N' ∧ zk_sv (zk_lds an κ qi qa g).1.1 N' (zk_lds an κ qi qa g).2 v := by
  have hsv := zk_sv_last hG.1 hz
  rw [← hv] at hsv
  have hG2 := hG.push hz
  unfold zk_lds
  split
  · rename_i hc
    have e1 : zk_lw κ.1 qi = j := by omega
    rw [e1]
    split
    · rename_i r hr
      obtain ⟨v', g1, g2⟩ := zk_fnd_ok hG.2.2.1 hr hna
      rw [hrd] at g1
      cases g1
      exact ⟨N, hG, zk_le.rf, g2⟩
    · refine ⟨_, ⟨hG2.1, hG2.2.1, fun q hq => ?_, hG2.2.2.2⟩, zk_le.snoc _ _, hsv⟩
      rcases List.mem_cons.mp hq with rfl | hq
      · exact ⟨(a : Int), t, v, zk_get_snoc hna, Int.natCast_nonneg _, by rw [Int.toNat_natCast]; exact hp, by rw [Int.toNat_natCast]; exact hrd, hsv⟩
      · exact hG2.2.2.1 q hq
  · exact ⟨_, hG2, zk_le.snoc _ _, hsv⟩
theorem zk_s5_ok (hx : p.tables.exec = Jvm.exec) (hb : c.code = cc) (hts : ∀ x ∈ Ts, x.before args s = true) (hcl : zk_cls w Ts) (hown : s.vm.findClass own = some m.cls) (hK : va_K w.2.2.1 w.2.1 [] s) {ty : List zk_T} (hw : w.1 = ty) (hbs : w.2.2.2.1 ≤ s.heap.size) {lk : List zk_L} (hlk : ∀ q ∈ lk, zk_lkok w s args own q) {dv : List (List zk_S)} (hdv : zk_dvok w dv) {ini : Bool} (hini : ini = true → meth.name = "<init>") {rm : Nat × Nat × Nat × Nat} (hR : rm.1 ≤ R.frames ∧ rm.2.1 ≤ R.locals ∧ rm.2.2.1 ≤ R.cells ∧ rm.2.2.2 ≤ R.slots) {an : Nat} {i : ClassFile.Instr} {len pc : Nat} {κ : zk_C} {st : List zk_S} {cu su : Nat} {o : zk_O} (hs : zk_s5 ty lk dv u.2.2.2.1 rm ini an i len pc κ st cu su = some o) (hdg : decode cc pc = .ok (i, len)) (kk : zk_J p l e R s m args below meth c Q w u o.2.1 o.2.2.1 o.2.2.2.1 o.2.2.2.2 o.1) : zk_J p l e R s m args below meth c Q w u κ st cu su pc := by
  unfold zk_s5 at hs
  split at hs
  · rename_i idx q st'
    split at hs
    · rename_i hl
      subst hl
      obtain ⟨r, h1, h2⟩ := Option.map_eq_some_iff.mp hs
      cases h2
      exact zk_getR_ok hx hb hts hcl hown hK hw hlk h1 hdg kk
    · cases hs
  · rename_i idx qv q st'
    split at hs
    · rename_i hl
      subst hl
      obtain ⟨r, h1, h2⟩ := Option.map_eq_some_iff.mp hs
      cases h2
      exact zk_putR_ok hx hb hts hcl hown hK hw hlk hini h1 hdg kk
    · cases hs
  · rename_i qi qa st'
    split at hs
    · rename_i t T hT
      split at hs
      · rename_i g hg
        split at hs
        · rename_i hc
          obtain ⟨rfl, c1, c2, c3⟩ := hc
          cases hs
          intro N P F H locs ls sv hG hS
          match sv, hS with
          | vi :: va :: sv', hS =>
            obtain ⟨a, rfl, hna, hp, hwT⟩ := zk_typ_ok hw hG.1 hT hS.2.1
            obtain ⟨cA, n, f, o1, o2, o3, o4, o5, o6, o7⟩ := zk_iarr hG.2.2.2.2.1 hp hwT (Or.inl c1)
            obtain ⟨j, rfl, j1, j2, j3, j4, j5, j6, j7⟩ := zk_ix_ok hG c2 hS.1 hna o1 o2 o3
            dsimp only at j3 j6
            obtain ⟨z, z1, z2⟩ := o5 j.toNat (by omega)
            obtain ⟨y1, y2⟩ := zk_rdT_ok hg (by omega) (by unfold zk_hi; omega) z1
            rw [c1] at o4
            obtain ⟨N', g1, g2, g3⟩ := zk_lds_ok hG (an := an) (g := g) hna hp j4 j5 y2 (z2.trans (by rw [y1])) (by rw [o1]; exact zk_rd_i (by omega))
            refine zw_iald hx hb o6 o4 j6 hdg (kk _ P F H locs ls _ g1 ⟨?_, zk_sv_mono g2 hS.2.2⟩)
            rw [j7]
            exact g3
        · cases hs
      · cases hs
    · cases hs
  · rename_i qi qa st'
    split at hs
    · rename_i t T hT
      split at hs
      · rename_i g hg
        split at hs
        · rename_i hc
          obtain ⟨rfl, c1, c2, c3⟩ := hc
          cases hs
          intro N P F H locs ls sv hG hS
          match sv, hS with
          | vi :: va :: sv', hS =>
            obtain ⟨a, rfl, hna, hp, hwT⟩ := zk_typ_ok hw hG.1 hT hS.2.1
            obtain ⟨cA, n, f, o1, o2, o3, o4, o5, o6, o7⟩ := zk_iarr hG.2.2.2.2.1 hp hwT (Or.inr c1)
            obtain ⟨j, rfl, j1, j2, j3, j4, j5, j6, j7⟩ := zk_ix_ok hG c2 hS.1 hna o1 o2 o3
            dsimp only at j3 j6
            obtain ⟨z, z1, z2⟩ := o5 j.toNat (by omega)
            obtain ⟨y1, y2⟩ := zk_rdT_ok hg (by omega) (by unfold zk_hi; omega) z1
            rw [c1] at o4
            refine zw_zald hx hb o6 o4 j6 hdg (kk _ P F H locs ls _ (hG.push y2) ⟨?_, zk_sv_mono (zk_le.snoc _ _) hS.2.2⟩)
            rw [j7, z2, y1]
            exact zk_sv_last hG.1 y2
        · cases hs
      · cases hs
    · cases hs
  · rename_i qi qa st'
    split at hs
    · rename_i t T hT
      split at hs
      · rename_i g hg
        split at hs
        · rename_i hc
          obtain ⟨rfl, c1, c2, c3⟩ := hc
          cases hs
          intro N P F H locs ls sv hG hS
          match sv, hS with
          | vi :: va :: sv', hS =>
            obtain ⟨a, rfl, hna, hp, hwT⟩ := zk_typ_ok hw hG.1 hT hS.2.1
            obtain ⟨cA, n, f, o1, o2, o3, o4, o5, o6, o7⟩ := zk_larr hG.2.2.2.2.1 hp hwT c1
            obtain ⟨j, rfl, j1, j2, j3, j4, j5, j6, j7⟩ := zk_ix_ok hG c2 hS.1 hna o1 o2 o3
            dsimp only at j3 j6
            obtain ⟨z, z1, z2⟩ := o5 j.toNat (by omega)
            obtain ⟨y1, y2⟩ := zk_rdT_ok hg (by omega) (by unfold zk_hi; omega) z1
            obtain ⟨N', g1, g2, g3⟩ := zk_lds_ok hG (an := an) (g := g) hna hp j4 j5 y2 (z2.trans (by rw [y1])) (by rw [o1]; exact zk_rd_l (by omega))
            refine zw_lald hx hb o6 o4 j6 hdg (kk _ P F H locs ls _ g1 ⟨?_, zk_sv_mono g2 hS.2.2⟩)
            rw [j7]
            exact g3
        · cases hs
      · cases hs
    · cases hs
  · rename_i qi qa st'
    split at hs
    · rename_i t T hT
      split at hs
      · rename_i g hg
        split at hs
        · rename_i hc
          obtain ⟨rfl, c1, c2, c3⟩ := hc
          cases hs
          intro N P F H locs ls sv hG hS
          match sv, hS with
          | vi :: va :: sv', hS =>
            obtain ⟨a, rfl, hna, hp, hwT⟩ := zk_typ_ok hw hG.1 hT hS.2.1
            obtain ⟨cA, n, f, o1, o2, o3, o4, o4', o5, o6, o7⟩ := zk_qarr hG.2.2.2.2.1 hp hwT c1
            obtain ⟨j, rfl, j1, j2, j3, j4, j5, j6, j7⟩ := zk_ix_ok hG c2 hS.1 hna o1 o2 o3
            dsimp only at j3 j6
            obtain ⟨z, z1, z2⟩ := o5 j.toNat (by omega)
            obtain ⟨y1, y2⟩ := zk_rdT_ok hg (by omega) (by unfold zk_hi; omega) z1
            refine zw_aald hx hb o6 o4 j6 hdg (kk _ P F H locs ls _ (hG.push y2) ⟨?_, zk_sv_mono (zk_le.snoc _ _) hS.2.2⟩)
            rw [j7, z2, y1]
            exact zk_sv_last hG.1 y2
        · cases hs
      · cases hs
    · cases hs
  · rename_i qv qi qa st'
    split at hs
    · rename_i t T hT
      split at hs
      · rename_i hc
        obtain ⟨rfl, c1, c2, c3, c4, c5, c6⟩ := hc
        cases hs
        intro N P F H locs ls sv hG hS
        match sv, hS with
        | vv :: vi :: va :: sv', hS =>
          obtain ⟨a, rfl, hna, hp, hwT⟩ := zk_typ_ok hw hG.1 hT hS.2.2.1
          obtain ⟨cA, n, f, o1, o2, o3, o4, o5, o6, o7⟩ := zk_iarr hG.2.2.2.2.1 hp hwT (Or.inl c1)
          obtain ⟨j, rfl, j1, j2, j3, j4, j5, j6, j7⟩ := zk_ix_ok hG c2 hS.2.1 hna o1 o2 o3
          dsimp only at j3 j6
          obtain ⟨x, rfl, x1, -⟩ := hS.1.int hG.1 c3
          rw [c1] at o4
          have hhi : j ≤ zk_hi κ.1 qi T := by unfold zk_hi; omega
          have hhb : zk_hi κ.1 qi T ≤ 2147483647 := by have := hG.1; unfold zk_hi; unfold zk_ix at c2; simp only [Bool.and_eq_true, decide_eq_true_eq] at c2; have := c2.1.2; omega
          have hlo : 0 ≤ zk_lw κ.1 qi := by unfold zk_ix at c2; simp only [Bool.and_eq_true, decide_eq_true_eq] at c2; exact c2.1.1.2
          have hsame : zk_same (fun k => 2000 + (zk_lw κ.1 qi).toNat ≤ k ∧ k ≤ 2000 + (zk_hi κ.1 qi T).toNat) (F a) (.inl (cA, n, .inl (zk_up f j.toNat (Int32.ofInt x)))) := by
            rw [o1]
            refine ⟨rfl, rfl, fun i hi hP => ?_⟩
            show some (Value.int (f i)) = some (.int (zk_up f j.toNat _ i))
            rw [zk_up_ne (fun e => hP (by dsimp only; omega))]
          have hmay := zk_mayb_ok c5 hG.2.2.2.2.2.2.2.2.2.1 hG.2.2.2.2.2.2.2.2.2.2.1 hna (Int.natCast_nonneg _)
          rw [Int.toNat_natCast] at hmay
          have hxa : zk_rl P (zk_up F a (.inl (cA, n, .inl (zk_up f j.toNat (Int32.ofInt x))))) t (.inl (cA, n, .inl (zk_up f j.toNat (Int32.ofInt x)))) := by
            have hr0 := ((zk_wt1.some hwT).mp (hG.2.2.2.2.1 a t hp)).2.2.2
            rw [o1] at hr0
            exact zk_xi.put (f := fun i => (f i).toInt) (g := fun i => (zk_up f j.toNat (Int32.ofInt x) i).toInt) hr0 c6 (fun i hi => by show (f i).toInt = (zk_up f j.toNat (Int32.ofInt x) i).toInt; rw [zk_up_ne (fun e => by omega)])
          refine zw_iast hx hb o6 o4 j6 hdg (fun H1 jj e1 hz hk => ?_)
          rw [j7] at e1
          refine kk N P _ H1 _ ls sv' (zk_G.write hG hp hwT ?_ (show va_at _ _ (a, .inl (cA, n, .inl (zk_up f j.toNat (Int32.ofInt x)))) H1 from e1) hz hk (L := [⟨a, jj⟩]) (fun q hq => by rw [List.mem_singleton.mp hq]) hsame (hmay.imp (fun z => z) (fun z k hk2 => z k (zk_ac_ok hlo hhb hk2))) hxa (zk_afs_ok hG.1 hG.2.2.1 hp hna j4 j5 hsame (zk_rd_i (by omega)) (by rw [zk_up_self]; exact hS.1))) hS.2.2.2
          unfold zk_el
          rw [c1]
          refine ⟨cA, n, _, rfl, o2, o3, o4, fun i hi => ?_⟩
          by_cases hij : i = j.toNat
          · rw [hij, zk_up_self]
            exact zk_fits_ok hG.1 (zk_wrT_ok c4 (by omega) (by omega)) hS.1
          · rw [zk_up_ne hij]
            exact o5 i hi
      · cases hs
    · cases hs
  · rename_i qv qi qa st'
    split at hs
    · rename_i t T hT
      split at hs
      · rename_i hc
        obtain ⟨rfl, c1, c2, c3, c4, c5, c6, c7⟩ := hc
        cases hs
        intro N P F H locs ls sv hG hS
        match sv, hS with
        | vv :: vi :: va :: sv', hS =>
          obtain ⟨a, rfl, hna, hp, hwT⟩ := zk_typ_ok hw hG.1 hT hS.2.2.1
          obtain ⟨cA, n, f, o1, o2, o3, o4, o5, o6, o7⟩ := zk_iarr hG.2.2.2.2.1 hp hwT (Or.inr c1)
          obtain ⟨j, rfl, j1, j2, j3, j4, j5, j6, j7⟩ := zk_ix_ok hG c2 hS.2.1 hna o1 o2 o3
          dsimp only at j3 j6
          have htb := zk_tyb_ok (ty := .boolean) hG.1 rfl c7 hS.1
          obtain ⟨x, rfl, x1, -⟩ := hS.1.int hG.1 c3
          rw [c1] at o4
          have hhi : j ≤ zk_hi κ.1 qi T := by unfold zk_hi; omega
          have hhb : zk_hi κ.1 qi T ≤ 2147483647 := by have := hG.1; unfold zk_hi; unfold zk_ix at c2; simp only [Bool.and_eq_true, decide_eq_true_eq] at c2; have := c2.1.2; omega
          have hlo : 0 ≤ zk_lw κ.1 qi := by unfold zk_ix at c2; simp only [Bool.and_eq_true, decide_eq_true_eq] at c2; exact c2.1.1.2
          have hsame : zk_same (fun k => 2000 + (zk_lw κ.1 qi).toNat ≤ k ∧ k ≤ 2000 + (zk_hi κ.1 qi T).toNat) (F a) (.inl (cA, n, .inl (zk_up f j.toNat (Int32.ofInt x)))) := by
            rw [o1]
            refine ⟨rfl, rfl, fun i hi hP => ?_⟩
            show some (Value.int (f i)) = some (.int (zk_up f j.toNat _ i))
            rw [zk_up_ne (fun e => hP (by dsimp only; omega))]
          have hmay := zk_mayb_ok c5 hG.2.2.2.2.2.2.2.2.2.1 hG.2.2.2.2.2.2.2.2.2.2.1 hna (Int.natCast_nonneg _)
          rw [Int.toNat_natCast] at hmay
          have hxa : zk_rl P (zk_up F a (.inl (cA, n, .inl (zk_up f j.toNat (Int32.ofInt x))))) t (.inl (cA, n, .inl (zk_up f j.toNat (Int32.ofInt x)))) := by
            have hr0 := ((zk_wt1.some hwT).mp (hG.2.2.2.2.1 a t hp)).2.2.2
            rw [o1] at hr0
            exact zk_xi.put (f := fun i => (f i).toInt) (g := fun i => (zk_up f j.toNat (Int32.ofInt x) i).toInt) hr0 c6 (fun i hi => by show (f i).toInt = (zk_up f j.toNat (Int32.ofInt x) i).toInt; rw [zk_up_ne (fun e => by omega)])
          refine zw_zast hx hb o6 o4 j6 htb.1 hdg (fun H1 jj e1 hz hk => ?_)
          rw [j7] at e1
          refine kk N P _ H1 _ ls sv' (zk_G.write hG hp hwT ?_ (show va_at _ _ (a, .inl (cA, n, .inl (zk_up f j.toNat (Int32.ofInt x)))) H1 from e1) hz hk (L := [⟨a, jj⟩]) (fun q hq => by rw [List.mem_singleton.mp hq]) hsame (hmay.imp (fun z => z) (fun z k hk2 => z k (zk_ac_ok hlo hhb hk2))) hxa (zk_afs_ok hG.1 hG.2.2.1 hp hna j4 j5 hsame (zk_rd_i (by omega)) (by rw [zk_up_self]; exact hS.1))) hS.2.2.2
          unfold zk_el
          rw [c1]
          refine ⟨cA, n, _, rfl, o2, o3, o4, fun i hi => ?_⟩
          by_cases hij : i = j.toNat
          · rw [hij, zk_up_self]
            exact zk_fits_ok hG.1 (zk_wrT_ok c4 (by omega) (by omega)) hS.1
          · rw [zk_up_ne hij]
            exact o5 i hi
      · cases hs
    · cases hs
  · rename_i qv qi qa st'
    split at hs
    · rename_i t T hT
      split at hs
      · rename_i hc
        obtain ⟨rfl, c1, c2, c3, c4, c5, c6⟩ := hc
        cases hs
        intro N P F H locs ls sv hG hS
        match sv, hS with
        | vv :: vi :: va :: sv', hS =>
          obtain ⟨a, rfl, hna, hp, hwT⟩ := zk_typ_ok hw hG.1 hT hS.2.2.1
          obtain ⟨cA, n, f, o1, o2, o3, o4, o5, o6, o7⟩ := zk_larr hG.2.2.2.2.1 hp hwT c1
          obtain ⟨j, rfl, j1, j2, j3, j4, j5, j6, j7⟩ := zk_ix_ok hG c2 hS.2.1 hna o1 o2 o3
          dsimp only at j3 j6
          obtain ⟨x, rfl, x1, -⟩ := hS.1.long hG.1 c3
          have hhi : j ≤ zk_hi κ.1 qi T := by unfold zk_hi; omega
          have hhb : zk_hi κ.1 qi T ≤ 2147483647 := by have := hG.1; unfold zk_hi; unfold zk_ix at c2; simp only [Bool.and_eq_true, decide_eq_true_eq] at c2; have := c2.1.2; omega
          have hlo : 0 ≤ zk_lw κ.1 qi := by unfold zk_ix at c2; simp only [Bool.and_eq_true, decide_eq_true_eq] at c2; exact c2.1.1.2
          have hsame : zk_same (fun k => 2000 + (zk_lw κ.1 qi).toNat ≤ k ∧ k ≤ 2000 + (zk_hi κ.1 qi T).toNat) (F a) (.inl (cA, n, .inr (.inl (zk_up f j.toNat (Int64.ofInt x))))) := by
            rw [o1]
            refine ⟨rfl, rfl, fun i hi hP => ?_⟩
            show some (Value.long (f i)) = some (.long (zk_up f j.toNat _ i))
            rw [zk_up_ne (fun e => hP (by dsimp only; omega))]
          have hmay := zk_mayb_ok c5 hG.2.2.2.2.2.2.2.2.2.1 hG.2.2.2.2.2.2.2.2.2.2.1 hna (Int.natCast_nonneg _)
          rw [Int.toNat_natCast] at hmay
          have hxa : zk_rl P (zk_up F a (.inl (cA, n, .inr (.inl (zk_up f j.toNat (Int64.ofInt x)))))) t (.inl (cA, n, .inr (.inl (zk_up f j.toNat (Int64.ofInt x))))) := by
            have hr0 := ((zk_wt1.some hwT).mp (hG.2.2.2.2.1 a t hp)).2.2.2
            rw [o1] at hr0
            trivial
          refine zw_last hx hb o6 o4 j6 hdg (fun H1 jj e1 hz hk => ?_)
          rw [j7] at e1
          refine kk N P _ H1 _ ls sv' (zk_G.write hG hp hwT ?_ (show va_at _ _ (a, .inl (cA, n, .inr (.inl (zk_up f j.toNat (Int64.ofInt x))))) H1 from e1) hz hk (L := [⟨a, jj⟩]) (fun q hq => by rw [List.mem_singleton.mp hq]) hsame (hmay.imp (fun z => z) (fun z k hk2 => z k (zk_ac_ok hlo hhb hk2))) hxa (zk_afs_ok hG.1 hG.2.2.1 hp hna j4 j5 hsame (zk_rd_l (by omega)) (by rw [zk_up_self]; exact hS.1))) hS.2.2.2
          unfold zk_el
          rw [c1]
          refine ⟨cA, n, _, rfl, o2, o3, o4, fun i hi => ?_⟩
          by_cases hij : i = j.toNat
          · rw [hij, zk_up_self]
            exact zk_fits_ok hG.1 (zk_wrT_ok c4 (by omega) (by omega)) hS.1
          · rw [zk_up_ne hij]
            exact o5 i hi
      · cases hs
    · cases hs
  · rename_i qa st'
    split at hs
    · rename_i t T hT
      split at hs
      · rename_i hc
        obtain ⟨rfl, c1, c2⟩ := hc
        split at hs
        · rename_i r hr
          cases hs
          intro N P F H locs ls sv hG hS
          match sv, hS with
          | va :: sv', hS =>
            obtain ⟨a, rfl, hna, hp, hwT⟩ := zk_typ_ok hw hG.1 hT hS.1
            obtain ⟨cA, x, fty, o1, o2, o3, o4, o5⟩ := zk_aarr hG.2.2.2.2.1 hp hwT c1
            obtain ⟨v, g1, g2⟩ := zk_fnd_ok hG.2.2.1 hr hna
            rw [o1] at g1
            have g1 : some (Value.int (Int32.ofNat x.1)) = some v := g1
            cases g1
            exact zw_alen hx hb o5 o4 hdg (kk N P F H locs ls _ hG ⟨g2, hS.2⟩)
        · cases hs
          intro N P F H locs ls sv hG hS
          match sv, hS with
          | va :: sv', hS =>
            obtain ⟨a, rfl, hna, hp, hwT⟩ := zk_typ_ok hw hG.1 hT hS.1
            obtain ⟨cA, x, fty, o1, o2, o3, o4, o5⟩ := zk_aarr hG.2.2.2.2.1 hp hwT c1
            have f1 : zk_ok P (0, 0, (T.2.1 : Int), (T.2.2.1 : Int)) (x.1 : Int) := ⟨by dsimp only; omega, by dsimp only; omega, zk_len32 o3 c2⟩
            have hl := zk_le.snoc (V := κ.1) (N := N) (0, 0, (T.2.1 : Int), (T.2.2.1 : Int)) (x.1 : Int)
            have hsv := zk_sv_last hG.1 f1
            have hG2 := hG.push f1
            refine zw_alen hx hb o5 o4 hdg (kk _ P F H locs ls _ ⟨hG2.1, hG2.2.1, fun z hz => ?_, hG2.2.2.2⟩ ⟨hsv, zk_sv_mono hl hS.2⟩)
            rcases List.mem_cons.mp hz with rfl | hz
            · exact ⟨(a : Int), t, _, hl.1 _ _ hna, Int.natCast_nonneg _, by rw [Int.toNat_natCast]; exact hp, by rw [Int.toNat_natCast, o1]; rfl, hsv⟩
            · exact hG2.2.2.1 z hz
      · cases hs
    · cases hs
  · rename_i at' qn st'
    split at hs
    · rename_i T hT
      split at hs
      · rename_i hc
        obtain ⟨rfl, c1, c2, c3, c4, c5, c6, c7, c8, c9⟩ := hc
        cases hs
        intro N P F H locs ls sv hG hS
        match sv, hS with
        | vn :: sv', hS =>
          obtain ⟨n, rfl, n1, n2, n3, -⟩ := hS.1.int hG.1 c3
          have c2a : (Jvm.Cond.arrayClass (zk_aty2 T.1)).before args s = true := by
            unfold zk_lk5 at c2
            split at c2
            · rename_i e he
              obtain ⟨k0, k1, k2, k3, k4⟩ := e
              obtain ⟨e1, e2, e3⟩ := zk_lk_ok hlk he
              dsimp only at e1 e2
              subst e1
              have c2 : k2 = T.1 := by simpa using c2
              rw [← c2]
              exact e3
            · cases c2
          have r3 := hR.2.2.1
          have r4 := hR.2.2.2
          have hT' : w.1[an]? = some T := by rw [hw]; exact hT
          have hnn : ¬ Int32.ofInt n < 0 := by
            rw [← zk_z32, zk_lt32 n1 ⟨by decide, by decide⟩]
            omega
          have hN : (Int32.ofInt n).toNatClampNeg = n.toNat := by
            show (Int32.ofInt n).toInt.toNat = _
            rw [zk_i32 n1]
          have fin : ∀ (H1 : Heap) (e' : va_E) (q : Nat × Nat), zk_el w s P T e' → va_at w.2.2.1 w.2.1 (H.size, e') H1 → H1.size = H.size + 1 → (∀ q, q < H.size → H1[q]? = H[q]?) → zk_rd e' 1000 = some (.int (Int32.ofInt n)) → (∃ x : ClassId × vp_A, e' = .inl x ∧ zk_xa an x.2) → W p l e R s m args below meth c H1 locs (cu + 1) (su + n.toNat) Q (F0 m (pc + 2) ls (.ref H.size :: sv')) := by
            intro H1 e' q h1 h2 h3 h4 h5 h6
            have hA := zk_G.alloc hG hbs hT' h1 h2 h3 h4 (by obtain ⟨x, rfl, h7⟩ := h6; exact h7) (A := [(κ.1.length, 1000, qn)]) (fun q hq => by
              rw [List.mem_singleton.mp hq]
              exact ⟨_, rfl, h5, hS.1⟩)
            have hl := zk_le.snoc (V := κ.1) (N := N) (2, an, 0, 0) (H.size : Int)
            refine W.widen (Nat.le_refl _) (show su + n.toNat ≤ su + (zk_hg κ.1 qn).toNat by omega) ?_
            refine kk _ _ _ H1 locs ls _ hA ⟨?_, zk_sv_mono hl hS.2⟩
            refine ⟨(2, an, 0, 0), (H.size : Int), zk_get_last, by rw [zk_all2_len hG.1]; exact zk_get_last, trivial, ?_⟩
            show Value.ref H.size = if (H.size : Int) + 0 < 0 then Value.null else Value.ref ((H.size : Int) + 0).toNat
            rw [if_neg (by omega), Int.add_zero, Int.toNat_natCast]
          have hrd : Value.int (Int32.ofNat n.toNat) = .int (Int32.ofInt n) := by
            rw [zk_n32 (by omega)]
            congr 2
            omega
          rcases c1 with ⟨rfl, c1⟩ | ⟨rfl, c1⟩ | ⟨rfl, c1⟩
          · rw [c1] at c2a c7
            refine zw_newa (ty := .int) (a0 := (n.toNat, .inl (fun _ => 0))) hx hb rfl c2a (fun cA => rfl) hnn hN (by show n.toNat * 4 ≤ _; omega) (by omega) (by omega) hdg (fun H1 cA y1 y2 y3 y4 => fin H1 (.inl (cA, n.toNat, .inl (fun _ => 0))) (0, 0) ?_ y1 y2 y3 (congrArg some hrd) ⟨_, rfl, (by first | exact zk_xi.zero _ | trivial)⟩)
            unfold zk_el
            rw [c1]
            refine ⟨cA, _, _, rfl, by omega, by omega, y4, fun j hj => ?_⟩
            obtain ⟨d1, d2⟩ := zk_dfT_ok (P := P) c7 j
            exact ⟨0, d2, by rw [d1]; rfl⟩
          · rw [c1] at c2a c7
            refine zw_newa (ty := .long) (a0 := (n.toNat, .inr (.inl (fun _ => 0)))) hx hb rfl c2a (fun cA => rfl) hnn hN (by show n.toNat * 8 ≤ _; omega) (by omega) (by omega) hdg (fun H1 cA y1 y2 y3 y4 => fin H1 (.inl (cA, n.toNat, .inr (.inl (fun _ => 0)))) (0, 0) ?_ y1 y2 y3 (congrArg some hrd) ⟨_, rfl, (by first | exact zk_xi.zero _ | trivial)⟩)
            unfold zk_el
            rw [c1]
            refine ⟨cA, _, _, rfl, by omega, by omega, y4, fun j hj => ?_⟩
            obtain ⟨d1, d2⟩ := zk_dfT_ok (P := P) c7 j
            exact ⟨0, d2, by rw [d1]; rfl⟩
          · rw [c1] at c2a c7
            refine zw_newa (ty := .boolean) (a0 := (n.toNat, .inl (fun _ => 0))) hx hb rfl c2a (fun cA => rfl) hnn hN (by show n.toNat * 1 ≤ _; omega) (by omega) (by omega) hdg (fun H1 cA y1 y2 y3 y4 => fin H1 (.inl (cA, n.toNat, .inl (fun _ => 0))) (0, 0) ?_ y1 y2 y3 (congrArg some hrd) ⟨_, rfl, (by first | exact zk_xi.zero _ | trivial)⟩)
            unfold zk_el
            rw [c1]
            refine ⟨cA, _, _, rfl, by omega, by omega, y4, fun j hj => ?_⟩
            obtain ⟨d1, d2⟩ := zk_dfT_ok (P := P) c7 j
            exact ⟨0, d2, by rw [d1]; rfl⟩
      · cases hs
    · cases hs
  · rename_i idx qn st'
    split at hs
    · rename_i T e hT he
      split at hs
      · rename_i T2 hT2
        split at hs
        · rename_i hc
          obtain ⟨rfl, c1, c2, c2', c3, c4, c5, c6, c7, c8, c9⟩ := hc
          cases hs
          intro N P F H locs ls sv hG hS
          match sv, hS with
          | vn :: sv', hS =>
            obtain ⟨n, rfl, n1, n2, n3, -⟩ := hS.1.int hG.1 c3
            obtain ⟨k0, k1, k2, k3, k4⟩ := e
            obtain ⟨e1, e2, e3⟩ := zk_lk_ok hlk he
            dsimp only at e1 e2 c2'
            subst e1; subst e2
            obtain ⟨C, T0, N0, e4, e5, e6⟩ := e3
            dsimp only at e4 e5
            have r3 := hR.2.2.1
            have r4 := hR.2.2.2
            have hT' : w.1[an]? = some T := by rw [hw]; exact hT
            have hrn : zk_rn w T = C := by
              unfold zk_rn
              rw [hw, hT2]
              dsimp only
              rw [List.getD_eq_getElem?_getD, c2', e4]
              rfl
            have hnn : ¬ Int32.ofInt n < 0 := by
              rw [← zk_z32, zk_lt32 n1 ⟨by decide, by decide⟩]
              omega
            have hN : (Int32.ofInt n).toNatClampNeg = n.toNat := by
              show (Int32.ofInt n).toInt.toNat = _
              rw [zk_i32 n1]
            refine zw_newq hx hb hown e5 e6 hnn hN (by omega) (by omega) (by omega) hdg (fun H1 cA y1 y2 y3 y4 y5 => ?_)
            have hA := zk_G.alloc hG hbs hT' (e' := .inl (cA, n.toNat, .inr (.inr (.inr (.inr (fun _ => none)))))) (by
              unfold zk_el
              rw [c1]
              refine ⟨cA, _, _, rfl, by omega, by omega, by rw [hrn]; exact y4, by rw [hrn]; exact y5, fun j hj => ?_⟩
              obtain ⟨d1, d2⟩ := zk_dfT_ok (P := P) c7 j
              exact ⟨-1, d2, by rw [d1]; rfl⟩) y1 y2 y3 trivial (A := [(κ.1.length, 1000, qn)]) (fun q hq => by
              rw [List.mem_singleton.mp hq]
              refine ⟨_, rfl, ?_, hS.1⟩
              show some (Value.int (Int32.ofNat n.toNat)) = some (.int (Int32.ofInt n))
              rw [zk_n32 (by omega)]
              congr 3
              omega)
            have hl := zk_le.snoc (V := κ.1) (N := N) (2, an, 0, 0) (H.size : Int)
            refine W.widen (Nat.le_refl _) (show su + n.toNat ≤ su + (zk_hg κ.1 qn).toNat by omega) ?_
            refine kk _ _ _ H1 locs ls _ hA ⟨?_, zk_sv_mono hl hS.2⟩
            refine ⟨(2, an, 0, 0), (H.size : Int), zk_get_last, by rw [zk_all2_len hG.1]; exact zk_get_last, trivial, ?_⟩
            show Value.ref H.size = if (H.size : Int) + 0 < 0 then Value.null else Value.ref ((H.size : Int) + 0).toNat
            rw [if_neg (by omega), Int.add_zero, Int.toNat_natCast]
        · cases hs
      · cases hs
    · cases hs
  · rename_i idx
    split at hs
    · rename_i e he
      split at hs
      · rename_i ds hds
        split at hs
        · rename_i hc
          obtain ⟨rfl, c0, c1, c2, c3, c4⟩ := hc
          cases hs
          intro N P F H locs ls sv hG hS
          obtain ⟨k0, k1, k2, k3, k4⟩ := e
          obtain ⟨e1, e2, e3⟩ := zk_lk_ok hlk he
          dsimp only at e1 e2 hds c4
          subst e1; subst e2
          obtain ⟨C, T0, e4, e5, e6, e7⟩ := e3
          dsimp only at e4 e5 e6
          obtain ⟨ds', d1, d2, d3⟩ := hdv k2 C T0 k3 e4
          cases hds.symm.trans d1
          obtain ⟨-, -, ty0, hty0⟩ := hcl k2 C T0 k3 e4
          have r3 := hR.2.2.1
          have r4 := hR.2.2.2
          refine zw_newo (fs := ds.map zk_dval) hx hb hts hcl hown hK e4 e5 e6 e7 (fun j ty hj hp => ?_) (by omega) (by omega) hdg (fun H1 y1 y2 y3 => ?_)
          · obtain ⟨g1, g2⟩ := d3 j ty hj hp
            rw [zk_dval_ok g2]
            show zk_dval _ = (ds.map zk_dval).getD j .null
            rw [List.getD_eq_getElem?_getD, List.getElem?_map, g1]
            rfl
          · have hA := zk_G.raw hG hbs y1 (ds := ds) (zk_all2_ofall (fun q hq => ?_)) y2 y3
            · have hl := zk_le.snoc (V := κ.1) (N := N) (3, 0, 0, 0) (H.size : Int)
              refine kk _ _ _ H1 locs ls _ hA ⟨?_, zk_sv_mono hl hS⟩
              refine ⟨(3, 0, 0, 0), (H.size : Int), zk_get_last, by rw [zk_all2_len hG.1]; exact zk_get_last, trivial, ?_⟩
              show Value.ref H.size = if (H.size : Int) + 0 < 0 then Value.null else Value.ref ((H.size : Int) + 0).toNat
              rw [if_neg (by omega), Int.add_zero, Int.toNat_natCast]
            · obtain ⟨j, hj⟩ := List.getElem?_of_mem hq
              have hjl : j < k3 := by rw [← d2]; exact (List.getElem?_eq_some_iff.mp hj).1
              obtain ⟨g1, g2⟩ := d3 j _ hjl (hty0 j hjl)
              rw [hj] at g1
              cases g1
              have hk3 : zk_dk (ty0 j) = 0 ∨ zk_dk (ty0 j) = 1 ∨ zk_dk (ty0 j) = 2 := by cases ty0 j <;> simp [zk_dk]
              rcases hk3 with h | h | h <;> rw [h]
              · exact zk_const_ok (k := 0) (n := 0) hG.1 c0 (by decide) (fun _ => by decide) (fun h => by cases h)
              · exact zk_const_ok (k := 1) (n := 0) hG.1 c1 (by decide) (fun _ => by decide) (fun h => by cases h)
              · exact zk_const_ok (k := 2) (n := -1) hG.1 c2 (by decide) (fun h => absurd h (by decide)) (fun _ => rfl)
        · cases hs
      · cases hs
    · cases hs
  · cases hs
end ZK14
