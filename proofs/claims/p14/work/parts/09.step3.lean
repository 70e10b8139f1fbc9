/-! part 9: branches and switches hold -/
section ZK9
variable {p : Program} {l : Launch} {e : Env} {R : Room} {s : State} {m : MethodId} {args : Array Value} {below : List Frame} {meth : Method} {c : Code} {Q : State → Prop}
variable {cc : ByteArray} {w : zk_W} {u : zk_M} {Ts : List Jvm.Cond} {own : String}
theorem zk_br {κ : zk_C} {x y : zk_S} {k : ClassFile.Cond} {sp : Bool} {st : List zk_S} {cu su t : Nat} (kk : ∀ κ' ∈ zk_asm κ k x y sp, zk_J p l e R s m args below meth c Q w u κ' st cu su t) {N : List Int} {P : Nat → Option Nat} {F : Nat → va_E} {H : Heap} {locs : List Loc} {ls : Array Slot} {sv : List Value} (hG : zk_G w s u κ N P F H locs ls) (hS : zk_all2 (zk_sv κ.1 N) st sv) {a b : Int} (hk : zk_kd κ.1 x = zk_kd κ.1 y) (hk2 : zk_kd κ.1 x < 2) (ha : N[x.1]? = some a) (hb : N[y.1]? = some b) (hc : zk_cmp k (a + x.2) (b + y.2)) : W p l e R s m args below meth c H locs cu su Q (F0 m t ls sv) := by
  obtain ⟨κ', h1, h2, h3⟩ := zk_asm_ok (sp := sp) hG hk hk2 ha hb hc
  exact kk κ' h1 N P F H locs ls sv h2 (zk_sv_mono h3 hS)
theorem zk_lk_off {ps : List (Int × Int)} {d v : Int} : (∃ z ∈ ps, z.1 = v ∧ Op.lookupswitch.offset ps d v = z.2) ∨ Op.lookupswitch.offset ps d v = d := by
  induction ps with
  | nil => exact Or.inr rfl
  | cons q r ih =>
    obtain ⟨a, o⟩ := q
    rw [Op.lookupswitch.offset_cons]
    by_cases h : a = v
    · rw [if_pos h]
      exact Or.inl ⟨(a, o), List.mem_cons_self, h, rfl⟩
    · rw [if_neg h]
      rcases ih with ⟨z, h1, h2, h3⟩ | h1
      · exact Or.inl ⟨z, List.mem_cons_of_mem _ h1, h2, h3⟩
      · exact Or.inr h1
theorem zk_s2_ok (hx : p.tables.exec = Jvm.exec) (hb : c.code = cc) {i : ClassFile.Instr} {len pc : Nat} {κ : zk_C} {st : List zk_S} {cu su : Nat} {sp : Bool} {nx : Option (ClassFile.Instr × Nat)} {outs : List zk_O} (hs : zk_s2 sp nx i len pc κ st cu su = some outs) (hdg : decode cc pc = .ok (i, len)) (hnx : ∀ z, nx = some z → i = .lcmp → decode cc (pc + 1) = .ok z) (kk : ∀ o ∈ outs, zk_J p l e R s m args below meth c Q w u o.2.1 o.2.2.1 o.2.2.2.1 o.2.2.2.2 o.1) : zk_J p l e R s m args below meth c Q w u κ st cu su pc := by
  intro N P F H locs ls sv hG hS
  have hV := hG.1
  unfold zk_s2 at hs
  split at hs
  · rename_i off
    split at hs
    · rename_i t ht
      split at hs
      · rename_i hl
        subst hl
        cases hs
        exact lv_goto hx hb hdg (zk_tgt_ok ht) (kk _ List.mem_cons_self N P F H locs ls sv hG hS)
      · cases hs
    · cases hs
  · rename_i k off
    split at hs
    · rename_i t y x st' ht
      split at hs
      · rename_i hc
        obtain ⟨rfl, h1, h2⟩ := hc
        cases hs
        match sv, hS with
        | vy :: vx :: sv', hS =>
          obtain ⟨a, rfl, ra, la, ha, ka, na, ea⟩ := hS.2.1.int hV h1
          obtain ⟨b, rfl, rb, lb, hb', kb, nb, eb⟩ := hS.1.int hV h2
          refine zw_icmp hx hb hdg (zk_tgt_ok ht) ra rb (fun hc => ?_) (fun hc => ?_)
          · exact zk_br (fun κ' hκ => kk (_, κ', _, _, _) (List.mem_append_left _ (List.mem_map.mpr ⟨κ', hκ, rfl⟩))) hG hS.2.2 (h1.trans h2.symm) (by omega) na nb (by rw [← ea, ← eb]; exact hc)
          · exact zk_br (fun κ' hκ => kk (_, κ', _, _, _) (List.mem_append_right _ (List.mem_map.mpr ⟨κ', hκ, rfl⟩))) hG hS.2.2 (h1.trans h2.symm) (by omega) na nb (by rw [← ea, ← eb]; exact zk_neg_ok hc)
      · cases hs
    · cases hs
  · rename_i k off
    split at hs
    · rename_i t x st' ht
      split at hs
      · rename_i hc
        obtain ⟨rfl, h1, h2⟩ := hc
        cases hs
        match sv, hS with
        | vx :: sv', hS =>
          obtain ⟨a, rfl, ra, la, ha, ka, na, ea⟩ := hS.1.int hV h1
          have n0 := zk_c0 hV h2
          have k0 : zk_kd κ.1 ((0, 0) : zk_S) = 0 := by unfold zk_kd; rw [h2]
          refine zw_if hx hb hdg (zk_tgt_ok ht) ra (fun hc => ?_) (fun hc => ?_)
          · exact zk_br (fun κ' hκ => kk (_, κ', _, _, _) (List.mem_append_left _ (List.mem_map.mpr ⟨κ', hκ, rfl⟩))) hG hS.2 (h1.trans k0.symm) (by omega) na n0 (by rw [← ea]; exact hc)
          · exact zk_br (fun κ' hκ => kk (_, κ', _, _, _) (List.mem_append_right _ (List.mem_map.mpr ⟨κ', hκ, rfl⟩))) hG hS.2 (h1.trans k0.symm) (by omega) na n0 (by rw [← ea]; exact zk_neg_ok hc)
      · cases hs
    · cases hs
  · split at hs
    · rename_i k off
      split at hs
      · rename_i t y x st' ht
        split at hs
        · rename_i hc
          obtain ⟨rfl, h1, h2⟩ := hc
          cases hs
          match sv, hS with
          | vy :: vx :: sv', hS =>
            obtain ⟨a, rfl, ra, la, ha, ka, na, ea⟩ := hS.2.1.long hV h1
            obtain ⟨b, rfl, rb, lb, hb', kb, nb, eb⟩ := hS.1.long hV h2
            refine zw_lcmp hx hb hdg (hnx _ rfl rfl) (zk_tgt_ok ht) ra rb (fun hc => ?_) (fun hc => ?_)
            · exact zk_br (fun κ' hκ => kk (_, κ', _, _, _) (List.mem_append_left _ (List.mem_map.mpr ⟨κ', hκ, rfl⟩))) hG hS.2.2 (h1.trans h2.symm) (by omega) na nb (by rw [← ea, ← eb]; exact hc)
            · exact zk_br (fun κ' hκ => kk (_, κ', _, _, _) (List.mem_append_right _ (List.mem_map.mpr ⟨κ', hκ, rfl⟩))) hG hS.2.2 (h1.trans h2.symm) (by omega) na nb (by rw [← ea, ← eb]; exact zk_neg_ok hc)
        · cases hs
      · cases hs
    · cases hs
  · rename_i off
    split at hs
    · rename_i t x st' ht
      split at hs
      · rename_i hc
        obtain ⟨rfl, h0, h1, h2⟩ := hc
        cases hs
        match sv, hS with
        | vx :: sv', hS =>
          obtain ⟨-, n, na, ev⟩ := hS.1.ref h1 h2
          rw [h0, Int.add_zero] at ev
          by_cases hn : n < 0
          · rw [if_pos hn] at ev
            subst ev
            obtain ⟨κ', z1, z2, z3⟩ := zk_nu_ok hG h1 h2 na hn
            exact lv_ifnonnullN hx hb hdg (kk (_, κ', _, _, _) (List.mem_append_right _ (List.mem_map.mpr ⟨κ', by rw [z1]; exact List.mem_singleton.mpr rfl, rfl⟩)) N P F H locs ls _ z2 (zk_sv_mono z3 hS.2))
          · rw [if_neg hn] at ev
            subst ev
            obtain ⟨κ', z1, z2, z3⟩ := zk_nn_ok hG h1 h2 na (by omega)
            exact lv_ifnonnull hx hb hdg (zk_tgt_ok ht) (kk (_, κ', _, _, _) (List.mem_append_left _ (List.mem_map.mpr ⟨κ', by rw [z1]; exact List.mem_singleton.mpr rfl, rfl⟩)) N P F H locs ls _ z2 (zk_sv_mono z3 hS.2))
      · cases hs
    · cases hs
  · rename_i off
    split at hs
    · rename_i t x st' ht
      split at hs
      · rename_i hc
        obtain ⟨rfl, h0, h1, h2⟩ := hc
        cases hs
        match sv, hS with
        | vx :: sv', hS =>
          obtain ⟨-, n, na, ev⟩ := hS.1.ref h1 h2
          rw [h0, Int.add_zero] at ev
          by_cases hn : n < 0
          · rw [if_pos hn] at ev
            subst ev
            obtain ⟨κ', z1, z2, z3⟩ := zk_nu_ok hG h1 h2 na hn
            exact lv_ifnullN hx hb hdg (zk_tgt_ok ht) (kk (_, κ', _, _, _) (List.mem_append_left _ (List.mem_map.mpr ⟨κ', by rw [z1]; exact List.mem_singleton.mpr rfl, rfl⟩)) N P F H locs ls _ z2 (zk_sv_mono z3 hS.2))
          · rw [if_neg hn] at ev
            subst ev
            obtain ⟨κ', z1, z2, z3⟩ := zk_nn_ok hG h1 h2 na (by omega)
            exact lv_ifnull hx hb hdg (kk (_, κ', _, _, _) (List.mem_append_right _ (List.mem_map.mpr ⟨κ', by rw [z1]; exact List.mem_singleton.mpr rfl, rfl⟩)) N P F H locs ls _ z2 (zk_sv_mono z3 hS.2))
      · cases hs
    · cases hs
  · rename_i d lo hi offs
    split at hs
    · rename_i t x st' ht
      split at hs
      · rename_i hc
        obtain ⟨h1, h2, h3, h4⟩ := hc
        cases hs
        match sv, hS with
        | vx :: sv', hS =>
          obtain ⟨a, rfl, ra, la, ha, ka, na, ea⟩ := hS.1.int hV h1
          have n0 := zk_c0 hV h2
          have k0 : ∀ z, zk_kd κ.1 ((0, z) : zk_S) = 0 := by intro z; unfold zk_kd; rw [h2]
          have ei := zk_i32 ra
          by_cases c1 : a < lo
          · refine lv_tableOut hx hb hdg (Or.inl (by rw [ei]; exact c1)) (zk_tgt_ok ht) ?_
            exact zk_br (k := .lt) (y := (0, lo)) (fun κ' hκ => kk (_, κ', _, _, _) (List.mem_append_left _ (List.mem_append_left _ (List.mem_map.mpr ⟨κ', hκ, rfl⟩)))) hG hS.2 (h1.trans (k0 _).symm) (by omega) na n0 (by show ka + x.2 < 0 + lo; omega)
          · by_cases c2 : hi < a
            · refine lv_tableOut hx hb hdg (Or.inr (by rw [ei]; exact c2)) (zk_tgt_ok ht) ?_
              exact zk_br (k := .gt) (y := (0, hi)) (fun κ' hκ => kk (_, κ', _, _, _) (List.mem_append_left _ (List.mem_append_right _ (List.mem_map.mpr ⟨κ', hκ, rfl⟩)))) hG hS.2 (h1.trans (k0 _).symm) (by omega) na n0 (by show 0 + hi < ka + x.2; omega)
            · have hj : (a - lo).toNat < offs.toList.length := by omega
              obtain ⟨o, ho⟩ : ∃ o, offs.toList[(a - lo).toNat]? = some o := ⟨_, List.getElem?_eq_getElem hj⟩
              have hom := List.mem_of_getElem? ho
              have h5 := List.all_eq_true.mp h4 o hom
              obtain ⟨t', ht'⟩ := Option.isSome_iff_exists.mp h5
              refine lv_tableIn hx hb hdg (by rw [ei]; exact c1) (by rw [ei]; exact c2) (off := o) (by rw [ei, ← Array.getElem?_toList]; exact ho) (zk_tgt_ok ht') ?_
              refine zk_br (k := .eq) (y := (0, lo + ((a - lo).toNat : Nat))) (sp := false) (fun κ' hκ => kk (t', κ', _, _, _) (List.mem_append_right _ (List.mem_flatMap.mpr ⟨(o, (a - lo).toNat), ?_, ?_⟩))) hG hS.2 (h1.trans (k0 _).symm) (by omega) na n0 (by show ka + x.2 = 0 + (lo + ((a - lo).toNat : Nat)); omega)
              · rw [List.mk_mem_zipIdx_iff_getElem?]
                exact ho
              · unfold zk_ts
                rw [ht']
                exact List.mem_map.mpr ⟨κ', hκ, rfl⟩
      · cases hs
    · cases hs
  · rename_i d ps
    split at hs
    · rename_i t x st' ht
      split at hs
      · rename_i hc
        obtain ⟨h1, h2, h3, h4⟩ := hc
        cases hs
        match sv, hS with
        | vx :: sv', hS =>
          obtain ⟨a, rfl, ra, la, ha, ka, na, ea⟩ := hS.1.int hV h1
          have n0 := zk_c0 hV h2
          have k0 : ∀ z, zk_kd κ.1 ((0, z) : zk_S) = 0 := by intro z; unfold zk_kd; rw [h2]
          have ei := zk_i32 ra
          rcases zk_lk_off (ps := ps.toList) (d := d) (v := a) with ⟨z, hz, e1, e2⟩ | e2
          · have h5 := List.all_eq_true.mp h4 z hz
            obtain ⟨t', ht'⟩ := Option.isSome_iff_exists.mp h5
            refine lv_lookup hx hb hdg h3 (by rw [ei]; exact e2) (zk_tgt_ok ht') ?_
            refine zk_br (k := .eq) (y := (0, z.1)) (sp := false) (fun κ' hκ => kk (t', κ', _, _, _) (List.mem_cons_of_mem _ (List.mem_flatMap.mpr ⟨z, hz, ?_⟩))) hG hS.2 (h1.trans (k0 _).symm) (by omega) na n0 (by show ka + x.2 = 0 + z.1; omega)
            unfold zk_ts
            rw [ht']
            exact List.mem_map.mpr ⟨κ', hκ, rfl⟩
          · exact lv_lookup hx hb hdg h3 (by rw [ei]; exact e2) (zk_tgt_ok ht) (kk _ List.mem_cons_self N P F H locs ls _ hG hS.2)
      · cases hs
    · cases hs
  · cases hs
end ZK9
