/-! part 61: the parser: isCompared, partAt, readPart, readPlain -/
section ZP61
variable {p : Program} {l : Launch} {e : Env} {R : Room} {s : State} {m : MethodId} {args : Array Value} {below : List Frame} {meth : Method} {c : Code} {Q : State → Prop}
variable {cc : ByteArray} {w : zk_W} {u : zk_M} {Ts : List Jvm.Cond} {own : String}
variable {xs : List Nat} {pc : Nat} {L : List (Nat × Nat × Int)} {S : List (Nat × Int)} {P : Nat → Option Nat} {G : Nat → Nat → Int}
theorem zp_sk {j k : Nat} {v : Int} (hl : S[j]? = some (k, v)) (kk : zk_rg k v → zp_J p l e R s m args below meth c Q w u xs pc L S P G) : zp_J p l e R s m args below meth c Q w u xs pc L S P G :=
  fun F H locs ls hF hI hL hkL hkS => kk (hkS _ (List.mem_of_getElem? hl)).2.1 F H locs ls hF hI hL hkL hkS
end ZP61
def zK_ic : zk_K := (zt_mn 233, prog_14_method_49_code, 2, (Option.some Jvm.ClassFile.FieldType.boolean), 1, 12, [(2, 92, 0, 0)], [(some (0, 0, 0, 1), [])], [], (1, 40, 0, 0))
def zψ_ic : (Nat → Option Nat) → (Nat → Nat → Int) → List Int → (Nat → Option Nat) → (Nat → Nat → Int) → Int → Prop := fun P G ps P' G' rn => P' = P ∧ G' = G
theorem zX_ic {l : Launch} {w : zk_W} (hW : zh_W w) : zk_metX l w zt_dv zt_TB zK_ic (zp_A zp_tA) (zp_B zψ_ic) ∧ zk_cok w zt_TB zK_ic := by
  refine zp_meth hW (pl := 1773) rfl (by decide +kernel) (fun p e R s m args below meth c Q u hx hb hE hQ hU5 heff hnL hok hφ => ?_)
  have hw := hW.1
  obtain ⟨p0, hps, k0⟩ := zp_ps1 hok
  obtain ⟨a, rfl, hp⟩ := zp_this k0
  have hrm : zk_Kr (zk_ev (zp_E zK_ic)) = zk_Kr zK_ic := rfl
  rw [hps] at hφ ⊢
  show zp_J p l e R s m args below meth c Q w u [] 0 [(0, 2, (a : Int))] [] u.1 (zp_n u.2.1)
  refine zp_kn (k := 27) (a := a) hw (show zp_fd 92 27 = some (12, 2, 70, 0, 0) from rfl) rfl hp (fun hk27 => ?_)
  obtain ⟨b27, hb27, hq27⟩ := zp_this hk27
  refine zp_kn (k := 29) (a := a) hw (show zp_fd 92 29 = some (12, 0, 0, 0, 400) from rfl) rfl hp (fun hk29 => ?_)
  obtain ⟨pd, hpd⟩ := zp_nat (zp_int hk29).1
  have hpdb := zp_int hk29
  rw [hpd] at hpdb
  have loop : ∀ (n : Nat), n ≤ pd → zp_J p l e R s m args below meth c Q w u [] 7 [(1, 0, (n : Int) - 1), (0, 2, (a : Int))] [] u.1 (zp_n u.2.1) := by
    intro n
    induction n with
    | zero =>
      intro hn
      show zp_J p l e R s m args below meth c Q w u [] 7 [(1, 0, (-1)), (0, 2, (a : Int))] [] u.1 (zp_n u.2.1)
      refine zp_load (pc := 7) hx hb (zd_X12_isCompared (7, .iload_n 1, 1, 0, []) (List.mem_of_getElem? (i := 5) rfl)) rfl (j := 0) rfl ?_
      refine zp_if (pc := 8) (tgt := 36) hx hb (zd_X12_isCompared (8, .ifCond .lt 28, 3, 0, []) (List.mem_of_getElem? (i := 6) rfl)) rfl (fun (hc0 : (-1) < 0) => ?_) (fun (hc0 : ¬ ((-1) < 0)) => ?_)
      · refine zp_load (pc := 36) hx hb (zd_X12_isCompared (36, .iload_n 1, 1, 0, []) (List.mem_of_getElem? (i := 18) rfl)) rfl (j := 0) rfl ?_
        refine zp_if (pc := 37) (tgt := 63) hx hb (zd_X12_isCompared (37, .ifCond .lt 26, 3, 0, []) (List.mem_of_getElem? (i := 19) rfl)) rfl (fun (hc0 : (-1) < 0) => ?_) (fun (hc0 : ¬ ((-1) < 0)) => ?_)
        · refine zp_const (pc := 63) hx hb (zd_X12_isCompared (63, .iconst 0, 1, 0, []) (List.mem_of_getElem? (i := 31) rfl)) rfl rfl ?_
          refine zp_zret (pc := 64) (n := 0) hx hb hE hQ hU5 rfl (by decide) (zd_X12_isCompared (64, .ireturn, 1, 0, []) (List.mem_of_getElem? (i := 32) rfl)) (j := 0) rfl (zp_o0 (by omega) (by omega) (by omega) (by omega)) ?_
          rw [hps]
          exact ⟨rfl, rfl⟩
        · exact absurd (by decide) hc0
      · exact absurd (by decide) hc0
    | succ k ih =>
      intro hn
      rw [show ((k + 1 : Nat) : Int) - 1 = (k : Int) by omega]
      refine zp_load (pc := 7) hx hb (zd_X12_isCompared (7, .iload_n 1, 1, 0, []) (List.mem_of_getElem? (i := 5) rfl)) rfl (j := 0) rfl ?_
      refine zp_if (pc := 8) (tgt := 36) hx hb (zd_X12_isCompared (8, .ifCond .lt 28, 3, 0, []) (List.mem_of_getElem? (i := 6) rfl)) rfl (fun (hc37 : (k : Int) < 0) => ?_) (fun (hc37 : ¬ ((k : Int) < 0)) => ?_)
      · refine zp_load (pc := 36) hx hb (zd_X12_isCompared (36, .iload_n 1, 1, 0, []) (List.mem_of_getElem? (i := 18) rfl)) rfl (j := 0) rfl ?_
        refine zp_if (pc := 37) (tgt := 63) hx hb (zd_X12_isCompared (37, .ifCond .lt 26, 3, 0, []) (List.mem_of_getElem? (i := 19) rfl)) rfl (fun (hc38 : (k : Int) < 0) => ?_) (fun (hc38 : ¬ ((k : Int) < 0)) => ?_)
        · refine zp_const (pc := 63) hx hb (zd_X12_isCompared (63, .iconst 0, 1, 0, []) (List.mem_of_getElem? (i := 31) rfl)) rfl rfl ?_
          refine zp_zret (pc := 64) (n := 0) hx hb hE hQ hU5 rfl (by decide) (zd_X12_isCompared (64, .ireturn, 1, 0, []) (List.mem_of_getElem? (i := 32) rfl)) (j := 0) rfl (zp_o0 (by omega) (by omega) (by omega) (by omega)) ?_
          rw [hps]
          exact ⟨rfl, rfl⟩
        · refine zp_load (pc := 40) hx hb (zd_X12_isCompared (40, .aload_n 0, 1, 0, []) (List.mem_of_getElem? (i := 20) rfl)) rfl (j := 1) rfl ?_
          refine zp_getf (n := (b27 : Int)) (pc := 41) hx hb hE hw (zd_X12_isCompared (41, .getfield 51, 3, 0, []) (List.mem_of_getElem? (i := 21) rfl)) (j := 45) rfl rfl rfl hp hb27 ?_
          refine zp_load (pc := 44) hx hb (zd_X12_isCompared (44, .iload_n 1, 1, 0, []) (List.mem_of_getElem? (i := 22) rfl)) rfl (j := 0) rfl ?_
          refine zp_iald (j := k) (v := ((zp_n u.2.1) b27 (2000 + k))) (pc := 45) hx hb hw (zd_X12_isCompared (45, .iaload, 1, 0, []) (List.mem_of_getElem? (i := 23) rfl)) (show zp_ia 1 70 = some (400, 0, 0, (-2147483648), 2147483647) from rfl) hq27 (by omega) (by omega) rfl (fun hk39 => ?_)
          have hk39b := zp_int hk39
          refine zp_i2l (pc := 46) hx hb (zd_X12_isCompared (46, .i2l, 1, 0, []) (List.mem_of_getElem? (i := 24) rfl)) ?_
          refine zp_ldc2 (pc := 47) hx hb hE (zd_X12_isCompared (47, .ldc2_w 296, 3, 0, []) (List.mem_of_getElem? (i := 25) rfl)) (j := 100) rfl ?_
          refine zp_ldc2 (pc := 50) hx hb hE (zd_X12_isCompared (50, .ldc2_w 298, 3, 0, []) (List.mem_of_getElem? (i := 26) rfl)) (j := 101) rfl ?_
          refine zp_call (pc := 53) (how := 1) (idx := 181) (mi := 186) (S := []) hx hb hE hw heff hrm (zX_in hW) rfl (j := 2) rfl rfl (by decide +kernel) (zd_X12_isCompared (53, .invokestatic 181, 3, 0, []) (List.mem_of_getElem? (i := 27) rfl)) [((zp_n u.2.1) b27 (2000 + k)), 25, 27] rfl ⟨zp_o1 (zp_r1 (by omega) (by omega)), zp_o1 ⟨by decide, by decide⟩, zp_o1 ⟨by decide, by decide⟩, trivial⟩ (Nat.le_of_ble_eq_true rfl) trivial (fun al hal rni Pi Gi hexti hfri hoki hcsi hpsii => ?_)
          obtain rfl := List.mem_singleton.mp hal
          have hri := zp_int (hoki _ rfl).1
          obtain ⟨hPei, hGei, hti⟩ := hpsii
          rw [hPei, hGei]
          refine zp_if (pc := 56) (tgt := 63) hx hb (zd_X12_isCompared (56, .ifCond .eq 7, 3, 0, []) (List.mem_of_getElem? (i := 28) rfl)) rfl (fun (hc40 : rni = 0) => ?_) (fun (hc40 : ¬ (rni = 0)) => ?_)
          · refine zp_const (pc := 63) hx hb (zd_X12_isCompared (63, .iconst 0, 1, 0, []) (List.mem_of_getElem? (i := 31) rfl)) rfl rfl ?_
            refine zp_zret (pc := 64) (n := 0) hx hb hE hQ hU5 rfl (by decide) (zd_X12_isCompared (64, .ireturn, 1, 0, []) (List.mem_of_getElem? (i := 32) rfl)) (j := 0) rfl (zp_o0 (by omega) (by omega) (by omega) (by omega)) ?_
            rw [hps]
            exact ⟨rfl, rfl⟩
          · refine zp_const (pc := 59) hx hb (zd_X12_isCompared (59, .iconst 1, 1, 0, []) (List.mem_of_getElem? (i := 29) rfl)) rfl rfl ?_
            refine zp_goto (tgt := 64) (pc := 60) hx hb (zd_X12_isCompared (60, .goto 4, 3, 0, []) (List.mem_of_getElem? (i := 30) rfl)) rfl ?_
            refine zp_zret (pc := 64) (n := 1) hx hb hE hQ hU5 rfl (by decide) (zd_X12_isCompared (64, .ireturn, 1, 0, []) (List.mem_of_getElem? (i := 32) rfl)) (j := 0) rfl (zp_o0 (by omega) (by omega) (by omega) (by omega)) ?_
            rw [hps]
            exact ⟨rfl, rfl⟩
      · refine zp_load (pc := 11) hx hb (zd_X12_isCompared (11, .aload_n 0, 1, 0, []) (List.mem_of_getElem? (i := 7) rfl)) rfl (j := 1) rfl ?_
        refine zp_getf (n := (b27 : Int)) (pc := 12) hx hb hE hw (zd_X12_isCompared (12, .getfield 51, 3, 0, []) (List.mem_of_getElem? (i := 8) rfl)) (j := 45) rfl rfl rfl hp hb27 ?_
        refine zp_load (pc := 15) hx hb (zd_X12_isCompared (15, .iload_n 1, 1, 0, []) (List.mem_of_getElem? (i := 9) rfl)) rfl (j := 0) rfl ?_
        refine zp_iald (j := k) (v := ((zp_n u.2.1) b27 (2000 + k))) (pc := 16) hx hb hw (zd_X12_isCompared (16, .iaload, 1, 0, []) (List.mem_of_getElem? (i := 10) rfl)) (show zp_ia 1 70 = some (400, 0, 0, (-2147483648), 2147483647) from rfl) hq27 (by omega) (by omega) rfl (fun hk41 => ?_)
        have hk41b := zp_int hk41
        refine zp_i2l (pc := 17) hx hb (zd_X12_isCompared (17, .i2l, 1, 0, []) (List.mem_of_getElem? (i := 11) rfl)) ?_
        refine zp_ldc2 (pc := 18) hx hb hE (zd_X12_isCompared (18, .ldc2_w 292, 3, 0, []) (List.mem_of_getElem? (i := 12) rfl)) (j := 98) rfl ?_
        refine zp_ldc2 (pc := 21) hx hb hE (zd_X12_isCompared (21, .ldc2_w 294, 3, 0, []) (List.mem_of_getElem? (i := 13) rfl)) (j := 99) rfl ?_
        refine zp_call (pc := 24) (how := 1) (idx := 181) (mi := 186) (S := []) hx hb hE hw heff hrm (zX_in hW) rfl (j := 2) rfl rfl (by decide +kernel) (zd_X12_isCompared (24, .invokestatic 181, 3, 0, []) (List.mem_of_getElem? (i := 14) rfl)) [((zp_n u.2.1) b27 (2000 + k)), 20, 24] rfl ⟨zp_o1 (zp_r1 (by omega) (by omega)), zp_o1 ⟨by decide, by decide⟩, zp_o1 ⟨by decide, by decide⟩, trivial⟩ (Nat.le_of_ble_eq_true rfl) trivial (fun al hal rni Pi Gi hexti hfri hoki hcsi hpsii => ?_)
        obtain rfl := List.mem_singleton.mp hal
        have hri := zp_int (hoki _ rfl).1
        obtain ⟨hPei, hGei, hti⟩ := hpsii
        rw [hPei, hGei]
        refine zp_if (pc := 27) (tgt := 36) hx hb (zd_X12_isCompared (27, .ifCond .eq 9, 3, 0, []) (List.mem_of_getElem? (i := 15) rfl)) rfl (fun (hc42 : rni = 0) => ?_) (fun (hc42 : ¬ (rni = 0)) => ?_)
        · refine zp_load (pc := 36) hx hb (zd_X12_isCompared (36, .iload_n 1, 1, 0, []) (List.mem_of_getElem? (i := 18) rfl)) rfl (j := 0) rfl ?_
          refine zp_if (pc := 37) (tgt := 63) hx hb (zd_X12_isCompared (37, .ifCond .lt 26, 3, 0, []) (List.mem_of_getElem? (i := 19) rfl)) rfl (fun (hc43 : (k : Int) < 0) => ?_) (fun (hc43 : ¬ ((k : Int) < 0)) => ?_)
          · refine zp_const (pc := 63) hx hb (zd_X12_isCompared (63, .iconst 0, 1, 0, []) (List.mem_of_getElem? (i := 31) rfl)) rfl rfl ?_
            refine zp_zret (pc := 64) (n := 0) hx hb hE hQ hU5 rfl (by decide) (zd_X12_isCompared (64, .ireturn, 1, 0, []) (List.mem_of_getElem? (i := 32) rfl)) (j := 0) rfl (zp_o0 (by omega) (by omega) (by omega) (by omega)) ?_
            rw [hps]
            exact ⟨rfl, rfl⟩
          · refine zp_load (pc := 40) hx hb (zd_X12_isCompared (40, .aload_n 0, 1, 0, []) (List.mem_of_getElem? (i := 20) rfl)) rfl (j := 1) rfl ?_
            refine zp_getf (n := (b27 : Int)) (pc := 41) hx hb hE hw (zd_X12_isCompared (41, .getfield 51, 3, 0, []) (List.mem_of_getElem? (i := 21) rfl)) (j := 45) rfl rfl rfl hp hb27 ?_
            refine zp_load (pc := 44) hx hb (zd_X12_isCompared (44, .iload_n 1, 1, 0, []) (List.mem_of_getElem? (i := 22) rfl)) rfl (j := 0) rfl ?_
            refine zp_iald (j := k) (v := ((zp_n u.2.1) b27 (2000 + k))) (pc := 45) hx hb hw (zd_X12_isCompared (45, .iaload, 1, 0, []) (List.mem_of_getElem? (i := 23) rfl)) (show zp_ia 1 70 = some (400, 0, 0, (-2147483648), 2147483647) from rfl) hq27 (by omega) (by omega) rfl (fun hk44 => ?_)
            have hk44b := zp_int hk44
            refine zp_i2l (pc := 46) hx hb (zd_X12_isCompared (46, .i2l, 1, 0, []) (List.mem_of_getElem? (i := 24) rfl)) ?_
            refine zp_ldc2 (pc := 47) hx hb hE (zd_X12_isCompared (47, .ldc2_w 296, 3, 0, []) (List.mem_of_getElem? (i := 25) rfl)) (j := 100) rfl ?_
            refine zp_ldc2 (pc := 50) hx hb hE (zd_X12_isCompared (50, .ldc2_w 298, 3, 0, []) (List.mem_of_getElem? (i := 26) rfl)) (j := 101) rfl ?_
            refine zp_call (pc := 53) (how := 1) (idx := 181) (mi := 186) (S := []) hx hb hE hw heff hrm (zX_in hW) rfl (j := 2) rfl rfl (by decide +kernel) (zd_X12_isCompared (53, .invokestatic 181, 3, 0, []) (List.mem_of_getElem? (i := 27) rfl)) [((zp_n u.2.1) b27 (2000 + k)), 25, 27] rfl ⟨zp_o1 (zp_r1 (by omega) (by omega)), zp_o1 ⟨by decide, by decide⟩, zp_o1 ⟨by decide, by decide⟩, trivial⟩ (Nat.le_of_ble_eq_true rfl) trivial (fun al hal rni Pi Gi hexti hfri hoki hcsi hpsii => ?_)
            obtain rfl := List.mem_singleton.mp hal
            have hri := zp_int (hoki _ rfl).1
            obtain ⟨hPei, hGei, hti⟩ := hpsii
            rw [hPei, hGei]
            refine zp_if (pc := 56) (tgt := 63) hx hb (zd_X12_isCompared (56, .ifCond .eq 7, 3, 0, []) (List.mem_of_getElem? (i := 28) rfl)) rfl (fun (hc45 : rni = 0) => ?_) (fun (hc45 : ¬ (rni = 0)) => ?_)
            · refine zp_const (pc := 63) hx hb (zd_X12_isCompared (63, .iconst 0, 1, 0, []) (List.mem_of_getElem? (i := 31) rfl)) rfl rfl ?_
              refine zp_zret (pc := 64) (n := 0) hx hb hE hQ hU5 rfl (by decide) (zd_X12_isCompared (64, .ireturn, 1, 0, []) (List.mem_of_getElem? (i := 32) rfl)) (j := 0) rfl (zp_o0 (by omega) (by omega) (by omega) (by omega)) ?_
              rw [hps]
              exact ⟨rfl, rfl⟩
            · refine zp_const (pc := 59) hx hb (zd_X12_isCompared (59, .iconst 1, 1, 0, []) (List.mem_of_getElem? (i := 29) rfl)) rfl rfl ?_
              refine zp_goto (tgt := 64) (pc := 60) hx hb (zd_X12_isCompared (60, .goto 4, 3, 0, []) (List.mem_of_getElem? (i := 30) rfl)) rfl ?_
              refine zp_zret (pc := 64) (n := 1) hx hb hE hQ hU5 rfl (by decide) (zd_X12_isCompared (64, .ireturn, 1, 0, []) (List.mem_of_getElem? (i := 32) rfl)) (j := 0) rfl (zp_o0 (by omega) (by omega) (by omega) (by omega)) ?_
              rw [hps]
              exact ⟨rfl, rfl⟩
        · refine zp_iinc (L' := [(1, 0, ((k : Int) - 1)), (0, 2, (a : Int))]) (n := ((k : Int) - 1)) (pc := 30) hx hb hnL (zd_X12_isCompared (30, .iinc 1 (-1), 3, 0, []) (List.mem_of_getElem? (i := 16) rfl)) (j := 0) rfl (by omega) (zp_r0 (by omega) (by omega)) rfl rfl ?_
          refine zp_goto (tgt := 7) (pc := 33) hx hb (zd_X12_isCompared (33, .goto (-26), 3, 0, []) (List.mem_of_getElem? (i := 17) rfl)) rfl ?_
          exact ih (by omega)
  refine zp_load (pc := 0) hx hb (zd_X12_isCompared (0, .aload_n 0, 1, 0, []) (List.mem_of_getElem? (i := 0) rfl)) rfl (j := 0) rfl ?_
  refine zp_getf (n := (pd : Int)) (pc := 1) hx hb hE hw (zd_X12_isCompared (1, .getfield 282, 3, 0, []) (List.mem_of_getElem? (i := 1) rfl)) (j := 47) rfl rfl rfl hp hpd ?_
  refine zp_const (pc := 4) hx hb (zd_X12_isCompared (4, .iconst 1, 1, 0, []) (List.mem_of_getElem? (i := 2) rfl)) rfl rfl ?_
  refine zp_sub (n := ((pd : Int) - 1)) (pc := 5) hx hb (zd_X12_isCompared (5, .isub, 1, 0, []) (List.mem_of_getElem? (i := 3) rfl)) (by omega) (zp_r0 (by omega) (by omega)) ?_
  refine zp_store (L' := [(1, 0, ((pd : Int) - 1)), (0, 2, (a : Int))]) (pc := 6) hx hb hnL (zd_X12_isCompared (6, .istore_n 1, 1, 0, []) (List.mem_of_getElem? (i := 4) rfl)) rfl rfl rfl ?_
  exact loop pd (Nat.le_refl _)
def zK_pt : zk_K := (zt_mn 225, prog_14_method_50_code, 3, (Option.some Jvm.ClassFile.FieldType.int), 1, 12, [(2, 92, 0, 0)], [(some (0, 0, (-1), 9), [])], [], (1, 40, 0, 0))
def zψ_pt : (Nat → Option Nat) → (Nat → Nat → Int) → List Int → (Nat → Option Nat) → (Nat → Nat → Int) → Int → Prop := fun P G ps P' G' rn => P' = P ∧ G' = G ∧ (rn = -1 ∨ (1 ≤ rn ∧ G (zp_0 ps) 16 = 1))
theorem zX_pt {l : Launch} {w : zk_W} (hW : zh_W w) : zk_metX l w zt_dv zt_TB zK_pt (zp_A zp_tA) (zp_B zψ_pt) ∧ zk_cok w zt_TB zK_pt := by
  refine zp_meth hW (pl := 1741) rfl (by decide +kernel) (fun p e R s m args below meth c Q u hx hb hE hQ hU5 heff hnL hok hφ => ?_)
  have hw := hW.1
  obtain ⟨p0, hps, k0⟩ := zp_ps1 hok
  obtain ⟨a, rfl, hp⟩ := zp_this k0
  have hrm : zk_Kr (zk_ev (zp_E zK_pt)) = zk_Kr zK_pt := rfl
  rw [hps] at hφ ⊢
  show zp_J p l e R s m args below meth c Q w u [] 0 [(0, 2, (a : Int))] [] u.1 (zp_n u.2.1)
  refine zp_kn (k := 31) (a := a) hw (show zp_fd 92 31 = some (12, 2, 72, 0, 0) from rfl) rfl hp (fun hk31 => ?_)
  obtain ⟨b31, hb31, hq31⟩ := zp_this hk31
  have loop : ∀ (n k : Nat) (its : Int), 9 - k < n → k ≤ 9 → (its = -1 ∨ (1 ≤ its ∧ its ≤ k ∧ zp_n u.2.1 a 16 = 1)) → zp_J p l e R s m args below meth c Q w u [] 4 [(2, 0, (k : Int)), (1, 0, its), (0, 2, (a : Int))] [] u.1 (zp_n u.2.1) := by
    intro n
    induction n with
    | zero => intro k its h; exact absurd h (Nat.not_lt_zero _)
    | succ n ih =>
      intro k its hn hk hinv
      refine zp_load (pc := 4) hx hb (zd_X12_partAt (4, .iload_n 2, 1, 0, []) (List.mem_of_getElem? (i := 4) rfl)) rfl (j := 0) rfl ?_
      refine zp_const (pc := 5) hx hb (zd_X12_partAt (5, .bipush 9, 2, 0, []) (List.mem_of_getElem? (i := 5) rfl)) rfl rfl ?_
      refine zp_icmp (pc := 7) (tgt := 37) hx hb (zd_X12_partAt (7, .if_icmp .ge 30, 3, 0, []) (List.mem_of_getElem? (i := 6) rfl)) rfl (fun (hge : 9 ≤ (k : Int)) => ?_) (fun (hge : ¬ (9 ≤ (k : Int))) => ?_)
      · refine zp_load (pc := 37) hx hb (zd_X12_partAt (37, .iload_n 1, 1, 0, []) (List.mem_of_getElem? (i := 22) rfl)) rfl (j := 1) rfl ?_
        refine zp_iret (pc := 38) (n := its) hx hb hE hQ hU5 rfl (by decide) (zd_X12_partAt (38, .ireturn, 1, 0, []) (List.mem_of_getElem? (i := 23) rfl)) (j := 0) rfl (zp_o0 (by omega) (by omega) (by omega) (by omega)) ?_
        rw [hps]
        refine ⟨rfl, rfl, ?_⟩
        show its = -1 ∨ (1 ≤ its ∧ zp_n u.2.1 a 16 = 1)
        omega
      · refine zp_load (pc := 10) hx hb (zd_X12_partAt (10, .aload_n 0, 1, 0, []) (List.mem_of_getElem? (i := 7) rfl)) rfl (j := 2) rfl ?_
        refine zp_load (pc := 11) hx hb (zd_X12_partAt (11, .aload_n 0, 1, 0, []) (List.mem_of_getElem? (i := 8) rfl)) rfl (j := 2) rfl ?_
        refine zp_getf (n := (b31 : Int)) (pc := 12) hx hb hE hw (zd_X12_partAt (12, .getfield 75, 3, 0, []) (List.mem_of_getElem? (i := 9) rfl)) (j := 49) rfl rfl rfl hp hb31 ?_
        refine zp_load (pc := 15) hx hb (zd_X12_partAt (15, .iload_n 2, 1, 0, []) (List.mem_of_getElem? (i := 10) rfl)) rfl (j := 0) rfl ?_
        refine zp_lald (j := k) (v := ((zp_n u.2.1) b31 (2000 + k))) (pc := 16) hx hb hw (zd_X12_partAt (16, .laload, 1, 0, []) (List.mem_of_getElem? (i := 11) rfl)) (show zp_ia 2 72 = some (9, 1, 0, (-9223372036854775808), 9223372036854775807) from rfl) hq31 (by omega) (by omega) rfl ?_
        refine zp_sk (k := 1) (j := 0) rfl (fun hlw => ?_)
        refine zp_call (pc := 17) (how := 0) (idx := 300) (mi := 216) (S := []) hx hb hE hw heff hrm (zX_wo hW) rfl (j := 18) rfl rfl (by decide +kernel) (zd_X12_partAt (17, .invokevirtual 300, 3, 0, []) (List.mem_of_getElem? (i := 12) rfl)) [(a : Int), ((zp_n u.2.1) b31 (2000 + k))] rfl ⟨zp_o2 hp, zp_o1 (by assumption), trivial⟩ (Nat.le_of_ble_eq_true rfl) trivial (fun al hal rnw Pw Gw hextw hfrw hokw hcsw hpsiw => ?_)
        obtain rfl := List.mem_singleton.mp hal
        have hrw := zp_int (hokw _ rfl).1
        obtain ⟨hPew, hGew, htw⟩ := hpsiw
        rw [hPew, hGew]
        have htw : rnw = 1 → zp_n u.2.1 a 16 = 1 := htw
        refine zp_if (pc := 20) (tgt := 29) hx hb (zd_X12_partAt (20, .ifCond .eq 9, 3, 0, []) (List.mem_of_getElem? (i := 13) rfl)) rfl (fun (hc47 : rnw = 0) => ?_) (fun (hc47 : ¬ (rnw = 0)) => ?_)
        · refine zp_load (pc := 29) hx hb (zd_X12_partAt (29, .iload_n 1, 1, 0, []) (List.mem_of_getElem? (i := 18) rfl)) rfl (j := 1) rfl ?_
          refine zp_store (L' := [(1, 0, its), (2, 0, (k : Int)), (0, 2, (a : Int))]) (pc := 30) hx hb hnL (zd_X12_partAt (30, .istore_n 1, 1, 0, []) (List.mem_of_getElem? (i := 19) rfl)) rfl rfl rfl ?_
          refine zp_iinc (L' := [(2, 0, ((k : Int) + 1)), (1, 0, its), (0, 2, (a : Int))]) (n := ((k : Int) + 1)) (pc := 31) hx hb hnL (zd_X12_partAt (31, .iinc 2 1, 3, 0, []) (List.mem_of_getElem? (i := 20) rfl)) (j := 1) rfl (by omega) (zp_r0 (by omega) (by omega)) rfl rfl ?_
          refine zp_goto (tgt := 4) (pc := 34) hx hb (zd_X12_partAt (34, .goto (-30), 3, 0, []) (List.mem_of_getElem? (i := 21) rfl)) rfl ?_
          refine ih (k + 1) its (by omega) (by omega) ?_
          omega
        · refine zp_load (pc := 23) hx hb (zd_X12_partAt (23, .iload_n 2, 1, 0, []) (List.mem_of_getElem? (i := 14) rfl)) rfl (j := 0) rfl ?_
          refine zp_const (pc := 24) hx hb (zd_X12_partAt (24, .iconst 1, 1, 0, []) (List.mem_of_getElem? (i := 15) rfl)) rfl rfl ?_
          refine zp_add (n := ((k : Int) + 1)) (pc := 25) hx hb (zd_X12_partAt (25, .iadd, 1, 0, []) (List.mem_of_getElem? (i := 16) rfl)) (by omega) (zp_r0 (by omega) (by omega)) ?_
          refine zp_goto (tgt := 30) (pc := 26) hx hb (zd_X12_partAt (26, .goto 4, 3, 0, []) (List.mem_of_getElem? (i := 17) rfl)) rfl ?_
          refine zp_store (L' := [(1, 0, ((k : Int) + 1)), (2, 0, (k : Int)), (0, 2, (a : Int))]) (pc := 30) hx hb hnL (zd_X12_partAt (30, .istore_n 1, 1, 0, []) (List.mem_of_getElem? (i := 19) rfl)) rfl rfl rfl ?_
          refine zp_iinc (L' := [(2, 0, ((k : Int) + 1)), (1, 0, ((k : Int) + 1)), (0, 2, (a : Int))]) (n := ((k : Int) + 1)) (pc := 31) hx hb hnL (zd_X12_partAt (31, .iinc 2 1, 3, 0, []) (List.mem_of_getElem? (i := 20) rfl)) (j := 1) rfl (by omega) (zp_r0 (by omega) (by omega)) rfl rfl ?_
          refine zp_goto (tgt := 4) (pc := 34) hx hb (zd_X12_partAt (34, .goto (-30), 3, 0, []) (List.mem_of_getElem? (i := 21) rfl)) rfl ?_
          refine ih (k + 1) ((k : Int) + 1) (by omega) (by omega) ?_
          omega
  refine zp_const (pc := 0) hx hb (zd_X12_partAt (0, .iconst (-1), 1, 0, []) (List.mem_of_getElem? (i := 0) rfl)) rfl rfl ?_
  refine zp_store (L' := [(1, 0, (-1)), (0, 2, (a : Int))]) (pc := 1) hx hb hnL (zd_X12_partAt (1, .istore_n 1, 1, 0, []) (List.mem_of_getElem? (i := 1) rfl)) rfl rfl rfl ?_
  refine zp_const (pc := 2) hx hb (zd_X12_partAt (2, .iconst 0, 1, 0, []) (List.mem_of_getElem? (i := 2) rfl)) rfl rfl ?_
  refine zp_store (L' := [(2, 0, 0), (1, 0, (-1)), (0, 2, (a : Int))]) (pc := 3) hx hb hnL (zd_X12_partAt (3, .istore_n 2, 1, 0, []) (List.mem_of_getElem? (i := 3) rfl)) rfl rfl rfl ?_
  exact loop 10 0 (-1) (by omega) (by omega) (Or.inl rfl)
def zK_ot : zk_K := (zt_mn 224, prog_14_method_51_code, 3, (Option.some Jvm.ClassFile.FieldType.int), 1, 12, [(2, 92, 0, 0)], [(some (0, 0, (-1), 7), [])], [], (1, 40, 0, 0))
def zψ_ot : (Nat → Option Nat) → (Nat → Nat → Int) → List Int → (Nat → Option Nat) → (Nat → Nat → Int) → Int → Prop := fun P G ps P' G' rn => P' = P ∧ G' = G ∧ (rn = -1 ∨ (1 ≤ rn ∧ G (zp_0 ps) 16 = 1))
theorem zX_ot {l : Launch} {w : zk_W} (hW : zh_W w) : zk_metX l w zt_dv zt_TB zK_ot (zp_A zp_tA) (zp_B zψ_ot) ∧ zk_cok w zt_TB zK_ot := by
  refine zp_meth hW (pl := 1737) rfl (by decide +kernel) (fun p e R s m args below meth c Q u hx hb hE hQ hU5 heff hnL hok hφ => ?_)
  have hw := hW.1
  obtain ⟨p0, hps, k0⟩ := zp_ps1 hok
  obtain ⟨a, rfl, hp⟩ := zp_this k0
  have hrm : zk_Kr (zk_ev (zp_E zK_ot)) = zk_Kr zK_ot := rfl
  rw [hps] at hφ ⊢
  show zp_J p l e R s m args below meth c Q w u [] 0 [(0, 2, (a : Int))] [] u.1 (zp_n u.2.1)
  refine zp_kn (k := 32) (a := a) hw (show zp_fd 92 32 = some (12, 2, 73, 0, 0) from rfl) rfl hp (fun hk32 => ?_)
  obtain ⟨b32, hb32, hq32⟩ := zp_this hk32
  have loop : ∀ (n k : Nat) (its : Int), 7 - k < n → k ≤ 7 → (its = -1 ∨ (1 ≤ its ∧ its ≤ k ∧ zp_n u.2.1 a 16 = 1)) → zp_J p l e R s m args below meth c Q w u [] 4 [(2, 0, (k : Int)), (1, 0, its), (0, 2, (a : Int))] [] u.1 (zp_n u.2.1) := by
    intro n
    induction n with
    | zero => intro k its h; exact absurd h (Nat.not_lt_zero _)
    | succ n ih =>
      intro k its hn hk hinv
      refine zp_load (pc := 4) hx hb (zd_X12_orderPartAt (4, .iload_n 2, 1, 0, []) (List.mem_of_getElem? (i := 4) rfl)) rfl (j := 0) rfl ?_
      refine zp_const (pc := 5) hx hb (zd_X12_orderPartAt (5, .bipush 7, 2, 0, []) (List.mem_of_getElem? (i := 5) rfl)) rfl rfl ?_
      refine zp_icmp (pc := 7) (tgt := 37) hx hb (zd_X12_orderPartAt (7, .if_icmp .ge 30, 3, 0, []) (List.mem_of_getElem? (i := 6) rfl)) rfl (fun (hge : 7 ≤ (k : Int)) => ?_) (fun (hge : ¬ (7 ≤ (k : Int))) => ?_)
      · refine zp_load (pc := 37) hx hb (zd_X12_orderPartAt (37, .iload_n 1, 1, 0, []) (List.mem_of_getElem? (i := 22) rfl)) rfl (j := 1) rfl ?_
        refine zp_iret (pc := 38) (n := its) hx hb hE hQ hU5 rfl (by decide) (zd_X12_orderPartAt (38, .ireturn, 1, 0, []) (List.mem_of_getElem? (i := 23) rfl)) (j := 0) rfl (zp_o0 (by omega) (by omega) (by omega) (by omega)) ?_
        rw [hps]
        refine ⟨rfl, rfl, ?_⟩
        show its = -1 ∨ (1 ≤ its ∧ zp_n u.2.1 a 16 = 1)
        omega
      · refine zp_load (pc := 10) hx hb (zd_X12_orderPartAt (10, .aload_n 0, 1, 0, []) (List.mem_of_getElem? (i := 7) rfl)) rfl (j := 2) rfl ?_
        refine zp_load (pc := 11) hx hb (zd_X12_orderPartAt (11, .aload_n 0, 1, 0, []) (List.mem_of_getElem? (i := 8) rfl)) rfl (j := 2) rfl ?_
        refine zp_getf (n := (b32 : Int)) (pc := 12) hx hb hE hw (zd_X12_orderPartAt (12, .getfield 85, 3, 0, []) (List.mem_of_getElem? (i := 9) rfl)) (j := 50) rfl rfl rfl hp hb32 ?_
        refine zp_load (pc := 15) hx hb (zd_X12_orderPartAt (15, .iload_n 2, 1, 0, []) (List.mem_of_getElem? (i := 10) rfl)) rfl (j := 0) rfl ?_
        refine zp_lald (j := k) (v := ((zp_n u.2.1) b32 (2000 + k))) (pc := 16) hx hb hw (zd_X12_orderPartAt (16, .laload, 1, 0, []) (List.mem_of_getElem? (i := 11) rfl)) (show zp_ia 2 73 = some (7, 1, 0, (-9223372036854775808), 9223372036854775807) from rfl) hq32 (by omega) (by omega) rfl ?_
        refine zp_sk (k := 1) (j := 0) rfl (fun hlw => ?_)
        refine zp_call (pc := 17) (how := 0) (idx := 300) (mi := 216) (S := []) hx hb hE hw heff hrm (zX_wo hW) rfl (j := 18) rfl rfl (by decide +kernel) (zd_X12_orderPartAt (17, .invokevirtual 300, 3, 0, []) (List.mem_of_getElem? (i := 12) rfl)) [(a : Int), ((zp_n u.2.1) b32 (2000 + k))] rfl ⟨zp_o2 hp, zp_o1 (by assumption), trivial⟩ (Nat.le_of_ble_eq_true rfl) trivial (fun al hal rnw Pw Gw hextw hfrw hokw hcsw hpsiw => ?_)
        obtain rfl := List.mem_singleton.mp hal
        have hrw := zp_int (hokw _ rfl).1
        obtain ⟨hPew, hGew, htw⟩ := hpsiw
        rw [hPew, hGew]
        have htw : rnw = 1 → zp_n u.2.1 a 16 = 1 := htw
        refine zp_if (pc := 20) (tgt := 29) hx hb (zd_X12_orderPartAt (20, .ifCond .eq 9, 3, 0, []) (List.mem_of_getElem? (i := 13) rfl)) rfl (fun (hc49 : rnw = 0) => ?_) (fun (hc49 : ¬ (rnw = 0)) => ?_)
        · refine zp_load (pc := 29) hx hb (zd_X12_orderPartAt (29, .iload_n 1, 1, 0, []) (List.mem_of_getElem? (i := 18) rfl)) rfl (j := 1) rfl ?_
          refine zp_store (L' := [(1, 0, its), (2, 0, (k : Int)), (0, 2, (a : Int))]) (pc := 30) hx hb hnL (zd_X12_orderPartAt (30, .istore_n 1, 1, 0, []) (List.mem_of_getElem? (i := 19) rfl)) rfl rfl rfl ?_
          refine zp_iinc (L' := [(2, 0, ((k : Int) + 1)), (1, 0, its), (0, 2, (a : Int))]) (n := ((k : Int) + 1)) (pc := 31) hx hb hnL (zd_X12_orderPartAt (31, .iinc 2 1, 3, 0, []) (List.mem_of_getElem? (i := 20) rfl)) (j := 1) rfl (by omega) (zp_r0 (by omega) (by omega)) rfl rfl ?_
          refine zp_goto (tgt := 4) (pc := 34) hx hb (zd_X12_orderPartAt (34, .goto (-30), 3, 0, []) (List.mem_of_getElem? (i := 21) rfl)) rfl ?_
          refine ih (k + 1) its (by omega) (by omega) ?_
          omega
        · refine zp_load (pc := 23) hx hb (zd_X12_orderPartAt (23, .iload_n 2, 1, 0, []) (List.mem_of_getElem? (i := 14) rfl)) rfl (j := 0) rfl ?_
          refine zp_const (pc := 24) hx hb (zd_X12_orderPartAt (24, .iconst 1, 1, 0, []) (List.mem_of_getElem? (i := 15) rfl)) rfl rfl ?_
          refine zp_add (n := ((k : Int) + 1)) (pc := 25) hx hb (zd_X12_orderPartAt (25, .iadd, 1, 0, []) (List.mem_of_getElem? (i := 16) rfl)) (by omega) (zp_r0 (by omega) (by omega)) ?_
          refine zp_goto (tgt := 30) (pc := 26) hx hb (zd_X12_orderPartAt (26, .goto 4, 3, 0, []) (List.mem_of_getElem? (i := 17) rfl)) rfl ?_
          refine zp_store (L' := [(1, 0, ((k : Int) + 1)), (2, 0, (k : Int)), (0, 2, (a : Int))]) (pc := 30) hx hb hnL (zd_X12_orderPartAt (30, .istore_n 1, 1, 0, []) (List.mem_of_getElem? (i := 19) rfl)) rfl rfl rfl ?_
          refine zp_iinc (L' := [(2, 0, ((k : Int) + 1)), (1, 0, ((k : Int) + 1)), (0, 2, (a : Int))]) (n := ((k : Int) + 1)) (pc := 31) hx hb hnL (zd_X12_orderPartAt (31, .iinc 2 1, 3, 0, []) (List.mem_of_getElem? (i := 20) rfl)) (j := 1) rfl (by omega) (zp_r0 (by omega) (by omega)) rfl rfl ?_
          refine zp_goto (tgt := 4) (pc := 34) hx hb (zd_X12_orderPartAt (34, .goto (-30), 3, 0, []) (List.mem_of_getElem? (i := 21) rfl)) rfl ?_
          refine ih (k + 1) ((k : Int) + 1) (by omega) (by omega) ?_
          omega
  refine zp_const (pc := 0) hx hb (zd_X12_orderPartAt (0, .iconst (-1), 1, 0, []) (List.mem_of_getElem? (i := 0) rfl)) rfl rfl ?_
  refine zp_store (L' := [(1, 0, (-1)), (0, 2, (a : Int))]) (pc := 1) hx hb hnL (zd_X12_orderPartAt (1, .istore_n 1, 1, 0, []) (List.mem_of_getElem? (i := 1) rfl)) rfl rfl rfl ?_
  refine zp_const (pc := 2) hx hb (zd_X12_orderPartAt (2, .iconst 0, 1, 0, []) (List.mem_of_getElem? (i := 2) rfl)) rfl rfl ?_
  refine zp_store (L' := [(2, 0, 0), (1, 0, (-1)), (0, 2, (a : Int))]) (pc := 3) hx hb hnL (zd_X12_orderPartAt (3, .istore_n 2, 1, 0, []) (List.mem_of_getElem? (i := 3) rfl)) rfl rfl rfl ?_
  exact loop 8 0 (-1) (by omega) (by omega) (Or.inl rfl)
def zK_rp : zk_K := (zt_mn 223, prog_14_method_54_code, 4, (Option.some Jvm.ClassFile.FieldType.int), 1, 12, [(2, 92, 0, 0)], [(some (0, 0, 1, 3), [])], [(92, 14, 0), (92, 15, 0), (92, 16, 0), (92, 17, 0), (92, 18, 0), (92, 19, 0), (92, 30, 0), (92, 29, 0), (70, 1001, 0), (71, 1001, 0), (92, 26, 0), (92, 23, 0), (68, 1001, 0), (69, 1001, 0)], (4, 190, 0, 0))
def zφ_rp : (Nat → Option Nat) → (Nat → Nat → Int) → List Int → Prop := fun _ G ps => ∃ first sq : Nat, zs first 0 sq (zp_0 ps) G
def zψ_rp : (Nat → Option Nat) → (Nat → Nat → Int) → List Int → (Nat → Option Nat) → (Nat → Nat → Int) → Int → Prop := fun P G ps P' G' rn => P' = P ∧ (rn = 1 ∨ rn = 3) ∧ ∀ first sq : Nat, zs first 0 sq (zp_0 ps) G → (rn = 1 → zs_go (zp_0 ps) first 0 1 G G') ∧ (rn = 3 → zs_go (zp_0 ps) first 1 1 G G')
theorem zX_rp {l : Launch} {w : zk_W} (hW : zh_W w) : zk_metX l w zt_dv zt_TB zK_rp (zp_A zφ_rp) (zp_B zψ_rp) ∧ zk_cok w zt_TB zK_rp := by
  refine zp_meth hW (pl := 1733) rfl (by decide +kernel) (fun p e R s m args below meth c Q u hx hb hE hQ hU5 heff hnL hok hφ => ?_)
  have hw := hW.1
  obtain ⟨p0, hps, k0⟩ := zp_ps1 hok
  obtain ⟨a, rfl, hp⟩ := zp_this k0
  have hrm : zk_Kr (zk_ev (zp_E zK_rp)) = zk_Kr zK_rp := rfl
  rw [hps] at hφ ⊢
  have hφ : ∃ first sq : Nat, zs first 0 sq a (zp_n u.2.1) := hφ
  obtain ⟨f0, s0, hzs⟩ := hφ
  have hzs2 := hzs
  obtain ⟨htk, nc, pd, hnc, hpd, hwk, -⟩ := hzs2
  have hw2 := hwk.2.1
  have hw3 := hwk.2.2.1
  have htk2 := htk
  obtain ⟨t1, t2, t3, t4, t5, t6⟩ := htk2
  show zp_J p l e R s m args below meth c Q w u [] 0 [(0, 2, (a : Int))] [] u.1 (zp_n u.2.1)
  refine zp_kn (k := 24) (a := a) hw (show zp_fd 92 24 = some (12, 2, 68, 0, 0) from rfl) rfl hp (fun hk24 => ?_)
  obtain ⟨b24, hb24, hq24⟩ := zp_this hk24
  refine zp_kn (k := 25) (a := a) hw (show zp_fd 92 25 = some (12, 2, 69, 0, 0) from rfl) rfl hp (fun hk25 => ?_)
  obtain ⟨b25, hb25, hq25⟩ := zp_this hk25
  refine zp_kn (k := 27) (a := a) hw (show zp_fd 92 27 = some (12, 2, 70, 0, 0) from rfl) rfl hp (fun hk27 => ?_)
  obtain ⟨b27, hb27, hq27⟩ := zp_this hk27
  refine zp_kn (k := 28) (a := a) hw (show zp_fd 92 28 = some (12, 2, 71, 0, 0) from rfl) rfl hp (fun hk28 => ?_)
  obtain ⟨b28, hb28, hq28⟩ := zp_this hk28
  refine zp_kn (k := 13) (a := a) hw (show zp_fd 92 13 = some (12, 0, 0, 0, 400) from rfl) rfl hp (fun hk13 => ?_)
  have hxb := zp_int hk13
  refine zp_kn (k := 20) (a := a) hw (show zp_fd 92 20 = some (12, 0, 0, 0, 1) from rfl) rfl hp (fun hk20 => ?_)
  have hxb := zp_int hk20
  refine zp_kn (k := 17) (a := a) hw (show zp_fd 92 17 = some (12, 1, 0, (-9223372036854775808), 9223372036854775807) from rfl) rfl hp (fun hk17 => ?_)
  have h102 : ∀ (its dg : Int) (G : Nat → Nat → Int), its ≤ 9 → (∀ k, G a k = G a k) → (∀ first sq : Nat, zs first 0 sq a (zp_n u.2.1) → zs_go a first 1 1 (zp_n u.2.1) G) → G a 20 = zp_n u.2.1 a 20 → (G a 19 = 0 → G a 23 = (nc : Int) + 1 ∧ zv G a 24 nc ≤ 12) → G a 24 = (b24 : Int) → G a 25 = (b25 : Int) → G a 27 = (b27 : Int) → G a 28 = (b28 : Int) → zp_J p l e R s m args below meth c Q w u [] 102 [(2, 0, dg), (1, 0, its), (0, 2, (a : Int))] [] u.1 G := by
    intro its dg G hits _ hgo g20 hbd g24 g25 g27 g28
    have hgo0 := hgo f0 s0 hzs
    have hgt := hgo0.1.1
    have hgt2 := hgt
    obtain ⟨y1, y2, y3, -⟩ := hgt2
    obtain ⟨⟨-, nc9, pd9, z1, z2, ⟨z3, -⟩⟩, -, -, -⟩ := hgo0
    have z4 := z3.2.1
    refine zp_kn (k := 13) (a := a) (G := G) hw (show zp_fd 92 13 = some (12, 0, 0, 0, 400) from rfl) rfl hp (fun hk13 => ?_)
    have hx13 := zp_int hk13
    refine zp_kn (k := 19) (a := a) (G := G) hw (show zp_fd 92 19 = some (12, 0, 0, 0, 1) from rfl) rfl hp (fun hk19 => ?_)
    have hx19 := zp_int hk19
    refine zp_load (pc := 102) hx hb (zd_X12_readPart (102, .aload_n 0, 1, 0, []) (List.mem_of_getElem? (i := 54) rfl)) rfl (j := 2) rfl ?_
    refine zp_getf (n := (zp_n u.2.1 a 20)) (pc := 103) hx hb hE hw (zd_X12_readPart (103, .getfield 319, 3, 0, []) (List.mem_of_getElem? (i := 55) rfl)) (j := 38) rfl rfl rfl hp g20 ?_
    refine zp_if (pc := 106) (tgt := 155) hx hb (zd_X12_readPart (106, .ifCond .eq 49, 3, 0, []) (List.mem_of_getElem? (i := 56) rfl)) rfl (fun (hc50 : (zp_n u.2.1 a 20) = 0) => ?_) (fun (hc50 : ¬ ((zp_n u.2.1 a 20) = 0)) => ?_)
    · refine zp_const (pc := 155) hx hb (zd_X12_readPart (155, .iconst 3, 1, 0, []) (List.mem_of_getElem? (i := 81) rfl)) rfl rfl ?_
      refine zp_iret (pc := 156) (n := 3) hx hb hE hQ hU5 rfl (by decide) (zd_X12_readPart (156, .ireturn, 1, 0, []) (List.mem_of_getElem? (i := 82) rfl)) (j := 0) rfl (zp_o0 (by omega) (by omega) (by omega) (by omega)) ?_
      rw [hps]
      exact ⟨rfl, Or.inr rfl, fun first sq hz => ⟨fun z => absurd z (by decide), fun _ => hgo first sq hz⟩⟩
    · refine zp_load (pc := 109) hx hb (zd_X12_readPart (109, .iload_n 1, 1, 0, []) (List.mem_of_getElem? (i := 57) rfl)) rfl (j := 1) rfl ?_
      refine zp_const (pc := 110) hx hb (zd_X12_readPart (110, .bipush 6, 2, 0, []) (List.mem_of_getElem? (i := 58) rfl)) rfl rfl ?_
      refine zp_icmp (pc := 112) (tgt := 155) hx hb (zd_X12_readPart (112, .if_icmp .lt 43, 3, 0, []) (List.mem_of_getElem? (i := 59) rfl)) rfl (fun (hc51 : its < 6) => ?_) (fun (hc51 : ¬ (its < 6)) => ?_)
      · refine zp_const (pc := 155) hx hb (zd_X12_readPart (155, .iconst 3, 1, 0, []) (List.mem_of_getElem? (i := 81) rfl)) rfl rfl ?_
        refine zp_iret (pc := 156) (n := 3) hx hb hE hQ hU5 rfl (by decide) (zd_X12_readPart (156, .ireturn, 1, 0, []) (List.mem_of_getElem? (i := 82) rfl)) (j := 0) rfl (zp_o0 (by omega) (by omega) (by omega) (by omega)) ?_
        rw [hps]
        exact ⟨rfl, Or.inr rfl, fun first sq hz => ⟨fun z => absurd z (by decide), fun _ => hgo first sq hz⟩⟩
      · refine zp_load (pc := 115) hx hb (zd_X12_readPart (115, .aload_n 0, 1, 0, []) (List.mem_of_getElem? (i := 60) rfl)) rfl (j := 2) rfl ?_
        refine zp_getf (n := (G a 19)) (pc := 116) hx hb hE hw (zd_X12_readPart (116, .getfield 240, 3, 0, []) (List.mem_of_getElem? (i := 61) rfl)) (j := 37) rfl rfl rfl hp rfl ?_
        refine zp_if (pc := 119) (tgt := 155) hx hb (zd_X12_readPart (119, .ifCond .ne 36, 3, 0, []) (List.mem_of_getElem? (i := 62) rfl)) rfl (fun (hc52 : ¬ (G a 19) = 0) => ?_) (fun (hc52 : ¬ (¬ (G a 19) = 0)) => ?_)
        · refine zp_const (pc := 155) hx hb (zd_X12_readPart (155, .iconst 3, 1, 0, []) (List.mem_of_getElem? (i := 81) rfl)) rfl rfl ?_
          refine zp_iret (pc := 156) (n := 3) hx hb hE hQ hU5 rfl (by decide) (zd_X12_readPart (156, .ireturn, 1, 0, []) (List.mem_of_getElem? (i := 82) rfl)) (j := 0) rfl (zp_o0 (by omega) (by omega) (by omega) (by omega)) ?_
          rw [hps]
          exact ⟨rfl, Or.inr rfl, fun first sq hz => ⟨fun z => absurd z (by decide), fun _ => hgo first sq hz⟩⟩
        · obtain ⟨hbd1, hbd2⟩ := hbd (by omega)
          refine zp_load (pc := 122) hx hb (zd_X12_readPart (122, .aload_n 0, 1, 0, []) (List.mem_of_getElem? (i := 63) rfl)) rfl (j := 2) rfl ?_
          refine zp_getf (n := ((nc : Int) + 1)) (pc := 123) hx hb hE hw (zd_X12_readPart (123, .getfield 279, 3, 0, []) (List.mem_of_getElem? (i := 64) rfl)) (j := 41) rfl rfl rfl hp hbd1 ?_
          refine zp_const (pc := 126) hx hb (zd_X12_readPart (126, .iconst 1, 1, 0, []) (List.mem_of_getElem? (i := 65) rfl)) rfl rfl ?_
          refine zp_sub (n := (nc : Int)) (pc := 127) hx hb (zd_X12_readPart (127, .isub, 1, 0, []) (List.mem_of_getElem? (i := 66) rfl)) (by omega) (zp_r0 (by omega) (by omega)) ?_
          refine zp_store (L' := [(3, 0, (nc : Int)), (2, 0, dg), (1, 0, its), (0, 2, (a : Int))]) (pc := 128) hx hb hnL (zd_X12_readPart (128, .istore_n 3, 1, 0, []) (List.mem_of_getElem? (i := 67) rfl)) rfl rfl rfl ?_
          refine zp_load (pc := 129) hx hb (zd_X12_readPart (129, .aload_n 0, 1, 0, []) (List.mem_of_getElem? (i := 68) rfl)) rfl (j := 3) rfl ?_
          refine zp_getf (n := (b25 : Int)) (pc := 130) hx hb hE hw (zd_X12_readPart (130, .getfield 48, 3, 0, []) (List.mem_of_getElem? (i := 69) rfl)) (j := 43) rfl rfl rfl hp g25 ?_
          refine zp_load (pc := 133) hx hb (zd_X12_readPart (133, .iload_n 3, 1, 0, []) (List.mem_of_getElem? (i := 70) rfl)) rfl (j := 0) rfl ?_
          refine zp_load (pc := 134) hx hb (zd_X12_readPart (134, .aload_n 0, 1, 0, []) (List.mem_of_getElem? (i := 71) rfl)) rfl (j := 3) rfl ?_
          refine zp_const (pc := 135) hx hb (zd_X12_readPart (135, .lconst 0, 1, 0, []) (List.mem_of_getElem? (i := 72) rfl)) rfl rfl ?_
          refine zp_load (pc := 136) hx hb (zd_X12_readPart (136, .iload_n 1, 1, 0, []) (List.mem_of_getElem? (i := 73) rfl)) rfl (j := 2) rfl ?_
          refine zp_const (pc := 137) hx hb (zd_X12_readPart (137, .bipush 6, 2, 0, []) (List.mem_of_getElem? (i := 74) rfl)) rfl rfl ?_
          refine zp_icmp (pc := 139) (tgt := 148) hx hb (zd_X12_readPart (139, .if_icmp .ne 9, 3, 0, []) (List.mem_of_getElem? (i := 75) rfl)) rfl (fun (hc53 : ¬ its = 6) => ?_) (fun (hc53 : ¬ (¬ its = 6)) => ?_)
          · refine zp_ldc2 (pc := 148) hx hb hE (zd_X12_readPart (148, .ldc2_w 199, 3, 0, []) (List.mem_of_getElem? (i := 78) rfl)) (j := 84) rfl ?_
            refine zp_call (pc := 151) (how := 0) (idx := 335) (mi := 228) (S := [(0, (nc : Int)), (2, (b25 : Int))]) hx hb hE hw heff hrm (zX_nu hW) rfl (j := 30) rfl rfl (by decide +kernel) (zd_X12_readPart (151, .invokevirtual 335, 3, 0, []) (List.mem_of_getElem? (i := 79) rfl)) [(a : Int), 0, 9] rfl ⟨zp_o2 hp, zp_o1 ⟨by decide, by decide⟩, zp_o1 ⟨by decide, by decide⟩, trivial⟩ (Nat.le_of_ble_eq_true rfl) hgt (fun al hal rnn Pn Gn hextn hfrn hokn hcsn hpsin => ?_)
            obtain rfl := List.mem_singleton.mp hal
            have hrn := zp_int (hokn _ rfl).1
            obtain ⟨rfl, htn, is, his, hmn⟩ := hpsin
            have hmn : zs_mu a is G Gn := hmn
            have hrn := zp_int (hokn _ rfl).1
            have n24 : Gn a 24 = (b24 : Int) := (zp_nf hfrn hp rfl).trans g24
            have n25 : Gn a 25 = (b25 : Int) := (zp_nf hfrn hp rfl).trans g25
            have n27 : Gn a 27 = (b27 : Int) := (zp_nf hfrn hp rfl).trans g27
            have n28 : Gn a 28 = (b28 : Int) := (zp_nf hfrn hp rfl).trans g28
            have hgn : ∀ first sq : Nat, zs first 0 sq a (zp_n u.2.1) → zs_go a first 1 1 (zp_n u.2.1) Gn := fun first sq hz => zs_mu_go (hgo first sq hz) htn hmn (zp_nf hfrn hp rfl) (zp_nf hfrn hp rfl) (fun j => by rw [zv_eq n24, zv_eq g24, zp_nc hfrn hq24 rfl]) (fun j => by rw [zv_eq n25, zv_eq g25, zp_nc hfrn hq25 rfl]) (fun j => by rw [zv_eq n27, zv_eq g27, zp_nc hfrn hq27 rfl]) (fun j => by rw [zv_eq n28, zv_eq g28, zp_nc hfrn hq28 rfl])
            refine zp_iast (j := nc) (pc := 154) hx hb hw heff (zd_X12_readPart (154, .iastore, 1, 0, []) (List.mem_of_getElem? (i := 80) rfl)) (show zp_ia 1 69 = some (400, 0, 0, (-2147483648), 2147483647) from rfl) hq25 (by omega) (by omega) (zp_o0 (by omega) (by omega) (by omega) (by omega)) rfl ?_
            have hga : ∀ first sq : Nat, zs first 0 sq a (zp_n u.2.1) → zs_go a first 1 1 (zp_n u.2.1) (zp_set Gn b25 (2000 + nc) rnn) := by
              intro first sq hz
              have hf : first ≤ nc := by
                obtain ⟨-, nc2, pd2, e1, -, e2, -⟩ := hz
                have := e2.1
                omega
              refine zs_arg_go (q0 := nc) (hgn first sq hz) hf ?_ (fun k hk => zp_set_ne (Or.inl (zp_pne hp hq25 (by decide)))) (fun j => ?_) (fun j hj => ?_) (fun j => ?_) (fun j => ?_)
              · rw [zv_eq n24, zp_nc hfrn hq24 rfl, ← zv_eq g24]
                omega
              · rw [zv_eq ((zp_set_ne (Or.inl (zp_pne hp hq25 (by decide)))).trans n24), zv_eq n24, zp_set_ne (Or.inl (zp_pne hq24 hq25 (by decide)))]
              · rw [zv_eq ((zp_set_ne (Or.inl (zp_pne hp hq25 (by decide)))).trans n25), zv_eq n25, zp_set_el, if_neg hj]
              · rw [zv_eq ((zp_set_ne (Or.inl (zp_pne hp hq25 (by decide)))).trans n27), zv_eq n27, zp_set_ne (Or.inl (zp_pne hq27 hq25 (by decide)))]
              · rw [zv_eq ((zp_set_ne (Or.inl (zp_pne hp hq25 (by decide)))).trans n28), zv_eq n28, zp_set_ne (Or.inl (zp_pne hq28 hq25 (by decide)))]
            refine zp_const (pc := 155) hx hb (zd_X12_readPart (155, .iconst 3, 1, 0, []) (List.mem_of_getElem? (i := 81) rfl)) rfl rfl ?_
            refine zp_iret (pc := 156) (n := 3) hx hb hE hQ hU5 rfl (by decide) (zd_X12_readPart (156, .ireturn, 1, 0, []) (List.mem_of_getElem? (i := 82) rfl)) (j := 0) rfl (zp_o0 (by omega) (by omega) (by omega) (by omega)) ?_
            rw [hps]
            exact ⟨rfl, Or.inr rfl, fun first sq hz => ⟨fun z => absurd z (by decide), fun _ => hga first sq hz⟩⟩
          · refine zp_ldc2 (pc := 142) hx hb hE (zd_X12_readPart (142, .ldc2_w 224, 3, 0, []) (List.mem_of_getElem? (i := 76) rfl)) (j := 88) rfl ?_
            refine zp_goto (tgt := 151) (pc := 145) hx hb (zd_X12_readPart (145, .goto 6, 3, 0, []) (List.mem_of_getElem? (i := 77) rfl)) rfl ?_
            refine zp_call (pc := 151) (how := 0) (idx := 335) (mi := 228) (S := [(0, (nc : Int)), (2, (b25 : Int))]) hx hb hE hw heff hrm (zX_nu hW) rfl (j := 30) rfl rfl (by decide +kernel) (zd_X12_readPart (151, .invokevirtual 335, 3, 0, []) (List.mem_of_getElem? (i := 79) rfl)) [(a : Int), 0, 5] rfl ⟨zp_o2 hp, zp_o1 ⟨by decide, by decide⟩, zp_o1 ⟨by decide, by decide⟩, trivial⟩ (Nat.le_of_ble_eq_true rfl) hgt (fun al hal rnn Pn Gn hextn hfrn hokn hcsn hpsin => ?_)
            obtain rfl := List.mem_singleton.mp hal
            have hrn := zp_int (hokn _ rfl).1
            obtain ⟨rfl, htn, is, his, hmn⟩ := hpsin
            have hmn : zs_mu a is G Gn := hmn
            have hrn := zp_int (hokn _ rfl).1
            have n24 : Gn a 24 = (b24 : Int) := (zp_nf hfrn hp rfl).trans g24
            have n25 : Gn a 25 = (b25 : Int) := (zp_nf hfrn hp rfl).trans g25
            have n27 : Gn a 27 = (b27 : Int) := (zp_nf hfrn hp rfl).trans g27
            have n28 : Gn a 28 = (b28 : Int) := (zp_nf hfrn hp rfl).trans g28
            have hgn : ∀ first sq : Nat, zs first 0 sq a (zp_n u.2.1) → zs_go a first 1 1 (zp_n u.2.1) Gn := fun first sq hz => zs_mu_go (hgo first sq hz) htn hmn (zp_nf hfrn hp rfl) (zp_nf hfrn hp rfl) (fun j => by rw [zv_eq n24, zv_eq g24, zp_nc hfrn hq24 rfl]) (fun j => by rw [zv_eq n25, zv_eq g25, zp_nc hfrn hq25 rfl]) (fun j => by rw [zv_eq n27, zv_eq g27, zp_nc hfrn hq27 rfl]) (fun j => by rw [zv_eq n28, zv_eq g28, zp_nc hfrn hq28 rfl])
            refine zp_iast (j := nc) (pc := 154) hx hb hw heff (zd_X12_readPart (154, .iastore, 1, 0, []) (List.mem_of_getElem? (i := 80) rfl)) (show zp_ia 1 69 = some (400, 0, 0, (-2147483648), 2147483647) from rfl) hq25 (by omega) (by omega) (zp_o0 (by omega) (by omega) (by omega) (by omega)) rfl ?_
            have hga : ∀ first sq : Nat, zs first 0 sq a (zp_n u.2.1) → zs_go a first 1 1 (zp_n u.2.1) (zp_set Gn b25 (2000 + nc) rnn) := by
              intro first sq hz
              have hf : first ≤ nc := by
                obtain ⟨-, nc2, pd2, e1, -, e2, -⟩ := hz
                have := e2.1
                omega
              refine zs_arg_go (q0 := nc) (hgn first sq hz) hf ?_ (fun k hk => zp_set_ne (Or.inl (zp_pne hp hq25 (by decide)))) (fun j => ?_) (fun j hj => ?_) (fun j => ?_) (fun j => ?_)
              · rw [zv_eq n24, zp_nc hfrn hq24 rfl, ← zv_eq g24]
                omega
              · rw [zv_eq ((zp_set_ne (Or.inl (zp_pne hp hq25 (by decide)))).trans n24), zv_eq n24, zp_set_ne (Or.inl (zp_pne hq24 hq25 (by decide)))]
              · rw [zv_eq ((zp_set_ne (Or.inl (zp_pne hp hq25 (by decide)))).trans n25), zv_eq n25, zp_set_el, if_neg hj]
              · rw [zv_eq ((zp_set_ne (Or.inl (zp_pne hp hq25 (by decide)))).trans n27), zv_eq n27, zp_set_ne (Or.inl (zp_pne hq27 hq25 (by decide)))]
              · rw [zv_eq ((zp_set_ne (Or.inl (zp_pne hp hq25 (by decide)))).trans n28), zv_eq n28, zp_set_ne (Or.inl (zp_pne hq28 hq25 (by decide)))]
            refine zp_const (pc := 155) hx hb (zd_X12_readPart (155, .iconst 3, 1, 0, []) (List.mem_of_getElem? (i := 81) rfl)) rfl rfl ?_
            refine zp_iret (pc := 156) (n := 3) hx hb hE hQ hU5 rfl (by decide) (zd_X12_readPart (156, .ireturn, 1, 0, []) (List.mem_of_getElem? (i := 82) rfl)) (j := 0) rfl (zp_o0 (by omega) (by omega) (by omega) (by omega)) ?_
            rw [hps]
            exact ⟨rfl, Or.inr rfl, fun first sq hz => ⟨fun z => absurd z (by decide), fun _ => hga first sq hz⟩⟩
  have h61 : ∀ (its dg : Int), (its = -1 ∨ (1 ≤ its ∧ its ≤ 9 ∧ zp_n u.2.1 a 16 = 1)) → (dg = 0 ∨ (dg = 1 ∧ zp_n u.2.1 a 16 = 2)) → zp_J p l e R s m args below meth c Q w u [] 61 [(2, 0, dg), (1, 0, its), (0, 2, (a : Int))] [] u.1 (zp_n u.2.1) := by
    intro its dg hits hdg
    refine zp_load (pc := 61) hx hb (zd_X12_readPart (61, .aload_n 0, 1, 0, []) (List.mem_of_getElem? (i := 31) rfl)) rfl (j := 2) rfl ?_
    refine zp_load (pc := 62) hx hb (zd_X12_readPart (62, .iload_n 1, 1, 0, []) (List.mem_of_getElem? (i := 32) rfl)) rfl (j := 1) rfl ?_
    refine zp_const (pc := 63) hx hb (zd_X12_readPart (63, .iconst (-1), 1, 0, []) (List.mem_of_getElem? (i := 33) rfl)) rfl rfl ?_
    refine zp_icmp (pc := 64) (tgt := 71) hx hb (zd_X12_readPart (64, .if_icmp .ne 7, 3, 0, []) (List.mem_of_getElem? (i := 34) rfl)) rfl (fun (hc54 : ¬ its = (-1)) => ?_) (fun (hc54 : ¬ (¬ its = (-1))) => ?_)
    · refine zp_const (pc := 71) hx hb (zd_X12_readPart (71, .iconst 1, 1, 0, []) (List.mem_of_getElem? (i := 37) rfl)) rfl rfl ?_
      refine zp_goto (tgt := 76) (pc := 72) hx hb (zd_X12_readPart (72, .goto 4, 3, 0, []) (List.mem_of_getElem? (i := 38) rfl)) rfl ?_
      refine zp_load (pc := 76) hx hb (zd_X12_readPart (76, .iload_n 1, 1, 0, []) (List.mem_of_getElem? (i := 40) rfl)) rfl (j := 1) rfl ?_
      refine zp_const (pc := 77) hx hb (zd_X12_readPart (77, .iconst (-1), 1, 0, []) (List.mem_of_getElem? (i := 41) rfl)) rfl rfl ?_
      refine zp_icmp (pc := 78) (tgt := 85) hx hb (zd_X12_readPart (78, .if_icmp .ne 7, 3, 0, []) (List.mem_of_getElem? (i := 42) rfl)) rfl (fun (hc55 : ¬ its = (-1)) => ?_) (fun (hc55 : ¬ (¬ its = (-1))) => ?_)
      · refine zp_load (pc := 85) hx hb (zd_X12_readPart (85, .iload_n 1, 1, 0, []) (List.mem_of_getElem? (i := 45) rfl)) rfl (j := 1) rfl ?_
        refine zp_load (pc := 86) hx hb (zd_X12_readPart (86, .iload_n 2, 1, 0, []) (List.mem_of_getElem? (i := 46) rfl)) rfl (j := 0) rfl ?_
        refine zp_if (pc := 87) (tgt := 98) hx hb (zd_X12_readPart (87, .ifCond .eq 11, 3, 0, []) (List.mem_of_getElem? (i := 47) rfl)) rfl (fun (hc56 : dg = 0) => ?_) (fun (hc56 : ¬ (dg = 0)) => ?_)
        · refine zp_const (pc := 98) hx hb (zd_X12_readPart (98, .iconst 0, 1, 0, []) (List.mem_of_getElem? (i := 52) rfl)) rfl rfl ?_
          refine zp_call (pc := 99) (how := 0) (idx := 331) (mi := 226) (S := []) hx hb hE hw heff hrm (zX_lf hW) rfl (j := 28) rfl rfl (by decide +kernel) (zd_X12_readPart (99, .invokevirtual 331, 3, 0, []) (List.mem_of_getElem? (i := 53) rfl)) [(a : Int), 1, its, 0] rfl ⟨zp_o2 hp, zp_o0 (by omega) (by omega) (by omega) (by omega), zp_o0 (by omega) (by omega) (by omega) (by omega), zp_o0 (by omega) (by omega) (by omega) (by omega), trivial⟩ (Nat.le_of_ble_eq_true rfl) (show zs_tk a (zp_n u.2.1) ∧ (1 = 1 → zp_n u.2.1 a 16 ≠ 0) ∧ zp_n u.2.1 a 23 ≤ zp_n u.2.1 a 14 from ⟨htk, fun _ => by omega, by omega⟩) (fun al hal rnl Pl Gl hextl hfrl hokl hcsl hpsil => ?_)
          obtain rfl := List.mem_singleton.mp hal
          obtain ⟨rfl, htl, hlr⟩ := hpsil
          have hlr : zs_lfr a 1 its 0 (zp_n u.2.1) Gl := hlr
          have l27 : Gl a 27 = (b27 : Int) := (zp_nf hfrl hp rfl).trans hb27
          have l28 : Gl a 28 = (b28 : Int) := (zp_nf hfrl hp rfl).trans hb28
          have l24 : Gl a 24 = (b24 : Int) := (zp_nf hfrl hp rfl).trans hb24
          have l25 : Gl a 25 = (b25 : Int) := (zp_nf hfrl hp rfl).trans hb25
          refine h102 its dg Gl (by omega) (fun _ => rfl) (fun first sq hz => zs_lf hz (op := its) (by omega) (by omega) (is := 1) (fun _ => by omega) (zp_nf hfrl hp rfl) (fun j => by rw [zv_eq l27, zv_eq hb27, zp_nc hfrl hq27 rfl]) (fun j => by rw [zv_eq l28, zv_eq hb28, zp_nc hfrl hq28 rfl]) htl hlr) (zp_nf hfrl hp rfl) (fun z => ?_) l24 l25 l27 l28
          rcases hlr with hlr | ⟨-, -, -, -, y1, y2, -⟩
          · omega
          · refine ⟨by omega, ?_⟩
            rw [y2, hnc, Int.toNat_natCast, if_pos rfl]
            omega
        · refine zp_load (pc := 90) hx hb (zd_X12_readPart (90, .aload_n 0, 1, 0, []) (List.mem_of_getElem? (i := 48) rfl)) rfl (j := 2) rfl ?_
          refine zp_getf (n := ((zp_n u.2.1) a 17)) (pc := 91) hx hb hE hw (zd_X12_readPart (91, .getfield 250, 3, 0, []) (List.mem_of_getElem? (i := 49) rfl)) (j := 35) rfl rfl rfl hp rfl ?_
          refine zp_l2i (pc := 94) hx hb (zd_X12_readPart (94, .l2i, 1, 0, []) (List.mem_of_getElem? (i := 50) rfl)) (fun x57 r_x57 e_x57 => ?_)
          have i_x57 := zp_rg0 r_x57
          refine zp_goto (tgt := 99) (pc := 95) hx hb (zd_X12_readPart (95, .goto 4, 3, 0, []) (List.mem_of_getElem? (i := 51) rfl)) rfl ?_
          refine zp_call (pc := 99) (how := 0) (idx := 331) (mi := 226) (S := []) hx hb hE hw heff hrm (zX_lf hW) rfl (j := 28) rfl rfl (by decide +kernel) (zd_X12_readPart (99, .invokevirtual 331, 3, 0, []) (List.mem_of_getElem? (i := 53) rfl)) [(a : Int), 1, its, x57] rfl ⟨zp_o2 hp, zp_o0 (by omega) (by omega) (by omega) (by omega), zp_o0 (by omega) (by omega) (by omega) (by omega), zp_o0 (by omega) (by omega) (by omega) (by omega), trivial⟩ (Nat.le_of_ble_eq_true rfl) (show zs_tk a (zp_n u.2.1) ∧ (1 = 1 → zp_n u.2.1 a 16 ≠ 0) ∧ zp_n u.2.1 a 23 ≤ zp_n u.2.1 a 14 from ⟨htk, fun _ => by omega, by omega⟩) (fun al hal rnl Pl Gl hextl hfrl hokl hcsl hpsil => ?_)
          obtain rfl := List.mem_singleton.mp hal
          obtain ⟨rfl, htl, hlr⟩ := hpsil
          have hlr : zs_lfr a 1 its x57 (zp_n u.2.1) Gl := hlr
          have l27 : Gl a 27 = (b27 : Int) := (zp_nf hfrl hp rfl).trans hb27
          have l28 : Gl a 28 = (b28 : Int) := (zp_nf hfrl hp rfl).trans hb28
          have l24 : Gl a 24 = (b24 : Int) := (zp_nf hfrl hp rfl).trans hb24
          have l25 : Gl a 25 = (b25 : Int) := (zp_nf hfrl hp rfl).trans hb25
          refine h102 its dg Gl (by omega) (fun _ => rfl) (fun first sq hz => zs_lf hz (op := its) (by omega) (by omega) (is := 1) (fun _ => by omega) (zp_nf hfrl hp rfl) (fun j => by rw [zv_eq l27, zv_eq hb27, zp_nc hfrl hq27 rfl]) (fun j => by rw [zv_eq l28, zv_eq hb28, zp_nc hfrl hq28 rfl]) htl hlr) (zp_nf hfrl hp rfl) (fun z => ?_) l24 l25 l27 l28
          rcases hlr with hlr | ⟨-, -, -, -, y1, y2, -⟩
          · omega
          · refine ⟨by omega, ?_⟩
            rw [y2, hnc, Int.toNat_natCast, if_pos rfl]
            omega
      · refine zp_const (pc := 81) hx hb (zd_X12_readPart (81, .iconst 0, 1, 0, []) (List.mem_of_getElem? (i := 43) rfl)) rfl rfl ?_
        refine zp_goto (tgt := 86) (pc := 82) hx hb (zd_X12_readPart (82, .goto 4, 3, 0, []) (List.mem_of_getElem? (i := 44) rfl)) rfl ?_
        refine zp_load (pc := 86) hx hb (zd_X12_readPart (86, .iload_n 2, 1, 0, []) (List.mem_of_getElem? (i := 46) rfl)) rfl (j := 0) rfl ?_
        refine zp_if (pc := 87) (tgt := 98) hx hb (zd_X12_readPart (87, .ifCond .eq 11, 3, 0, []) (List.mem_of_getElem? (i := 47) rfl)) rfl (fun (hc58 : dg = 0) => ?_) (fun (hc58 : ¬ (dg = 0)) => ?_)
        · refine zp_const (pc := 98) hx hb (zd_X12_readPart (98, .iconst 0, 1, 0, []) (List.mem_of_getElem? (i := 52) rfl)) rfl rfl ?_
          refine zp_call (pc := 99) (how := 0) (idx := 331) (mi := 226) (S := []) hx hb hE hw heff hrm (zX_lf hW) rfl (j := 28) rfl rfl (by decide +kernel) (zd_X12_readPart (99, .invokevirtual 331, 3, 0, []) (List.mem_of_getElem? (i := 53) rfl)) [(a : Int), 1, 0, 0] rfl ⟨zp_o2 hp, zp_o0 (by omega) (by omega) (by omega) (by omega), zp_o0 (by omega) (by omega) (by omega) (by omega), zp_o0 (by omega) (by omega) (by omega) (by omega), trivial⟩ (Nat.le_of_ble_eq_true rfl) (show zs_tk a (zp_n u.2.1) ∧ (1 = 1 → zp_n u.2.1 a 16 ≠ 0) ∧ zp_n u.2.1 a 23 ≤ zp_n u.2.1 a 14 from ⟨htk, fun _ => by omega, by omega⟩) (fun al hal rnl Pl Gl hextl hfrl hokl hcsl hpsil => ?_)
          obtain rfl := List.mem_singleton.mp hal
          obtain ⟨rfl, htl, hlr⟩ := hpsil
          have hlr : zs_lfr a 1 0 0 (zp_n u.2.1) Gl := hlr
          have l27 : Gl a 27 = (b27 : Int) := (zp_nf hfrl hp rfl).trans hb27
          have l28 : Gl a 28 = (b28 : Int) := (zp_nf hfrl hp rfl).trans hb28
          have l24 : Gl a 24 = (b24 : Int) := (zp_nf hfrl hp rfl).trans hb24
          have l25 : Gl a 25 = (b25 : Int) := (zp_nf hfrl hp rfl).trans hb25
          refine h102 its dg Gl (by omega) (fun _ => rfl) (fun first sq hz => zs_lf hz (op := 0) (by omega) (by omega) (is := 1) (fun _ => by omega) (zp_nf hfrl hp rfl) (fun j => by rw [zv_eq l27, zv_eq hb27, zp_nc hfrl hq27 rfl]) (fun j => by rw [zv_eq l28, zv_eq hb28, zp_nc hfrl hq28 rfl]) htl hlr) (zp_nf hfrl hp rfl) (fun z => ?_) l24 l25 l27 l28
          rcases hlr with hlr | ⟨-, -, -, -, y1, y2, -⟩
          · omega
          · refine ⟨by omega, ?_⟩
            rw [y2, hnc, Int.toNat_natCast, if_pos rfl]
            omega
        · refine zp_load (pc := 90) hx hb (zd_X12_readPart (90, .aload_n 0, 1, 0, []) (List.mem_of_getElem? (i := 48) rfl)) rfl (j := 2) rfl ?_
          refine zp_getf (n := ((zp_n u.2.1) a 17)) (pc := 91) hx hb hE hw (zd_X12_readPart (91, .getfield 250, 3, 0, []) (List.mem_of_getElem? (i := 49) rfl)) (j := 35) rfl rfl rfl hp rfl ?_
          refine zp_l2i (pc := 94) hx hb (zd_X12_readPart (94, .l2i, 1, 0, []) (List.mem_of_getElem? (i := 50) rfl)) (fun x59 r_x59 e_x59 => ?_)
          have i_x59 := zp_rg0 r_x59
          refine zp_goto (tgt := 99) (pc := 95) hx hb (zd_X12_readPart (95, .goto 4, 3, 0, []) (List.mem_of_getElem? (i := 51) rfl)) rfl ?_
          refine zp_call (pc := 99) (how := 0) (idx := 331) (mi := 226) (S := []) hx hb hE hw heff hrm (zX_lf hW) rfl (j := 28) rfl rfl (by decide +kernel) (zd_X12_readPart (99, .invokevirtual 331, 3, 0, []) (List.mem_of_getElem? (i := 53) rfl)) [(a : Int), 1, 0, x59] rfl ⟨zp_o2 hp, zp_o0 (by omega) (by omega) (by omega) (by omega), zp_o0 (by omega) (by omega) (by omega) (by omega), zp_o0 (by omega) (by omega) (by omega) (by omega), trivial⟩ (Nat.le_of_ble_eq_true rfl) (show zs_tk a (zp_n u.2.1) ∧ (1 = 1 → zp_n u.2.1 a 16 ≠ 0) ∧ zp_n u.2.1 a 23 ≤ zp_n u.2.1 a 14 from ⟨htk, fun _ => by omega, by omega⟩) (fun al hal rnl Pl Gl hextl hfrl hokl hcsl hpsil => ?_)
          obtain rfl := List.mem_singleton.mp hal
          obtain ⟨rfl, htl, hlr⟩ := hpsil
          have hlr : zs_lfr a 1 0 x59 (zp_n u.2.1) Gl := hlr
          have l27 : Gl a 27 = (b27 : Int) := (zp_nf hfrl hp rfl).trans hb27
          have l28 : Gl a 28 = (b28 : Int) := (zp_nf hfrl hp rfl).trans hb28
          have l24 : Gl a 24 = (b24 : Int) := (zp_nf hfrl hp rfl).trans hb24
          have l25 : Gl a 25 = (b25 : Int) := (zp_nf hfrl hp rfl).trans hb25
          refine h102 its dg Gl (by omega) (fun _ => rfl) (fun first sq hz => zs_lf hz (op := 0) (by omega) (by omega) (is := 1) (fun _ => by omega) (zp_nf hfrl hp rfl) (fun j => by rw [zv_eq l27, zv_eq hb27, zp_nc hfrl hq27 rfl]) (fun j => by rw [zv_eq l28, zv_eq hb28, zp_nc hfrl hq28 rfl]) htl hlr) (zp_nf hfrl hp rfl) (fun z => ?_) l24 l25 l27 l28
          rcases hlr with hlr | ⟨-, -, -, -, y1, y2, -⟩
          · omega
          · refine ⟨by omega, ?_⟩
            rw [y2, hnc, Int.toNat_natCast, if_pos rfl]
            omega
    · refine zp_load (pc := 67) hx hb (zd_X12_readPart (67, .iload_n 2, 1, 0, []) (List.mem_of_getElem? (i := 35) rfl)) rfl (j := 0) rfl ?_
      refine zp_if (pc := 68) (tgt := 75) hx hb (zd_X12_readPart (68, .ifCond .eq 7, 3, 0, []) (List.mem_of_getElem? (i := 36) rfl)) rfl (fun (hc60 : dg = 0) => ?_) (fun (hc60 : ¬ (dg = 0)) => ?_)
      · refine zp_const (pc := 75) hx hb (zd_X12_readPart (75, .iconst 0, 1, 0, []) (List.mem_of_getElem? (i := 39) rfl)) rfl rfl ?_
        refine zp_load (pc := 76) hx hb (zd_X12_readPart (76, .iload_n 1, 1, 0, []) (List.mem_of_getElem? (i := 40) rfl)) rfl (j := 1) rfl ?_
        refine zp_const (pc := 77) hx hb (zd_X12_readPart (77, .iconst (-1), 1, 0, []) (List.mem_of_getElem? (i := 41) rfl)) rfl rfl ?_
        refine zp_icmp (pc := 78) (tgt := 85) hx hb (zd_X12_readPart (78, .if_icmp .ne 7, 3, 0, []) (List.mem_of_getElem? (i := 42) rfl)) rfl (fun (hc61 : ¬ its = (-1)) => ?_) (fun (hc61 : ¬ (¬ its = (-1))) => ?_)
        · refine zp_load (pc := 85) hx hb (zd_X12_readPart (85, .iload_n 1, 1, 0, []) (List.mem_of_getElem? (i := 45) rfl)) rfl (j := 1) rfl ?_
          refine zp_load (pc := 86) hx hb (zd_X12_readPart (86, .iload_n 2, 1, 0, []) (List.mem_of_getElem? (i := 46) rfl)) rfl (j := 0) rfl ?_
          refine zp_if (pc := 87) (tgt := 98) hx hb (zd_X12_readPart (87, .ifCond .eq 11, 3, 0, []) (List.mem_of_getElem? (i := 47) rfl)) rfl (fun (hc62 : dg = 0) => ?_) (fun (hc62 : ¬ (dg = 0)) => ?_)
          · refine zp_const (pc := 98) hx hb (zd_X12_readPart (98, .iconst 0, 1, 0, []) (List.mem_of_getElem? (i := 52) rfl)) rfl rfl ?_
            refine zp_call (pc := 99) (how := 0) (idx := 331) (mi := 226) (S := []) hx hb hE hw heff hrm (zX_lf hW) rfl (j := 28) rfl rfl (by decide +kernel) (zd_X12_readPart (99, .invokevirtual 331, 3, 0, []) (List.mem_of_getElem? (i := 53) rfl)) [(a : Int), 0, its, 0] rfl ⟨zp_o2 hp, zp_o0 (by omega) (by omega) (by omega) (by omega), zp_o0 (by omega) (by omega) (by omega) (by omega), zp_o0 (by omega) (by omega) (by omega) (by omega), trivial⟩ (Nat.le_of_ble_eq_true rfl) (show zs_tk a (zp_n u.2.1) ∧ (0 = 1 → zp_n u.2.1 a 16 ≠ 0) ∧ zp_n u.2.1 a 23 ≤ zp_n u.2.1 a 14 from ⟨htk, fun _ => by omega, by omega⟩) (fun al hal rnl Pl Gl hextl hfrl hokl hcsl hpsil => ?_)
            obtain rfl := List.mem_singleton.mp hal
            obtain ⟨rfl, htl, hlr⟩ := hpsil
            have hlr : zs_lfr a 0 its 0 (zp_n u.2.1) Gl := hlr
            have l27 : Gl a 27 = (b27 : Int) := (zp_nf hfrl hp rfl).trans hb27
            have l28 : Gl a 28 = (b28 : Int) := (zp_nf hfrl hp rfl).trans hb28
            have l24 : Gl a 24 = (b24 : Int) := (zp_nf hfrl hp rfl).trans hb24
            have l25 : Gl a 25 = (b25 : Int) := (zp_nf hfrl hp rfl).trans hb25
            refine h102 its dg Gl (by omega) (fun _ => rfl) (fun first sq hz => zs_lf hz (op := its) (by omega) (by omega) (is := 0) (fun _ => by omega) (zp_nf hfrl hp rfl) (fun j => by rw [zv_eq l27, zv_eq hb27, zp_nc hfrl hq27 rfl]) (fun j => by rw [zv_eq l28, zv_eq hb28, zp_nc hfrl hq28 rfl]) htl hlr) (zp_nf hfrl hp rfl) (fun z => ?_) l24 l25 l27 l28
            rcases hlr with hlr | ⟨-, -, -, -, y1, y2, -⟩
            · omega
            · refine ⟨by omega, ?_⟩
              rw [y2, hnc, Int.toNat_natCast, if_pos rfl]
              omega
          · refine zp_load (pc := 90) hx hb (zd_X12_readPart (90, .aload_n 0, 1, 0, []) (List.mem_of_getElem? (i := 48) rfl)) rfl (j := 2) rfl ?_
            refine zp_getf (n := ((zp_n u.2.1) a 17)) (pc := 91) hx hb hE hw (zd_X12_readPart (91, .getfield 250, 3, 0, []) (List.mem_of_getElem? (i := 49) rfl)) (j := 35) rfl rfl rfl hp rfl ?_
            refine zp_l2i (pc := 94) hx hb (zd_X12_readPart (94, .l2i, 1, 0, []) (List.mem_of_getElem? (i := 50) rfl)) (fun x63 r_x63 e_x63 => ?_)
            have i_x63 := zp_rg0 r_x63
            refine zp_goto (tgt := 99) (pc := 95) hx hb (zd_X12_readPart (95, .goto 4, 3, 0, []) (List.mem_of_getElem? (i := 51) rfl)) rfl ?_
            refine zp_call (pc := 99) (how := 0) (idx := 331) (mi := 226) (S := []) hx hb hE hw heff hrm (zX_lf hW) rfl (j := 28) rfl rfl (by decide +kernel) (zd_X12_readPart (99, .invokevirtual 331, 3, 0, []) (List.mem_of_getElem? (i := 53) rfl)) [(a : Int), 0, its, x63] rfl ⟨zp_o2 hp, zp_o0 (by omega) (by omega) (by omega) (by omega), zp_o0 (by omega) (by omega) (by omega) (by omega), zp_o0 (by omega) (by omega) (by omega) (by omega), trivial⟩ (Nat.le_of_ble_eq_true rfl) (show zs_tk a (zp_n u.2.1) ∧ (0 = 1 → zp_n u.2.1 a 16 ≠ 0) ∧ zp_n u.2.1 a 23 ≤ zp_n u.2.1 a 14 from ⟨htk, fun _ => by omega, by omega⟩) (fun al hal rnl Pl Gl hextl hfrl hokl hcsl hpsil => ?_)
            obtain rfl := List.mem_singleton.mp hal
            obtain ⟨rfl, htl, hlr⟩ := hpsil
            have hlr : zs_lfr a 0 its x63 (zp_n u.2.1) Gl := hlr
            have l27 : Gl a 27 = (b27 : Int) := (zp_nf hfrl hp rfl).trans hb27
            have l28 : Gl a 28 = (b28 : Int) := (zp_nf hfrl hp rfl).trans hb28
            have l24 : Gl a 24 = (b24 : Int) := (zp_nf hfrl hp rfl).trans hb24
            have l25 : Gl a 25 = (b25 : Int) := (zp_nf hfrl hp rfl).trans hb25
            refine h102 its dg Gl (by omega) (fun _ => rfl) (fun first sq hz => zs_lf hz (op := its) (by omega) (by omega) (is := 0) (fun _ => by omega) (zp_nf hfrl hp rfl) (fun j => by rw [zv_eq l27, zv_eq hb27, zp_nc hfrl hq27 rfl]) (fun j => by rw [zv_eq l28, zv_eq hb28, zp_nc hfrl hq28 rfl]) htl hlr) (zp_nf hfrl hp rfl) (fun z => ?_) l24 l25 l27 l28
            rcases hlr with hlr | ⟨-, -, -, -, y1, y2, -⟩
            · omega
            · refine ⟨by omega, ?_⟩
              rw [y2, hnc, Int.toNat_natCast, if_pos rfl]
              omega
        · refine zp_const (pc := 81) hx hb (zd_X12_readPart (81, .iconst 0, 1, 0, []) (List.mem_of_getElem? (i := 43) rfl)) rfl rfl ?_
          refine zp_goto (tgt := 86) (pc := 82) hx hb (zd_X12_readPart (82, .goto 4, 3, 0, []) (List.mem_of_getElem? (i := 44) rfl)) rfl ?_
          refine zp_load (pc := 86) hx hb (zd_X12_readPart (86, .iload_n 2, 1, 0, []) (List.mem_of_getElem? (i := 46) rfl)) rfl (j := 0) rfl ?_
          refine zp_if (pc := 87) (tgt := 98) hx hb (zd_X12_readPart (87, .ifCond .eq 11, 3, 0, []) (List.mem_of_getElem? (i := 47) rfl)) rfl (fun (hc64 : dg = 0) => ?_) (fun (hc64 : ¬ (dg = 0)) => ?_)
          · refine zp_const (pc := 98) hx hb (zd_X12_readPart (98, .iconst 0, 1, 0, []) (List.mem_of_getElem? (i := 52) rfl)) rfl rfl ?_
            refine zp_call (pc := 99) (how := 0) (idx := 331) (mi := 226) (S := []) hx hb hE hw heff hrm (zX_lf hW) rfl (j := 28) rfl rfl (by decide +kernel) (zd_X12_readPart (99, .invokevirtual 331, 3, 0, []) (List.mem_of_getElem? (i := 53) rfl)) [(a : Int), 0, 0, 0] rfl ⟨zp_o2 hp, zp_o0 (by omega) (by omega) (by omega) (by omega), zp_o0 (by omega) (by omega) (by omega) (by omega), zp_o0 (by omega) (by omega) (by omega) (by omega), trivial⟩ (Nat.le_of_ble_eq_true rfl) (show zs_tk a (zp_n u.2.1) ∧ (0 = 1 → zp_n u.2.1 a 16 ≠ 0) ∧ zp_n u.2.1 a 23 ≤ zp_n u.2.1 a 14 from ⟨htk, fun _ => by omega, by omega⟩) (fun al hal rnl Pl Gl hextl hfrl hokl hcsl hpsil => ?_)
            obtain rfl := List.mem_singleton.mp hal
            obtain ⟨rfl, htl, hlr⟩ := hpsil
            have hlr : zs_lfr a 0 0 0 (zp_n u.2.1) Gl := hlr
            have l27 : Gl a 27 = (b27 : Int) := (zp_nf hfrl hp rfl).trans hb27
            have l28 : Gl a 28 = (b28 : Int) := (zp_nf hfrl hp rfl).trans hb28
            have l24 : Gl a 24 = (b24 : Int) := (zp_nf hfrl hp rfl).trans hb24
            have l25 : Gl a 25 = (b25 : Int) := (zp_nf hfrl hp rfl).trans hb25
            refine h102 its dg Gl (by omega) (fun _ => rfl) (fun first sq hz => zs_lf hz (op := 0) (by omega) (by omega) (is := 0) (fun _ => by omega) (zp_nf hfrl hp rfl) (fun j => by rw [zv_eq l27, zv_eq hb27, zp_nc hfrl hq27 rfl]) (fun j => by rw [zv_eq l28, zv_eq hb28, zp_nc hfrl hq28 rfl]) htl hlr) (zp_nf hfrl hp rfl) (fun z => ?_) l24 l25 l27 l28
            rcases hlr with hlr | ⟨-, -, -, -, y1, y2, -⟩
            · omega
            · refine ⟨by omega, ?_⟩
              rw [y2, hnc, Int.toNat_natCast, if_pos rfl]
              omega
          · refine zp_load (pc := 90) hx hb (zd_X12_readPart (90, .aload_n 0, 1, 0, []) (List.mem_of_getElem? (i := 48) rfl)) rfl (j := 2) rfl ?_
            refine zp_getf (n := ((zp_n u.2.1) a 17)) (pc := 91) hx hb hE hw (zd_X12_readPart (91, .getfield 250, 3, 0, []) (List.mem_of_getElem? (i := 49) rfl)) (j := 35) rfl rfl rfl hp rfl ?_
            refine zp_l2i (pc := 94) hx hb (zd_X12_readPart (94, .l2i, 1, 0, []) (List.mem_of_getElem? (i := 50) rfl)) (fun x65 r_x65 e_x65 => ?_)
            have i_x65 := zp_rg0 r_x65
            refine zp_goto (tgt := 99) (pc := 95) hx hb (zd_X12_readPart (95, .goto 4, 3, 0, []) (List.mem_of_getElem? (i := 51) rfl)) rfl ?_
            refine zp_call (pc := 99) (how := 0) (idx := 331) (mi := 226) (S := []) hx hb hE hw heff hrm (zX_lf hW) rfl (j := 28) rfl rfl (by decide +kernel) (zd_X12_readPart (99, .invokevirtual 331, 3, 0, []) (List.mem_of_getElem? (i := 53) rfl)) [(a : Int), 0, 0, x65] rfl ⟨zp_o2 hp, zp_o0 (by omega) (by omega) (by omega) (by omega), zp_o0 (by omega) (by omega) (by omega) (by omega), zp_o0 (by omega) (by omega) (by omega) (by omega), trivial⟩ (Nat.le_of_ble_eq_true rfl) (show zs_tk a (zp_n u.2.1) ∧ (0 = 1 → zp_n u.2.1 a 16 ≠ 0) ∧ zp_n u.2.1 a 23 ≤ zp_n u.2.1 a 14 from ⟨htk, fun _ => by omega, by omega⟩) (fun al hal rnl Pl Gl hextl hfrl hokl hcsl hpsil => ?_)
            obtain rfl := List.mem_singleton.mp hal
            obtain ⟨rfl, htl, hlr⟩ := hpsil
            have hlr : zs_lfr a 0 0 x65 (zp_n u.2.1) Gl := hlr
            have l27 : Gl a 27 = (b27 : Int) := (zp_nf hfrl hp rfl).trans hb27
            have l28 : Gl a 28 = (b28 : Int) := (zp_nf hfrl hp rfl).trans hb28
            have l24 : Gl a 24 = (b24 : Int) := (zp_nf hfrl hp rfl).trans hb24
            have l25 : Gl a 25 = (b25 : Int) := (zp_nf hfrl hp rfl).trans hb25
            refine h102 its dg Gl (by omega) (fun _ => rfl) (fun first sq hz => zs_lf hz (op := 0) (by omega) (by omega) (is := 0) (fun _ => by omega) (zp_nf hfrl hp rfl) (fun j => by rw [zv_eq l27, zv_eq hb27, zp_nc hfrl hq27 rfl]) (fun j => by rw [zv_eq l28, zv_eq hb28, zp_nc hfrl hq28 rfl]) htl hlr) (zp_nf hfrl hp rfl) (fun z => ?_) l24 l25 l27 l28
            rcases hlr with hlr | ⟨-, -, -, -, y1, y2, -⟩
            · omega
            · refine ⟨by omega, ?_⟩
              rw [y2, hnc, Int.toNat_natCast, if_pos rfl]
              omega
      · refine zp_const (pc := 71) hx hb (zd_X12_readPart (71, .iconst 1, 1, 0, []) (List.mem_of_getElem? (i := 37) rfl)) rfl rfl ?_
        refine zp_goto (tgt := 76) (pc := 72) hx hb (zd_X12_readPart (72, .goto 4, 3, 0, []) (List.mem_of_getElem? (i := 38) rfl)) rfl ?_
        refine zp_load (pc := 76) hx hb (zd_X12_readPart (76, .iload_n 1, 1, 0, []) (List.mem_of_getElem? (i := 40) rfl)) rfl (j := 1) rfl ?_
        refine zp_const (pc := 77) hx hb (zd_X12_readPart (77, .iconst (-1), 1, 0, []) (List.mem_of_getElem? (i := 41) rfl)) rfl rfl ?_
        refine zp_icmp (pc := 78) (tgt := 85) hx hb (zd_X12_readPart (78, .if_icmp .ne 7, 3, 0, []) (List.mem_of_getElem? (i := 42) rfl)) rfl (fun (hc66 : ¬ its = (-1)) => ?_) (fun (hc66 : ¬ (¬ its = (-1))) => ?_)
        · refine zp_load (pc := 85) hx hb (zd_X12_readPart (85, .iload_n 1, 1, 0, []) (List.mem_of_getElem? (i := 45) rfl)) rfl (j := 1) rfl ?_
          refine zp_load (pc := 86) hx hb (zd_X12_readPart (86, .iload_n 2, 1, 0, []) (List.mem_of_getElem? (i := 46) rfl)) rfl (j := 0) rfl ?_
          refine zp_if (pc := 87) (tgt := 98) hx hb (zd_X12_readPart (87, .ifCond .eq 11, 3, 0, []) (List.mem_of_getElem? (i := 47) rfl)) rfl (fun (hc67 : dg = 0) => ?_) (fun (hc67 : ¬ (dg = 0)) => ?_)
          · refine zp_const (pc := 98) hx hb (zd_X12_readPart (98, .iconst 0, 1, 0, []) (List.mem_of_getElem? (i := 52) rfl)) rfl rfl ?_
            refine zp_call (pc := 99) (how := 0) (idx := 331) (mi := 226) (S := []) hx hb hE hw heff hrm (zX_lf hW) rfl (j := 28) rfl rfl (by decide +kernel) (zd_X12_readPart (99, .invokevirtual 331, 3, 0, []) (List.mem_of_getElem? (i := 53) rfl)) [(a : Int), 1, its, 0] rfl ⟨zp_o2 hp, zp_o0 (by omega) (by omega) (by omega) (by omega), zp_o0 (by omega) (by omega) (by omega) (by omega), zp_o0 (by omega) (by omega) (by omega) (by omega), trivial⟩ (Nat.le_of_ble_eq_true rfl) (show zs_tk a (zp_n u.2.1) ∧ (1 = 1 → zp_n u.2.1 a 16 ≠ 0) ∧ zp_n u.2.1 a 23 ≤ zp_n u.2.1 a 14 from ⟨htk, fun _ => by omega, by omega⟩) (fun al hal rnl Pl Gl hextl hfrl hokl hcsl hpsil => ?_)
            obtain rfl := List.mem_singleton.mp hal
            obtain ⟨rfl, htl, hlr⟩ := hpsil
            have hlr : zs_lfr a 1 its 0 (zp_n u.2.1) Gl := hlr
            have l27 : Gl a 27 = (b27 : Int) := (zp_nf hfrl hp rfl).trans hb27
            have l28 : Gl a 28 = (b28 : Int) := (zp_nf hfrl hp rfl).trans hb28
            have l24 : Gl a 24 = (b24 : Int) := (zp_nf hfrl hp rfl).trans hb24
            have l25 : Gl a 25 = (b25 : Int) := (zp_nf hfrl hp rfl).trans hb25
            refine h102 its dg Gl (by omega) (fun _ => rfl) (fun first sq hz => zs_lf hz (op := its) (by omega) (by omega) (is := 1) (fun _ => by omega) (zp_nf hfrl hp rfl) (fun j => by rw [zv_eq l27, zv_eq hb27, zp_nc hfrl hq27 rfl]) (fun j => by rw [zv_eq l28, zv_eq hb28, zp_nc hfrl hq28 rfl]) htl hlr) (zp_nf hfrl hp rfl) (fun z => ?_) l24 l25 l27 l28
            rcases hlr with hlr | ⟨-, -, -, -, y1, y2, -⟩
            · omega
            · refine ⟨by omega, ?_⟩
              rw [y2, hnc, Int.toNat_natCast, if_pos rfl]
              omega
          · refine zp_load (pc := 90) hx hb (zd_X12_readPart (90, .aload_n 0, 1, 0, []) (List.mem_of_getElem? (i := 48) rfl)) rfl (j := 2) rfl ?_
            refine zp_getf (n := ((zp_n u.2.1) a 17)) (pc := 91) hx hb hE hw (zd_X12_readPart (91, .getfield 250, 3, 0, []) (List.mem_of_getElem? (i := 49) rfl)) (j := 35) rfl rfl rfl hp rfl ?_
            refine zp_l2i (pc := 94) hx hb (zd_X12_readPart (94, .l2i, 1, 0, []) (List.mem_of_getElem? (i := 50) rfl)) (fun x68 r_x68 e_x68 => ?_)
            have i_x68 := zp_rg0 r_x68
            refine zp_goto (tgt := 99) (pc := 95) hx hb (zd_X12_readPart (95, .goto 4, 3, 0, []) (List.mem_of_getElem? (i := 51) rfl)) rfl ?_
            refine zp_call (pc := 99) (how := 0) (idx := 331) (mi := 226) (S := []) hx hb hE hw heff hrm (zX_lf hW) rfl (j := 28) rfl rfl (by decide +kernel) (zd_X12_readPart (99, .invokevirtual 331, 3, 0, []) (List.mem_of_getElem? (i := 53) rfl)) [(a : Int), 1, its, x68] rfl ⟨zp_o2 hp, zp_o0 (by omega) (by omega) (by omega) (by omega), zp_o0 (by omega) (by omega) (by omega) (by omega), zp_o0 (by omega) (by omega) (by omega) (by omega), trivial⟩ (Nat.le_of_ble_eq_true rfl) (show zs_tk a (zp_n u.2.1) ∧ (1 = 1 → zp_n u.2.1 a 16 ≠ 0) ∧ zp_n u.2.1 a 23 ≤ zp_n u.2.1 a 14 from ⟨htk, fun _ => by omega, by omega⟩) (fun al hal rnl Pl Gl hextl hfrl hokl hcsl hpsil => ?_)
            obtain rfl := List.mem_singleton.mp hal
            obtain ⟨rfl, htl, hlr⟩ := hpsil
            have hlr : zs_lfr a 1 its x68 (zp_n u.2.1) Gl := hlr
            have l27 : Gl a 27 = (b27 : Int) := (zp_nf hfrl hp rfl).trans hb27
            have l28 : Gl a 28 = (b28 : Int) := (zp_nf hfrl hp rfl).trans hb28
            have l24 : Gl a 24 = (b24 : Int) := (zp_nf hfrl hp rfl).trans hb24
            have l25 : Gl a 25 = (b25 : Int) := (zp_nf hfrl hp rfl).trans hb25
            refine h102 its dg Gl (by omega) (fun _ => rfl) (fun first sq hz => zs_lf hz (op := its) (by omega) (by omega) (is := 1) (fun _ => by omega) (zp_nf hfrl hp rfl) (fun j => by rw [zv_eq l27, zv_eq hb27, zp_nc hfrl hq27 rfl]) (fun j => by rw [zv_eq l28, zv_eq hb28, zp_nc hfrl hq28 rfl]) htl hlr) (zp_nf hfrl hp rfl) (fun z => ?_) l24 l25 l27 l28
            rcases hlr with hlr | ⟨-, -, -, -, y1, y2, -⟩
            · omega
            · refine ⟨by omega, ?_⟩
              rw [y2, hnc, Int.toNat_natCast, if_pos rfl]
              omega
        · refine zp_const (pc := 81) hx hb (zd_X12_readPart (81, .iconst 0, 1, 0, []) (List.mem_of_getElem? (i := 43) rfl)) rfl rfl ?_
          refine zp_goto (tgt := 86) (pc := 82) hx hb (zd_X12_readPart (82, .goto 4, 3, 0, []) (List.mem_of_getElem? (i := 44) rfl)) rfl ?_
          refine zp_load (pc := 86) hx hb (zd_X12_readPart (86, .iload_n 2, 1, 0, []) (List.mem_of_getElem? (i := 46) rfl)) rfl (j := 0) rfl ?_
          refine zp_if (pc := 87) (tgt := 98) hx hb (zd_X12_readPart (87, .ifCond .eq 11, 3, 0, []) (List.mem_of_getElem? (i := 47) rfl)) rfl (fun (hc69 : dg = 0) => ?_) (fun (hc69 : ¬ (dg = 0)) => ?_)
          · refine zp_const (pc := 98) hx hb (zd_X12_readPart (98, .iconst 0, 1, 0, []) (List.mem_of_getElem? (i := 52) rfl)) rfl rfl ?_
            refine zp_call (pc := 99) (how := 0) (idx := 331) (mi := 226) (S := []) hx hb hE hw heff hrm (zX_lf hW) rfl (j := 28) rfl rfl (by decide +kernel) (zd_X12_readPart (99, .invokevirtual 331, 3, 0, []) (List.mem_of_getElem? (i := 53) rfl)) [(a : Int), 1, 0, 0] rfl ⟨zp_o2 hp, zp_o0 (by omega) (by omega) (by omega) (by omega), zp_o0 (by omega) (by omega) (by omega) (by omega), zp_o0 (by omega) (by omega) (by omega) (by omega), trivial⟩ (Nat.le_of_ble_eq_true rfl) (show zs_tk a (zp_n u.2.1) ∧ (1 = 1 → zp_n u.2.1 a 16 ≠ 0) ∧ zp_n u.2.1 a 23 ≤ zp_n u.2.1 a 14 from ⟨htk, fun _ => by omega, by omega⟩) (fun al hal rnl Pl Gl hextl hfrl hokl hcsl hpsil => ?_)
            obtain rfl := List.mem_singleton.mp hal
            obtain ⟨rfl, htl, hlr⟩ := hpsil
            have hlr : zs_lfr a 1 0 0 (zp_n u.2.1) Gl := hlr
            have l27 : Gl a 27 = (b27 : Int) := (zp_nf hfrl hp rfl).trans hb27
            have l28 : Gl a 28 = (b28 : Int) := (zp_nf hfrl hp rfl).trans hb28
            have l24 : Gl a 24 = (b24 : Int) := (zp_nf hfrl hp rfl).trans hb24
            have l25 : Gl a 25 = (b25 : Int) := (zp_nf hfrl hp rfl).trans hb25
            refine h102 its dg Gl (by omega) (fun _ => rfl) (fun first sq hz => zs_lf hz (op := 0) (by omega) (by omega) (is := 1) (fun _ => by omega) (zp_nf hfrl hp rfl) (fun j => by rw [zv_eq l27, zv_eq hb27, zp_nc hfrl hq27 rfl]) (fun j => by rw [zv_eq l28, zv_eq hb28, zp_nc hfrl hq28 rfl]) htl hlr) (zp_nf hfrl hp rfl) (fun z => ?_) l24 l25 l27 l28
            rcases hlr with hlr | ⟨-, -, -, -, y1, y2, -⟩
            · omega
            · refine ⟨by omega, ?_⟩
              rw [y2, hnc, Int.toNat_natCast, if_pos rfl]
              omega
          · refine zp_load (pc := 90) hx hb (zd_X12_readPart (90, .aload_n 0, 1, 0, []) (List.mem_of_getElem? (i := 48) rfl)) rfl (j := 2) rfl ?_
            refine zp_getf (n := ((zp_n u.2.1) a 17)) (pc := 91) hx hb hE hw (zd_X12_readPart (91, .getfield 250, 3, 0, []) (List.mem_of_getElem? (i := 49) rfl)) (j := 35) rfl rfl rfl hp rfl ?_
            refine zp_l2i (pc := 94) hx hb (zd_X12_readPart (94, .l2i, 1, 0, []) (List.mem_of_getElem? (i := 50) rfl)) (fun x70 r_x70 e_x70 => ?_)
            have i_x70 := zp_rg0 r_x70
            refine zp_goto (tgt := 99) (pc := 95) hx hb (zd_X12_readPart (95, .goto 4, 3, 0, []) (List.mem_of_getElem? (i := 51) rfl)) rfl ?_
            refine zp_call (pc := 99) (how := 0) (idx := 331) (mi := 226) (S := []) hx hb hE hw heff hrm (zX_lf hW) rfl (j := 28) rfl rfl (by decide +kernel) (zd_X12_readPart (99, .invokevirtual 331, 3, 0, []) (List.mem_of_getElem? (i := 53) rfl)) [(a : Int), 1, 0, x70] rfl ⟨zp_o2 hp, zp_o0 (by omega) (by omega) (by omega) (by omega), zp_o0 (by omega) (by omega) (by omega) (by omega), zp_o0 (by omega) (by omega) (by omega) (by omega), trivial⟩ (Nat.le_of_ble_eq_true rfl) (show zs_tk a (zp_n u.2.1) ∧ (1 = 1 → zp_n u.2.1 a 16 ≠ 0) ∧ zp_n u.2.1 a 23 ≤ zp_n u.2.1 a 14 from ⟨htk, fun _ => by omega, by omega⟩) (fun al hal rnl Pl Gl hextl hfrl hokl hcsl hpsil => ?_)
            obtain rfl := List.mem_singleton.mp hal
            obtain ⟨rfl, htl, hlr⟩ := hpsil
            have hlr : zs_lfr a 1 0 x70 (zp_n u.2.1) Gl := hlr
            have l27 : Gl a 27 = (b27 : Int) := (zp_nf hfrl hp rfl).trans hb27
            have l28 : Gl a 28 = (b28 : Int) := (zp_nf hfrl hp rfl).trans hb28
            have l24 : Gl a 24 = (b24 : Int) := (zp_nf hfrl hp rfl).trans hb24
            have l25 : Gl a 25 = (b25 : Int) := (zp_nf hfrl hp rfl).trans hb25
            refine h102 its dg Gl (by omega) (fun _ => rfl) (fun first sq hz => zs_lf hz (op := 0) (by omega) (by omega) (is := 1) (fun _ => by omega) (zp_nf hfrl hp rfl) (fun j => by rw [zv_eq l27, zv_eq hb27, zp_nc hfrl hq27 rfl]) (fun j => by rw [zv_eq l28, zv_eq hb28, zp_nc hfrl hq28 rfl]) htl hlr) (zp_nf hfrl hp rfl) (fun z => ?_) l24 l25 l27 l28
            rcases hlr with hlr | ⟨-, -, -, -, y1, y2, -⟩
            · omega
            · refine ⟨by omega, ?_⟩
              rw [y2, hnc, Int.toNat_natCast, if_pos rfl]
              omega
  refine zp_load (pc := 0) hx hb (zd_X12_readPart (0, .aload_n 0, 1, 0, []) (List.mem_of_getElem? (i := 0) rfl)) rfl (j := 0) rfl ?_
  refine zp_const (pc := 1) hx hb (zd_X12_readPart (1, .bipush 91, 2, 0, []) (List.mem_of_getElem? (i := 1) rfl)) rfl rfl ?_
  refine zp_call (pc := 3) (how := 0) (idx := 313) (mi := 221) (S := []) hx hb hE hw heff hrm (zX_si hW) rfl (j := 23) rfl rfl (by decide +kernel) (zd_X12_readPart (3, .invokevirtual 313, 3, 0, []) (List.mem_of_getElem? (i := 2) rfl)) [(a : Int), 91] rfl ⟨zp_o2 hp, zp_o0 (by decide) (by decide) (by decide) (by decide), trivial⟩ (Nat.le_of_ble_eq_true rfl) trivial (fun al hal rns Ps Gs hexts hfrs hoks hcss hpsis => ?_)
  obtain rfl := List.mem_singleton.mp hal
  have hrs := zp_int (hoks _ rfl).1
  obtain ⟨hPes, hGes, hts⟩ := hpsis
  rw [hPes, hGes]
  have hts : rns = 1 → zp_n u.2.1 a 16 = 3 := hts
  refine zp_if (pc := 6) (tgt := 17) hx hb (zd_X12_readPart (6, .ifCond .eq 11, 3, 0, []) (List.mem_of_getElem? (i := 3) rfl)) rfl (fun (hc71 : rns = 0) => ?_) (fun (hc71 : ¬ (rns = 0)) => ?_)
  · refine zp_load (pc := 17) hx hb (zd_X12_readPart (17, .aload_n 0, 1, 0, []) (List.mem_of_getElem? (i := 9) rfl)) rfl (j := 0) rfl ?_
    refine zp_getf (n := ((zp_n u.2.1) a 20)) (pc := 18) hx hb hE hw (zd_X12_readPart (18, .getfield 319, 3, 0, []) (List.mem_of_getElem? (i := 10) rfl)) (j := 38) rfl rfl rfl hp rfl ?_
    refine zp_if (pc := 21) (tgt := 31) hx hb (zd_X12_readPart (21, .ifCond .eq 10, 3, 0, []) (List.mem_of_getElem? (i := 11) rfl)) rfl (fun (hc72 : ((zp_n u.2.1) a 20) = 0) => ?_) (fun (hc72 : ¬ (((zp_n u.2.1) a 20) = 0)) => ?_)
    · refine zp_load (pc := 31) hx hb (zd_X12_readPart (31, .aload_n 0, 1, 0, []) (List.mem_of_getElem? (i := 15) rfl)) rfl (j := 0) rfl ?_
      refine zp_call (pc := 32) (how := 0) (idx := 326) (mi := 225) (S := []) hx hb hE hw heff hrm (zX_pt hW) rfl (j := 27) rfl rfl (by decide +kernel) (zd_X12_readPart (32, .invokevirtual 326, 3, 0, []) (List.mem_of_getElem? (i := 16) rfl)) [(a : Int)] rfl ⟨zp_o2 hp, trivial⟩ (Nat.le_of_ble_eq_true rfl) trivial (fun al hal rnt Pt Gt hextt hfrt hokt hcst hpsit => ?_)
      obtain rfl := List.mem_singleton.mp hal
      have hrt := zp_int (hokt _ rfl).1
      obtain ⟨hPet, hGet, htt⟩ := hpsit
      rw [hPet, hGet]
      have htt : rnt = -1 ∨ (1 ≤ rnt ∧ zp_n u.2.1 a 16 = 1) := htt
      refine zp_store (L' := [(1, 0, rnt), (0, 2, (a : Int))]) (pc := 35) hx hb hnL (zd_X12_readPart (35, .istore_n 1, 1, 0, []) (List.mem_of_getElem? (i := 17) rfl)) rfl rfl rfl ?_
      refine zp_load (pc := 36) hx hb (zd_X12_readPart (36, .aload_n 0, 1, 0, []) (List.mem_of_getElem? (i := 18) rfl)) rfl (j := 1) rfl ?_
      refine zp_getf (n := ((zp_n u.2.1) a 16)) (pc := 37) hx hb hE hw (zd_X12_readPart (37, .getfield 260, 3, 0, []) (List.mem_of_getElem? (i := 19) rfl)) (j := 34) rfl rfl rfl hp rfl ?_
      refine zp_const (pc := 40) hx hb (zd_X12_readPart (40, .iconst 2, 1, 0, []) (List.mem_of_getElem? (i := 20) rfl)) rfl rfl ?_
      refine zp_icmp (pc := 41) (tgt := 59) hx hb (zd_X12_readPart (41, .if_icmp .ne 18, 3, 0, []) (List.mem_of_getElem? (i := 21) rfl)) rfl (fun (hc73 : ¬ ((zp_n u.2.1) a 16) = 2) => ?_) (fun (hc73 : ¬ (¬ ((zp_n u.2.1) a 16) = 2)) => ?_)
      · refine zp_const (pc := 59) hx hb (zd_X12_readPart (59, .iconst 0, 1, 0, []) (List.mem_of_getElem? (i := 29) rfl)) rfl rfl ?_
        refine zp_store (L' := [(2, 0, 0), (1, 0, rnt), (0, 2, (a : Int))]) (pc := 60) hx hb hnL (zd_X12_readPart (60, .istore_n 2, 1, 0, []) (List.mem_of_getElem? (i := 30) rfl)) rfl rfl rfl ?_
        exact h61 rnt 0 (by omega) (by omega)
      · refine zp_load (pc := 44) hx hb (zd_X12_readPart (44, .aload_n 0, 1, 0, []) (List.mem_of_getElem? (i := 22) rfl)) rfl (j := 1) rfl ?_
        refine zp_getf (n := ((zp_n u.2.1) a 17)) (pc := 45) hx hb hE hw (zd_X12_readPart (45, .getfield 250, 3, 0, []) (List.mem_of_getElem? (i := 23) rfl)) (j := 35) rfl rfl rfl hp rfl ?_
        refine zp_ldc2 (pc := 48) hx hb hE (zd_X12_readPart (48, .ldc2_w 329, 3, 0, []) (List.mem_of_getElem? (i := 24) rfl)) (j := 97) rfl ?_
        refine zp_lcmp (pc := 51) (tgt := 59) hx hb (zd_X12_readPart (51, .lcmp, 1, 0, []) (List.mem_of_getElem? (i := 25) rfl)) (zd_X12_readPart (52, .ifCond .gt 7, 3, 0, []) (List.mem_of_getElem? (i := 26) rfl)) rfl (fun (hc74 : 1000 < ((zp_n u.2.1) a 17)) => ?_) (fun (hc74 : ¬ (1000 < ((zp_n u.2.1) a 17))) => ?_)
        · refine zp_const (pc := 59) hx hb (zd_X12_readPart (59, .iconst 0, 1, 0, []) (List.mem_of_getElem? (i := 29) rfl)) rfl rfl ?_
          refine zp_store (L' := [(2, 0, 0), (1, 0, rnt), (0, 2, (a : Int))]) (pc := 60) hx hb hnL (zd_X12_readPart (60, .istore_n 2, 1, 0, []) (List.mem_of_getElem? (i := 30) rfl)) rfl rfl rfl ?_
          exact h61 rnt 0 (by omega) (by omega)
        · refine zp_const (pc := 55) hx hb (zd_X12_readPart (55, .iconst 1, 1, 0, []) (List.mem_of_getElem? (i := 27) rfl)) rfl rfl ?_
          refine zp_goto (tgt := 60) (pc := 56) hx hb (zd_X12_readPart (56, .goto 4, 3, 0, []) (List.mem_of_getElem? (i := 28) rfl)) rfl ?_
          refine zp_store (L' := [(2, 0, 1), (1, 0, rnt), (0, 2, (a : Int))]) (pc := 60) hx hb hnL (zd_X12_readPart (60, .istore_n 2, 1, 0, []) (List.mem_of_getElem? (i := 30) rfl)) rfl rfl rfl ?_
          exact h61 rnt 1 (by omega) (by omega)
    · refine zp_load (pc := 24) hx hb (zd_X12_readPart (24, .aload_n 0, 1, 0, []) (List.mem_of_getElem? (i := 12) rfl)) rfl (j := 0) rfl ?_
      refine zp_call (pc := 25) (how := 0) (idx := 322) (mi := 224) (S := []) hx hb hE hw heff hrm (zX_ot hW) rfl (j := 26) rfl rfl (by decide +kernel) (zd_X12_readPart (25, .invokevirtual 322, 3, 0, []) (List.mem_of_getElem? (i := 13) rfl)) [(a : Int)] rfl ⟨zp_o2 hp, trivial⟩ (Nat.le_of_ble_eq_true rfl) trivial (fun al hal rnt Pt Gt hextt hfrt hokt hcst hpsit => ?_)
      obtain rfl := List.mem_singleton.mp hal
      have hrt := zp_int (hokt _ rfl).1
      obtain ⟨hPet, hGet, htt⟩ := hpsit
      rw [hPet, hGet]
      have htt : rnt = -1 ∨ (1 ≤ rnt ∧ zp_n u.2.1 a 16 = 1) := htt
      refine zp_goto (tgt := 35) (pc := 28) hx hb (zd_X12_readPart (28, .goto 7, 3, 0, []) (List.mem_of_getElem? (i := 14) rfl)) rfl ?_
      refine zp_store (L' := [(1, 0, rnt), (0, 2, (a : Int))]) (pc := 35) hx hb hnL (zd_X12_readPart (35, .istore_n 1, 1, 0, []) (List.mem_of_getElem? (i := 17) rfl)) rfl rfl rfl ?_
      refine zp_load (pc := 36) hx hb (zd_X12_readPart (36, .aload_n 0, 1, 0, []) (List.mem_of_getElem? (i := 18) rfl)) rfl (j := 1) rfl ?_
      refine zp_getf (n := ((zp_n u.2.1) a 16)) (pc := 37) hx hb hE hw (zd_X12_readPart (37, .getfield 260, 3, 0, []) (List.mem_of_getElem? (i := 19) rfl)) (j := 34) rfl rfl rfl hp rfl ?_
      refine zp_const (pc := 40) hx hb (zd_X12_readPart (40, .iconst 2, 1, 0, []) (List.mem_of_getElem? (i := 20) rfl)) rfl rfl ?_
      refine zp_icmp (pc := 41) (tgt := 59) hx hb (zd_X12_readPart (41, .if_icmp .ne 18, 3, 0, []) (List.mem_of_getElem? (i := 21) rfl)) rfl (fun (hc75 : ¬ ((zp_n u.2.1) a 16) = 2) => ?_) (fun (hc75 : ¬ (¬ ((zp_n u.2.1) a 16) = 2)) => ?_)
      · refine zp_const (pc := 59) hx hb (zd_X12_readPart (59, .iconst 0, 1, 0, []) (List.mem_of_getElem? (i := 29) rfl)) rfl rfl ?_
        refine zp_store (L' := [(2, 0, 0), (1, 0, rnt), (0, 2, (a : Int))]) (pc := 60) hx hb hnL (zd_X12_readPart (60, .istore_n 2, 1, 0, []) (List.mem_of_getElem? (i := 30) rfl)) rfl rfl rfl ?_
        exact h61 rnt 0 (by omega) (by omega)
      · refine zp_load (pc := 44) hx hb (zd_X12_readPart (44, .aload_n 0, 1, 0, []) (List.mem_of_getElem? (i := 22) rfl)) rfl (j := 1) rfl ?_
        refine zp_getf (n := ((zp_n u.2.1) a 17)) (pc := 45) hx hb hE hw (zd_X12_readPart (45, .getfield 250, 3, 0, []) (List.mem_of_getElem? (i := 23) rfl)) (j := 35) rfl rfl rfl hp rfl ?_
        refine zp_ldc2 (pc := 48) hx hb hE (zd_X12_readPart (48, .ldc2_w 329, 3, 0, []) (List.mem_of_getElem? (i := 24) rfl)) (j := 97) rfl ?_
        refine zp_lcmp (pc := 51) (tgt := 59) hx hb (zd_X12_readPart (51, .lcmp, 1, 0, []) (List.mem_of_getElem? (i := 25) rfl)) (zd_X12_readPart (52, .ifCond .gt 7, 3, 0, []) (List.mem_of_getElem? (i := 26) rfl)) rfl (fun (hc76 : 1000 < ((zp_n u.2.1) a 17)) => ?_) (fun (hc76 : ¬ (1000 < ((zp_n u.2.1) a 17))) => ?_)
        · refine zp_const (pc := 59) hx hb (zd_X12_readPart (59, .iconst 0, 1, 0, []) (List.mem_of_getElem? (i := 29) rfl)) rfl rfl ?_
          refine zp_store (L' := [(2, 0, 0), (1, 0, rnt), (0, 2, (a : Int))]) (pc := 60) hx hb hnL (zd_X12_readPart (60, .istore_n 2, 1, 0, []) (List.mem_of_getElem? (i := 30) rfl)) rfl rfl rfl ?_
          exact h61 rnt 0 (by omega) (by omega)
        · refine zp_const (pc := 55) hx hb (zd_X12_readPart (55, .iconst 1, 1, 0, []) (List.mem_of_getElem? (i := 27) rfl)) rfl rfl ?_
          refine zp_goto (tgt := 60) (pc := 56) hx hb (zd_X12_readPart (56, .goto 4, 3, 0, []) (List.mem_of_getElem? (i := 28) rfl)) rfl ?_
          refine zp_store (L' := [(2, 0, 1), (1, 0, rnt), (0, 2, (a : Int))]) (pc := 60) hx hb hnL (zd_X12_readPart (60, .istore_n 2, 1, 0, []) (List.mem_of_getElem? (i := 30) rfl)) rfl rfl rfl ?_
          exact h61 rnt 1 (by omega) (by omega)
  · refine zp_load (pc := 9) hx hb (zd_X12_readPart (9, .aload_n 0, 1, 0, []) (List.mem_of_getElem? (i := 4) rfl)) rfl (j := 0) rfl ?_
    refine zp_const (pc := 10) hx hb (zd_X12_readPart (10, .bipush 32, 2, 0, []) (List.mem_of_getElem? (i := 5) rfl)) rfl rfl ?_
    refine zp_call (pc := 12) (how := 0) (idx := 316) (mi := 222) (S := []) hx hb hE hw heff hrm (zX_ob hW) rfl (j := 24) rfl rfl (by decide +kernel) (zd_X12_readPart (12, .invokevirtual 316, 3, 0, []) (List.mem_of_getElem? (i := 6) rfl)) [(a : Int), 32] rfl ⟨zp_o2 hp, zp_o0 (by decide) (by decide) (by decide) (by decide), trivial⟩ (Nat.le_of_ble_eq_true rfl) (show zs_tk a (zp_n u.2.1) ∧ zp_n u.2.1 a 16 ≠ 0 ∧ zp_n u.2.1 a 29 ≤ zp_n u.2.1 a 14 from ⟨htk, by omega, by omega⟩) (fun al hal rno Po Go hexto hfro hoko hcso hpsio => ?_)
    obtain rfl := List.mem_singleton.mp hal
    obtain ⟨rfl, hto, hor⟩ := hpsio
    have hor : zs_obr a 32 (zp_n u.2.1) Go := hor
    have o24 : Go a 24 = (b24 : Int) := (zp_nf hfro hp rfl).trans hb24
    have o25 : Go a 25 = (b25 : Int) := (zp_nf hfro hp rfl).trans hb25
    refine zp_const (pc := 15) hx hb (zd_X12_readPart (15, .iconst 1, 1, 0, []) (List.mem_of_getElem? (i := 7) rfl)) rfl rfl ?_
    refine zp_iret (pc := 16) (n := 1) hx hb hE hQ hU5 rfl (by decide) (zd_X12_readPart (16, .ireturn, 1, 0, []) (List.mem_of_getElem? (i := 8) rfl)) (j := 0) rfl (zp_o0 (by omega) (by omega) (by omega) (by omega)) ?_
    rw [hps]
    refine ⟨rfl, Or.inl rfl, fun first sq hz => ⟨fun _ => ?_, fun z => absurd z (by decide)⟩⟩
    show zs_go a first 0 1 (zp_n u.2.1) Go
    have hz : zs first 0 sq a (zp_n u.2.1) := hz
    exact zs_ob hz (Or.inl ⟨rfl, rfl⟩) (by omega) (zp_nf hfro hp rfl) (fun j => by rw [zv_eq o24, zv_eq hb24, zp_nc hfro hq24 rfl]) (fun j => by rw [zv_eq o25, zv_eq hb25, zp_nc hfro hq25 rfl]) hto hor
def zK_rl : zk_K := (zt_mn 219, prog_14_method_55_code, 1, (Option.some Jvm.ClassFile.FieldType.int), 1, 12, [(2, 92, 0, 0)], [(some (0, 0, 0, 3), [])], [(92, 14, 0), (92, 15, 0), (92, 16, 0), (92, 17, 0), (92, 18, 0), (92, 19, 0), (92, 30, 0), (92, 29, 0), (70, 1001, 0), (71, 1001, 0), (92, 26, 0), (92, 23, 0), (68, 1001, 0), (69, 1001, 0)], (5, 230, 0, 0))
def zφ_rl : (Nat → Option Nat) → (Nat → Nat → Int) → List Int → Prop := fun _ G ps => ∃ first : Nat, zs first 0 0 (zp_0 ps) G
def zψ_rl : (Nat → Option Nat) → (Nat → Nat → Int) → List Int → (Nat → Option Nat) → (Nat → Nat → Int) → Int → Prop := fun P G ps P' G' rn => P' = P ∧ (rn = 0 ∨ rn = 1 ∨ rn = 3) ∧ ∀ first : Nat, zs first 0 0 (zp_0 ps) G → (rn = 0 → zs_go (zp_0 ps) first 0 0 G G') ∧ (rn = 1 → zs_go (zp_0 ps) first 0 1 G G') ∧ (rn = 3 → zs_go (zp_0 ps) first 1 1 G G')
theorem zX_rl {l : Launch} {w : zk_W} (hW : zh_W w) : zk_metX l w zt_dv zt_TB zK_rl (zp_A zφ_rl) (zp_B zψ_rl) ∧ zk_cok w zt_TB zK_rl := by
  refine zp_meth hW (pl := 1716) rfl (by decide +kernel) (fun p e R s m args below meth c Q u hx hb hE hQ hU5 heff hnL hok hφ => ?_)
  have hw := hW.1
  obtain ⟨p0, hps, k0⟩ := zp_ps1 hok
  obtain ⟨a, rfl, hp⟩ := zp_this k0
  have hrm : zk_Kr (zk_ev (zp_E zK_rl)) = zk_Kr zK_rl := rfl
  rw [hps] at hφ ⊢
  have hφ : ∃ first : Nat, zs first 0 0 a (zp_n u.2.1) := hφ
  obtain ⟨f0, hzs⟩ := hφ
  have hzs2 := hzs
  obtain ⟨htk, nc, pd, hnc, hpd, hwk, -⟩ := hzs2
  have hw2 := hwk.2.1
  have hw3 := hwk.2.2.1
  have htk2 := htk
  obtain ⟨t1, t2, t3, t4, t5, t6⟩ := htk2
  show zp_J p l e R s m args below meth c Q w u [] 0 [(0, 2, (a : Int))] [] u.1 (zp_n u.2.1)
  refine zp_kn (k := 24) (a := a) hw (show zp_fd 92 24 = some (12, 2, 68, 0, 0) from rfl) rfl hp (fun hk24 => ?_)
  obtain ⟨b24, hb24, hq24⟩ := zp_this hk24
  refine zp_kn (k := 25) (a := a) hw (show zp_fd 92 25 = some (12, 2, 69, 0, 0) from rfl) rfl hp (fun hk25 => ?_)
  obtain ⟨b25, hb25, hq25⟩ := zp_this hk25
  refine zp_kn (k := 27) (a := a) hw (show zp_fd 92 27 = some (12, 2, 70, 0, 0) from rfl) rfl hp (fun hk27 => ?_)
  obtain ⟨b27, hb27, hq27⟩ := zp_this hk27
  refine zp_kn (k := 28) (a := a) hw (show zp_fd 92 28 = some (12, 2, 71, 0, 0) from rfl) rfl hp (fun hk28 => ?_)
  obtain ⟨b28, hb28, hq28⟩ := zp_this hk28
  refine zp_kn (k := 13) (a := a) hw (show zp_fd 92 13 = some (12, 0, 0, 0, 400) from rfl) rfl hp (fun hk13 => ?_)
  have hxb := zp_int hk13
  refine zp_load (pc := 0) hx hb (zd_X12_readPlain (0, .aload_n 0, 1, 0, []) (List.mem_of_getElem? (i := 0) rfl)) rfl (j := 0) rfl ?_
  refine zp_ldc2 (pc := 1) hx hb hE (zd_X12_readPlain (1, .ldc2_w 339, 3, 0, []) (List.mem_of_getElem? (i := 1) rfl)) (j := 96) rfl ?_
  refine zp_call (pc := 4) (how := 0) (idx := 300) (mi := 216) (S := []) hx hb hE hw heff hrm (zX_wo hW) rfl (j := 18) rfl rfl (by decide +kernel) (zd_X12_readPlain (4, .invokevirtual 300, 3, 0, []) (List.mem_of_getElem? (i := 2) rfl)) [(a : Int), 14836] rfl ⟨zp_o2 hp, zp_o1 ⟨by decide, by decide⟩, trivial⟩ (Nat.le_of_ble_eq_true rfl) trivial (fun al hal rnw Pw Gw hextw hfrw hokw hcsw hpsiw => ?_)
  obtain rfl := List.mem_singleton.mp hal
  have hrw := zp_int (hokw _ rfl).1
  obtain ⟨hPew, hGew, htw⟩ := hpsiw
  rw [hPew, hGew]
  have htw : rnw = 1 → zp_n u.2.1 a 16 = 1 := htw
  refine zp_if (pc := 7) (tgt := 23) hx hb (zd_X12_readPlain (7, .ifCond .eq 16, 3, 0, []) (List.mem_of_getElem? (i := 3) rfl)) rfl (fun (hc77 : rnw = 0) => ?_) (fun (hc77 : ¬ (rnw = 0)) => ?_)
  · refine zp_load (pc := 23) hx hb (zd_X12_readPlain (23, .aload_n 0, 1, 0, []) (List.mem_of_getElem? (i := 12) rfl)) rfl (j := 0) rfl ?_
    refine zp_const (pc := 24) hx hb (zd_X12_readPlain (24, .bipush 40, 2, 0, []) (List.mem_of_getElem? (i := 13) rfl)) rfl rfl ?_
    refine zp_call (pc := 26) (how := 0) (idx := 313) (mi := 221) (S := []) hx hb hE hw heff hrm (zX_si hW) rfl (j := 23) rfl rfl (by decide +kernel) (zd_X12_readPlain (26, .invokevirtual 313, 3, 0, []) (List.mem_of_getElem? (i := 14) rfl)) [(a : Int), 40] rfl ⟨zp_o2 hp, zp_o0 (by decide) (by decide) (by decide) (by decide), trivial⟩ (Nat.le_of_ble_eq_true rfl) trivial (fun al hal rns Ps Gs hexts hfrs hoks hcss hpsis => ?_)
    obtain rfl := List.mem_singleton.mp hal
    have hrs := zp_int (hoks _ rfl).1
    obtain ⟨hPes, hGes, hts⟩ := hpsis
    rw [hPes, hGes]
    have hts : rns = 1 → zp_n u.2.1 a 16 = 3 := hts
    refine zp_if (pc := 29) (tgt := 40) hx hb (zd_X12_readPlain (29, .ifCond .eq 11, 3, 0, []) (List.mem_of_getElem? (i := 15) rfl)) rfl (fun (hc78 : rns = 0) => ?_) (fun (hc78 : ¬ (rns = 0)) => ?_)
    · refine zp_load (pc := 40) hx hb (zd_X12_readPlain (40, .aload_n 0, 1, 0, []) (List.mem_of_getElem? (i := 21) rfl)) rfl (j := 0) rfl ?_
      refine zp_call (pc := 41) (how := 0) (idx := 341) (mi := 223) (S := []) hx hb hE hw heff hrm (zX_rp hW) rfl (j := 25) rfl rfl (by decide +kernel) (zd_X12_readPlain (41, .invokevirtual 341, 3, 0, []) (List.mem_of_getElem? (i := 22) rfl)) [(a : Int)] rfl ⟨zp_o2 hp, trivial⟩ (Nat.le_of_ble_eq_true rfl) ⟨f0, 0, hzs⟩ (fun al hal rnr Pr Gr hextr hfrr hokr hcsr hpsir => ?_)
      obtain rfl := List.mem_singleton.mp hal
      have hrr := zp_int (hokr _ rfl).1
      obtain ⟨rfl, hr1, hr2⟩ := hpsir
      have hr2 : ∀ first sq : Nat, zs first 0 sq a (zp_n u.2.1) → (rnr = 1 → zs_go a first 0 1 (zp_n u.2.1) Gr) ∧ (rnr = 3 → zs_go a first 1 1 (zp_n u.2.1) Gr) := hr2
      refine zp_iret (pc := 44) (n := rnr) hx hb hE hQ hU5 rfl (by decide) (zd_X12_readPlain (44, .ireturn, 1, 0, []) (List.mem_of_getElem? (i := 23) rfl)) (j := 0) rfl (zp_o0 (by omega) (by omega) (by omega) (by omega)) ?_
      rw [hps]
      refine ⟨rfl, by show rnr = 0 ∨ rnr = 1 ∨ rnr = 3; omega, fun first hz => ⟨fun z => ?_, fun z => (hr2 first 0 hz).1 z, fun z => (hr2 first 0 hz).2 z⟩⟩
      have z : rnr = 0 := z
      omega
    · refine zp_load (pc := 32) hx hb (zd_X12_readPlain (32, .aload_n 0, 1, 0, []) (List.mem_of_getElem? (i := 16) rfl)) rfl (j := 0) rfl ?_
      refine zp_const (pc := 33) hx hb (zd_X12_readPlain (33, .bipush 31, 2, 0, []) (List.mem_of_getElem? (i := 17) rfl)) rfl rfl ?_
      refine zp_call (pc := 35) (how := 0) (idx := 316) (mi := 222) (S := []) hx hb hE hw heff hrm (zX_ob hW) rfl (j := 24) rfl rfl (by decide +kernel) (zd_X12_readPlain (35, .invokevirtual 316, 3, 0, []) (List.mem_of_getElem? (i := 18) rfl)) [(a : Int), 31] rfl ⟨zp_o2 hp, zp_o0 (by decide) (by decide) (by decide) (by decide), trivial⟩ (Nat.le_of_ble_eq_true rfl) (show zs_tk a (zp_n u.2.1) ∧ zp_n u.2.1 a 16 ≠ 0 ∧ zp_n u.2.1 a 29 ≤ zp_n u.2.1 a 14 from ⟨htk, by omega, by omega⟩) (fun al hal rno Po Go hexto hfro hoko hcso hpsio => ?_)
      obtain rfl := List.mem_singleton.mp hal
      obtain ⟨rfl, hto, hor⟩ := hpsio
      have hor : zs_obr a 31 (zp_n u.2.1) Go := hor
      have o24 : Go a 24 = (b24 : Int) := (zp_nf hfro hp rfl).trans hb24
      have o25 : Go a 25 = (b25 : Int) := (zp_nf hfro hp rfl).trans hb25
      refine zp_const (pc := 38) hx hb (zd_X12_readPlain (38, .iconst 0, 1, 0, []) (List.mem_of_getElem? (i := 19) rfl)) rfl rfl ?_
      refine zp_iret (pc := 39) (n := 0) hx hb hE hQ hU5 rfl (by decide) (zd_X12_readPlain (39, .ireturn, 1, 0, []) (List.mem_of_getElem? (i := 20) rfl)) (j := 0) rfl (zp_o0 (by omega) (by omega) (by omega) (by omega)) ?_
      rw [hps]
      refine ⟨rfl, Or.inl rfl, fun first hz => ⟨fun _ => ?_, fun z => absurd z (by decide), fun z => absurd z (by decide)⟩⟩
      show zs_go a first 0 0 (zp_n u.2.1) Go
      have hz : zs first 0 0 a (zp_n u.2.1) := hz
      exact zs_ob hz (Or.inr ⟨rfl, rfl⟩) (by omega) (zp_nf hfro hp rfl) (fun j => by rw [zv_eq o24, zv_eq hb24, zp_nc hfro hq24 rfl]) (fun j => by rw [zv_eq o25, zv_eq hb25, zp_nc hfro hq25 rfl]) hto hor
  · refine zp_load (pc := 10) hx hb (zd_X12_readPlain (10, .aload_n 0, 1, 0, []) (List.mem_of_getElem? (i := 4) rfl)) rfl (j := 0) rfl ?_
    refine zp_const (pc := 11) hx hb (zd_X12_readPlain (11, .bipush 28, 2, 0, []) (List.mem_of_getElem? (i := 5) rfl)) rfl rfl ?_
    refine zp_const (pc := 13) hx hb (zd_X12_readPlain (13, .iconst 0, 1, 0, []) (List.mem_of_getElem? (i := 6) rfl)) rfl rfl ?_
    refine zp_call (pc := 14) (how := 0) (idx := 307) (mi := 220) (S := []) hx hb hE hw heff hrm (zX_pu hW) rfl (j := 22) rfl rfl (by decide +kernel) (zd_X12_readPlain (14, .invokevirtual 307, 3, 0, []) (List.mem_of_getElem? (i := 7) rfl)) [(a : Int), 28, 0] rfl ⟨zp_o2 hp, zp_o0 (by decide) (by decide) (by decide) (by decide), zp_o0 (by decide) (by decide) (by decide) (by decide), trivial⟩ (Nat.le_of_ble_eq_true rfl) (show zp_n u.2.1 a 29 < 400 by omega) (fun al hal rnp Pp Gp hextp hfrp hokp hcsp hpsip => ?_)
    obtain rfl := List.mem_singleton.mp hal
    obtain ⟨rfl, hp1, hp2, hp3⟩ := hpsip
    have hp1 : Gp a 29 = zp_n u.2.1 a 29 + 1 := hp1
    have hp2 : ∀ j : Nat, zv Gp a 27 j = if j = (zp_n u.2.1 a 29).toNat then 28 else zv (zp_n u.2.1) a 27 j := hp2
    have hp3 : ∀ j : Nat, zv Gp a 28 j = if j = (zp_n u.2.1 a 29).toNat then 0 else zv (zp_n u.2.1) a 28 j := hp3
    have p13 : Gp a 13 = zp_n u.2.1 a 13 := zp_nf hfrp hp rfl
    have p14 : Gp a 14 = zp_n u.2.1 a 14 := zp_nf hfrp hp rfl
    have p15 : Gp a 15 = zp_n u.2.1 a 15 := zp_nf hfrp hp rfl
    have p16 : Gp a 16 = zp_n u.2.1 a 16 := zp_nf hfrp hp rfl
    have p19 : Gp a 19 = zp_n u.2.1 a 19 := zp_nf hfrp hp rfl
    have p24 : Gp a 24 = (b24 : Int) := (zp_nf hfrp hp rfl).trans hb24
    have p25 : Gp a 25 = (b25 : Int) := (zp_nf hfrp hp rfl).trans hb25
    have p27 : Gp a 27 = (b27 : Int) := (zp_nf hfrp hp rfl).trans hb27
    have p28 : Gp a 28 = (b28 : Int) := (zp_nf hfrp hp rfl).trans hb28
    refine zp_load (pc := 17) hx hb (zd_X12_readPlain (17, .aload_n 0, 1, 0, []) (List.mem_of_getElem? (i := 8) rfl)) rfl (j := 0) rfl ?_
    have hq15 : Gp a 15 = (zp_n u.2.1 a 15) := p15
    have hq13 : Gp a 13 = (zp_n u.2.1 a 13) := p13
    refine zp_call (pc := 18) (how := 0) (idx := 244) (mi := 212) (S := []) hx hb hE hw heff hrm (zX_nx hW) rfl (j := 14) rfl rfl (by decide +kernel) (zd_X12_readPlain (18, .invokevirtual 244, 3, 0, []) (List.mem_of_getElem? (i := 9) rfl)) [(a : Int)] rfl ⟨zp_o2 hp, trivial⟩ (Nat.le_of_ble_eq_true rfl) (show 0 ≤ Gp a 15 ∧ Gp a 15 ≤ Gp a 13 by omega) (fun al hal rnn Pn Gn hextn hfrn hokn hcsn hpsin => ?_)
    obtain rfl := List.mem_singleton.mp hal
    obtain ⟨rfl, hxn⟩ := hpsin
    have hxn : Gp a 15 ≤ Gn a 14 ∧ Gn a 14 ≤ Gn a 15 ∧ Gn a 15 ≤ Gp a 13 ∧ 0 ≤ Gn a 16 ∧ Gn a 16 ≤ 3 ∧ (Gn a 16 ≠ 0 → Gn a 14 < Gn a 15) := hxn
    have n13 : Gn a 13 = (zp_n u.2.1 a 13) := (zp_nf hfrn hp rfl).trans (p13)
    have n19 : Gn a 19 = (zp_n u.2.1 a 19) := (zp_nf hfrn hp rfl).trans (p19)
    have n24 : Gn a 24 = (b24 : Int) := (zp_nf hfrn hp rfl).trans p24
    have n25 : Gn a 25 = (b25 : Int) := (zp_nf hfrn hp rfl).trans p25
    have n27 : Gn a 27 = (b27 : Int) := (zp_nf hfrn hp rfl).trans p27
    have n28 : Gn a 28 = (b28 : Int) := (zp_nf hfrn hp rfl).trans p28
    refine zp_const (pc := 21) hx hb (zd_X12_readPlain (21, .iconst 0, 1, 0, []) (List.mem_of_getElem? (i := 10) rfl)) rfl rfl ?_
    refine zp_iret (pc := 22) (n := 0) hx hb hE hQ hU5 rfl (by decide) (zd_X12_readPlain (22, .ireturn, 1, 0, []) (List.mem_of_getElem? (i := 11) rfl)) (j := 0) rfl (zp_o0 (by omega) (by omega) (by omega) (by omega)) ?_
    rw [hps]
    refine ⟨rfl, Or.inl rfl, fun first hz => ⟨fun _ => ?_, fun z => absurd z (by decide), fun z => absurd z (by decide)⟩⟩
    have hle : zp_n u.2.1 a 14 + 1 ≤ Gn a 14 := by omega
    have q29 : Gn a 29 = Gp a 29 := zp_nf hfrn hp rfl
    have q23 : Gn a 23 = zp_n u.2.1 a 23 := (zp_nf hfrn hp rfl).trans (zp_nf hfrp hp rfl)
    have q19 : Gn a 19 = zp_n u.2.1 a 19 := (zp_nf hfrn hp rfl).trans p19
    have v24 : ∀ j, zv Gn a 24 j = zv (zp_n u.2.1) a 24 j := fun j => by rw [zv_eq n24, zv_eq hb24, zp_nc hfrn hq24 rfl, zp_nc hfrp hq24 rfl]
    have v25 : ∀ j, zv Gn a 25 j = zv (zp_n u.2.1) a 25 j := fun j => by rw [zv_eq n25, zv_eq hb25, zp_nc hfrn hq25 rfl, zp_nc hfrp hq25 rfl]
    have v27 : ∀ j, zv Gn a 27 j = zv Gp a 27 j := fun j => by rw [zv_eq n27, zv_eq p27, zp_nc hfrn hq27 rfl]
    have v28 : ∀ j, zv Gn a 28 j = zv Gp a 28 j := fun j => by rw [zv_eq n28, zv_eq p28, zp_nc hfrn hq28 rfl]
    have htn : zs_tk a Gn := by unfold zs_tk; have y13 : Gn a 13 = zp_n u.2.1 a 13 := (zp_nf hfrn hp rfl).trans p13; omega
    show zs_go a first 0 0 (zp_n u.2.1) Gn
    have hz : zs first 0 0 a (zp_n u.2.1) := hz
    obtain ⟨-, nc2, pd2, e1, e2, e3, e4⟩ := hz
    have l1 : ∀ i, i < pd2 → zv Gn a 27 i = zv (zp_n u.2.1) a 27 i := fun i hi => by rw [v27, hp2, e2, Int.toNat_natCast, if_neg (by omega)]
    have l2 : ∀ i, i < pd2 → zv Gn a 28 i = zv (zp_n u.2.1) a 28 i := fun i hi => by rw [v28, hp3, e2, Int.toNat_natCast, if_neg (by omega)]
    have l3 : zv Gn a 27 pd2 = 28 := by rw [v27, hp2, e2, Int.toNat_natCast, if_pos rfl]
    refine ⟨⟨htn, nc2, pd2 + 1, q23.trans e1, by rw [q29, hp1, e2]; rfl, zi_wk_push e3 hle l1 l2 (by omega) (by omega) (by omega), fun z => ?_⟩, fun q _ => ⟨v24 q, v25 q⟩, by omega, fun z => ⟨by omega, by omega⟩⟩
    obtain ⟨y1, y2, y3⟩ := e4 (by omega)
    exact ⟨zi_ns_sq (y2 rfl) l1, fun _ => zi_ns_push (y2 rfl) l1 (by omega), zi_wf_congr (zi_push (pl' := zv Gn a 27) (pa' := zv Gn a 28) y3 l1 l2 (by omega) (by rw [if_neg (by omega)])) (fun q _ => v24 q) (fun q _ => v25 q) (fun i _ => rfl) (fun i _ => rfl)⟩
