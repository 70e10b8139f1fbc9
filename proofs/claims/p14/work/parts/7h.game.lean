/-! part 7h: in once more, game: its number -/
noncomputable def zK_in2 : zk_K := (zt_mn 186, prog_14_method_3_code, 6, (Option.some Jvm.ClassFile.FieldType.boolean), 0, 12, [(1, 0, (-9223372036854775808), 9223372036854775807), (1, 0, (-9223372036854775808), 9223372036854775807), (1, 0, (-9223372036854775808), 9223372036854775807)], [(some (0, 0, 0, 1), [])], [], (0, 0, 0, 0))
noncomputable def zψ_in2 : (Nat → Option Nat) → (Nat → Nat → Int) → List Int → (Nat → Option Nat) → (Nat → Nat → Int) → Int → Prop := fun P G ps P' G' rn => P' = P ∧ G' = G ∧ (rn = 1 ↔ ps.getD 1 0 ≤ ps.getD 0 0 ∧ ps.getD 0 0 ≤ ps.getD 2 0)
theorem zX_in2 {l : Launch} {w : zk_W} (hW : zh_W w) : zk_metX l w zt_dv zt_TB zK_in2 (zp_A zp_tA) (zp_B zψ_in2) ∧ zk_cok w zt_TB zK_in2 := by
  refine zp_meth hW (pl := 1572) rfl (by decide +kernel) (fun p e R s m args below meth c Q u hx hb hE hQ hU5 heff hnL hok hφ => ?_)
  have hw := hW.1
  obtain ⟨p0, p1, p2, hps, k0, k1, k2⟩ := zp_ps3 hok
  rw [hps]
  show zp_J p l e R s m args below meth c Q w u [] 0 [(0, 1, p0), (2, 1, p1), (4, 1, p2)] [] u.1 (zp_n u.2.1)
  refine zp_load (pc := 0) hx hb (zd_X12_in (0, .lload_n 0, 1, 0, []) (List.mem_of_getElem? (i := 0) rfl)) rfl (j := 0) rfl ?_
  refine zp_load (pc := 1) hx hb (zd_X12_in (1, .lload_n 2, 1, 0, []) (List.mem_of_getElem? (i := 1) rfl)) rfl (j := 1) rfl ?_
  refine zp_lcmp (pc := 2) (tgt := 17) hx hb (zd_X12_in (2, .lcmp, 1, 0, []) (List.mem_of_getElem? (i := 2) rfl)) (zd_X12_in (3, .ifCond .lt 14, 3, 0, []) (List.mem_of_getElem? (i := 3) rfl)) rfl (fun (hc185 : p0 < p1) => ?_) (fun (hc185 : ¬ (p0 < p1)) => ?_)
  · refine zp_const (pc := 17) hx hb (zd_X12_in (17, .iconst 0, 1, 0, []) (List.mem_of_getElem? (i := 10) rfl)) rfl rfl ?_
    refine zp_zret (pc := 18) (n := 0) hx hb hE hQ hU5 rfl (by decide) (zd_X12_in (18, .ireturn, 1, 0, []) (List.mem_of_getElem? (i := 11) rfl)) (j := 0) rfl (zp_o0 (by omega) (by omega) (by omega) (by omega)) ?_
    rw [hps]
    refine ⟨rfl, rfl, ?_⟩
    show (0 = 1 ↔ p1 ≤ p0 ∧ p0 ≤ p2)
    omega
  · refine zp_load (pc := 6) hx hb (zd_X12_in (6, .lload_n 0, 1, 0, []) (List.mem_of_getElem? (i := 4) rfl)) rfl (j := 0) rfl ?_
    refine zp_load (pc := 7) hx hb (zd_X12_in (7, .lload 4, 2, 0, []) (List.mem_of_getElem? (i := 5) rfl)) rfl (j := 2) rfl ?_
    refine zp_lcmp (pc := 9) (tgt := 17) hx hb (zd_X12_in (9, .lcmp, 1, 0, []) (List.mem_of_getElem? (i := 6) rfl)) (zd_X12_in (10, .ifCond .gt 7, 3, 0, []) (List.mem_of_getElem? (i := 7) rfl)) rfl (fun (hc186 : p2 < p0) => ?_) (fun (hc186 : ¬ (p2 < p0)) => ?_)
    · refine zp_const (pc := 17) hx hb (zd_X12_in (17, .iconst 0, 1, 0, []) (List.mem_of_getElem? (i := 10) rfl)) rfl rfl ?_
      refine zp_zret (pc := 18) (n := 0) hx hb hE hQ hU5 rfl (by decide) (zd_X12_in (18, .ireturn, 1, 0, []) (List.mem_of_getElem? (i := 11) rfl)) (j := 0) rfl (zp_o0 (by omega) (by omega) (by omega) (by omega)) ?_
      rw [hps]
      refine ⟨rfl, rfl, ?_⟩
      show (0 = 1 ↔ p1 ≤ p0 ∧ p0 ≤ p2)
      omega
    · refine zp_const (pc := 13) hx hb (zd_X12_in (13, .iconst 1, 1, 0, []) (List.mem_of_getElem? (i := 8) rfl)) rfl rfl ?_
      refine zp_goto (tgt := 18) (pc := 14) hx hb (zd_X12_in (14, .goto 4, 3, 0, []) (List.mem_of_getElem? (i := 9) rfl)) rfl ?_
      refine zp_zret (pc := 18) (n := 1) hx hb hE hQ hU5 rfl (by decide) (zd_X12_in (18, .ireturn, 1, 0, []) (List.mem_of_getElem? (i := 11) rfl)) (j := 0) rfl (zp_o0 (by omega) (by omega) (by omega) (by omega)) ?_
      rw [hps]
      refine ⟨rfl, rfl, ?_⟩
      show (1 = 1 ↔ p1 ≤ p0 ∧ p0 ≤ p2)
      omega
noncomputable def zK_gm : zk_K := (zt_mn 274, prog_14_method_97_code, 4, (Option.some Jvm.ClassFile.FieldType.int), 1, 12, [(2, 13, 0, 0), (0, 0, (-2147483648), 2147483647)], [(some (0, 0, (-2147483648), 2147483647), [])], [(13, 0, 0), (89, 1001, 0)], (1, 40, 0, 0))
noncomputable def zψ_gm : (Nat → Option Nat) → (Nat → Nat → Int) → List Int → (Nat → Option Nat) → (Nat → Nat → Int) → Int → Prop := fun P G ps P' G' rn => P' = P ∧ rn = if 0 ≤ ps.getD 1 0 ∧ ps.getD 1 0 ≤ 12 then (12 - ps.getD 1 0) % 4 else -1
theorem zX_gm {l : Launch} {w : zk_W} (hW : zh_W w) : zk_metX l w zt_dv zt_TB zK_gm (zp_A zp_tA) (zp_B zψ_gm) ∧ zk_cok w zt_TB zK_gm := by
  refine zp_meth hW (pl := 1950) rfl (by decide +kernel) (fun p e R s m args below meth c Q u hx hb hE hQ hU5 heff hnL hok hφ => ?_)
  have hw := hW.1
  obtain ⟨p0, p1, hps, k0, k1⟩ := zp_ps2 hok
  obtain ⟨a, rfl, hp⟩ := zp_this k0
  have hrm : zk_Kr (zk_ev (zp_E zK_gm)) = zk_Kr zK_gm := rfl
  rw [hps] at hφ ⊢
  have hi1 := zp_int k1
  show zp_J p l e R s m args below meth c Q w u [] 0 [(0, 2, (a : Int)), (1, 0, p1)] [] u.1 (zp_n u.2.1)
  refine zp_kn (k := 55) (a := a) hw (show zp_fd 13 55 = some (12, 2, 89, 0, 0) from rfl) rfl hp (fun hk55 => ?_)
  obtain ⟨b55, hb55, hq55⟩ := zp_this hk55
  have outer : ∀ (n : Nat) (pl : Int) (Gp G : Nat → Nat → Int), (pl + 1).toNat < n → -1 ≤ pl → pl ≤ 12 → 0 ≤ p1 → p1 ≤ 12 → (∀ k, G a k = Gp a k) → Gp a 55 = (b55 : Int) → (∀ q : Nat, pl < (q : Int) → q ≤ 12 → G b55 (2000 + q) = (12 - (q : Int)) % 4) → zp_J p l e R s m args below meth c Q w u [] 22 [(2, 0, pl), (0, 2, (a : Int)), (1, 0, p1)] [] u.1 G := by
    intro n
    induction n with
    | zero => intro pl Gp G h; exact absurd h (Nat.not_lt_zero _)
    | succ n ih =>
      intro pl Gp G hn hp1_ hp2_ h10 h11 za z55 hd
      have inner : ∀ (m0 t pn : Nat) (Gp G : Nat → Nat → Int), t < m0 → t ≤ 3 → pn ≤ 12 → pl = (pn : Int) → 0 ≤ p1 → p1 ≤ 12 → (∀ k, G a k = Gp a k) → Gp a 55 = (b55 : Int) → (∀ q : Nat, pn < q → q ≤ 12 → G b55 (2000 + q) = (12 - (q : Int)) % 4) → G b55 (2000 + pn) = (if (12 - (pn : Int)) % 4 > (t : Int) then (12 - (pn : Int)) % 4 else 0) → zp_J p l e R s m args below meth c Q w u [] 35 [(3, 0, (t : Int)), (2, 0, (pn : Int)), (0, 2, (a : Int)), (1, 0, p1)] [] u.1 G := by
        intro m0
        induction m0 with
        | zero => intro t pn Gp G h; exact absurd h (Nat.not_lt_zero _)
        | succ m0 ihm =>
          intro t pn Gp G hm ht hpn hpe h10 h11 za z55 hd hv
          obtain ⟨xv, hxv⟩ : ∃ x : Int, G b55 (2000 + pn) = x := ⟨_, rfl⟩
          rw [hxv] at hv
          have hv2 : -2147483648 ≤ xv ∧ xv ≤ 2147483647 := by rw [hv]; split <;> omega
          have hsum : pn + t ≤ 12 → 1 ≤ t → G b55 (2000 + (pn + t)) = (12 - ((pn + t : Nat) : Int)) % 4 := fun z1 z2 => hd (pn + t) (by omega) z1
          refine zp_load (pc := 35) hx hb (zd_X12_game (35, .iload_n 3, 1, 0, []) (List.mem_of_getElem? (i := 22) rfl)) rfl (j := 0) rfl ?_
          refine zp_if (pc := 36) (tgt := 80) hx hb (zd_X12_game (36, .ifCond .le 44, 3, 0, []) (List.mem_of_getElem? (i := 23) rfl)) rfl (fun (hc187 : (t : Int) ≤ 0) => ?_) (fun (hc187 : ¬ ((t : Int) ≤ 0)) => ?_)
          · refine zp_iinc (L' := [(2, 0, ((pn : Int) - 1)), (3, 0, (t : Int)), (0, 2, (a : Int)), (1, 0, p1)]) (n := ((pn : Int) - 1)) (pc := 80) hx hb hnL (zd_X12_game (80, .iinc 2 (-1), 3, 0, []) (List.mem_of_getElem? (i := 48) rfl)) (j := 1) rfl (by omega) (zp_r0 (by omega) (by omega)) rfl rfl ?_
            refine zp_goto (tgt := 22) (pc := 83) hx hb (zd_X12_game (83, .goto (-61), 3, 0, []) (List.mem_of_getElem? (i := 49) rfl)) rfl ?_
            refine zp_drop (L' := [(2, 0, ((pn : Int) - 1)), (0, 2, (a : Int)), (1, 0, p1)]) (by simp) ?_
            have ht0 : t = 0 := by omega
            have hx0 : xv = (12 - (pn : Int)) % 4 := by rw [hv]; split <;> omega
            refine ih _ Gp G (by omega) (by omega) (by omega) h10 h11 za z55 (fun q h1 h2 => ?_)
            by_cases hqp : q = pn
            · rw [hqp, hxv, hx0]
            · exact hd q (by omega) h2
          · refine zp_load (pc := 39) hx hb (zd_X12_game (39, .aload_n 0, 1, 0, []) (List.mem_of_getElem? (i := 24) rfl)) rfl (j := 2) rfl ?_
            refine zp_getf (n := (b55 : Int)) (pc := 40) hx hb hE hw (zd_X12_game (40, .getfield 146, 3, 0, []) (List.mem_of_getElem? (i := 25) rfl)) (j := 73) rfl rfl rfl hp ((za 55).trans z55) ?_
            refine zp_load (pc := 43) hx hb (zd_X12_game (43, .iload_n 2, 1, 0, []) (List.mem_of_getElem? (i := 26) rfl)) rfl (j := 1) rfl ?_
            refine zp_load (pc := 44) hx hb (zd_X12_game (44, .iload_n 2, 1, 0, []) (List.mem_of_getElem? (i := 27) rfl)) rfl (j := 1) rfl ?_
            refine zp_load (pc := 45) hx hb (zd_X12_game (45, .iload_n 3, 1, 0, []) (List.mem_of_getElem? (i := 28) rfl)) rfl (j := 0) rfl ?_
            refine zp_add (n := ((pn : Int) + (t : Int))) (pc := 46) hx hb (zd_X12_game (46, .iadd, 1, 0, []) (List.mem_of_getElem? (i := 29) rfl)) (by omega) (zp_r0 (by omega) (by omega)) ?_
            refine zp_const (pc := 47) hx hb (zd_X12_game (47, .bipush 12, 2, 0, []) (List.mem_of_getElem? (i := 30) rfl)) rfl rfl ?_
            refine zp_icmp (pc := 49) (tgt := 67) hx hb (zd_X12_game (49, .if_icmp .gt 18, 3, 0, []) (List.mem_of_getElem? (i := 31) rfl)) rfl (fun (hc188 : 12 < ((pn : Int) + (t : Int))) => ?_) (fun (hc188 : ¬ (12 < ((pn : Int) + (t : Int)))) => ?_)
            · refine zp_load (pc := 67) hx hb (zd_X12_game (67, .aload_n 0, 1, 0, []) (List.mem_of_getElem? (i := 41) rfl)) rfl (j := 2) rfl ?_
              refine zp_getf (n := (b55 : Int)) (pc := 68) hx hb hE hw (zd_X12_game (68, .getfield 146, 3, 0, []) (List.mem_of_getElem? (i := 42) rfl)) (j := 73) rfl rfl rfl hp ((za 55).trans z55) ?_
              refine zp_load (pc := 71) hx hb (zd_X12_game (71, .iload_n 2, 1, 0, []) (List.mem_of_getElem? (i := 43) rfl)) rfl (j := 1) rfl ?_
              refine zp_iald (j := pn) (v := xv) (pc := 72) hx hb hw (zd_X12_game (72, .iaload, 1, 0, []) (List.mem_of_getElem? (i := 44) rfl)) (show zp_ia 1 89 = some (16, 0, 0, (-2147483648), 2147483647) from rfl) hq55 (by omega) (by omega) hxv (fun hk189 => ?_)
              have hk189b := zp_int hk189
              refine zp_iast (j := pn) (pc := 73) hx hb hw heff (zd_X12_game (73, .iastore, 1, 0, []) (List.mem_of_getElem? (i := 45) rfl)) (show zp_ia 1 89 = some (16, 0, 0, (-2147483648), 2147483647) from rfl) hq55 (by omega) (by omega) (zp_o0 (by omega) (by omega) (by omega) (by omega)) rfl ?_
              refine zp_iinc (L' := [(3, 0, ((t : Int) - 1)), (2, 0, (pn : Int)), (0, 2, (a : Int)), (1, 0, p1)]) (n := ((t : Int) - 1)) (pc := 74) hx hb hnL (zd_X12_game (74, .iinc 3 (-1), 3, 0, []) (List.mem_of_getElem? (i := 46) rfl)) (j := 0) rfl (by omega) (zp_r0 (by omega) (by omega)) rfl rfl ?_
              refine zp_goto (tgt := 35) (pc := 77) hx hb (zd_X12_game (77, .goto (-42), 3, 0, []) (List.mem_of_getElem? (i := 47) rfl)) rfl ?_
              have hcast : (t : Int) + -1 = ((t - 1 : Nat) : Int) := by omega
              refine (show ((t : Int) - 1) = ((t - 1 : Nat) : Int) by omega) ▸ ?_
              refine ihm (t - 1) pn Gp _ (by omega) (by omega) hpn hpe h10 h11 (fun k => (zp_set_ne (Or.inl (zp_pne hp hq55 (by decide)))).trans (za k)) z55 (fun q h1 h2 => (zp_set_ne (Or.inr (by omega))).trans (hd q h1 h2)) ?_
              rw [zp_set_eq rfl (by omega)]
              rw [hv]
              have hs := hsum
              split <;> (try split) <;> omega
            · refine zp_load (pc := 52) hx hb (zd_X12_game (52, .aload_n 0, 1, 0, []) (List.mem_of_getElem? (i := 32) rfl)) rfl (j := 2) rfl ?_
              refine zp_getf (n := (b55 : Int)) (pc := 53) hx hb hE hw (zd_X12_game (53, .getfield 146, 3, 0, []) (List.mem_of_getElem? (i := 33) rfl)) (j := 73) rfl rfl rfl hp ((za 55).trans z55) ?_
              refine zp_load (pc := 56) hx hb (zd_X12_game (56, .iload_n 2, 1, 0, []) (List.mem_of_getElem? (i := 34) rfl)) rfl (j := 1) rfl ?_
              refine zp_load (pc := 57) hx hb (zd_X12_game (57, .iload_n 3, 1, 0, []) (List.mem_of_getElem? (i := 35) rfl)) rfl (j := 0) rfl ?_
              refine zp_add (n := ((pn : Int) + (t : Int))) (pc := 58) hx hb (zd_X12_game (58, .iadd, 1, 0, []) (List.mem_of_getElem? (i := 36) rfl)) (by omega) (zp_r0 (by omega) (by omega)) ?_
              refine zp_iald (j := (pn + t)) (v := (G b55 (2000 + (pn + t)))) (pc := 59) hx hb hw (zd_X12_game (59, .iaload, 1, 0, []) (List.mem_of_getElem? (i := 37) rfl)) (show zp_ia 1 89 = some (16, 0, 0, (-2147483648), 2147483647) from rfl) hq55 (by omega) (by omega) rfl (fun hk190 => ?_)
              have hk190b := zp_int hk190
              refine zp_if (pc := 60) (tgt := 67) hx hb (zd_X12_game (60, .ifCond .ne 7, 3, 0, []) (List.mem_of_getElem? (i := 38) rfl)) rfl (fun (hc191 : ¬ (G b55 (2000 + (pn + t))) = 0) => ?_) (fun (hc191 : ¬ (¬ (G b55 (2000 + (pn + t))) = 0)) => ?_)
              · refine zp_load (pc := 67) hx hb (zd_X12_game (67, .aload_n 0, 1, 0, []) (List.mem_of_getElem? (i := 41) rfl)) rfl (j := 2) rfl ?_
                refine zp_getf (n := (b55 : Int)) (pc := 68) hx hb hE hw (zd_X12_game (68, .getfield 146, 3, 0, []) (List.mem_of_getElem? (i := 42) rfl)) (j := 73) rfl rfl rfl hp ((za 55).trans z55) ?_
                refine zp_load (pc := 71) hx hb (zd_X12_game (71, .iload_n 2, 1, 0, []) (List.mem_of_getElem? (i := 43) rfl)) rfl (j := 1) rfl ?_
                refine zp_iald (j := pn) (v := xv) (pc := 72) hx hb hw (zd_X12_game (72, .iaload, 1, 0, []) (List.mem_of_getElem? (i := 44) rfl)) (show zp_ia 1 89 = some (16, 0, 0, (-2147483648), 2147483647) from rfl) hq55 (by omega) (by omega) hxv (fun hk192 => ?_)
                have hk192b := zp_int hk192
                refine zp_iast (j := pn) (pc := 73) hx hb hw heff (zd_X12_game (73, .iastore, 1, 0, []) (List.mem_of_getElem? (i := 45) rfl)) (show zp_ia 1 89 = some (16, 0, 0, (-2147483648), 2147483647) from rfl) hq55 (by omega) (by omega) (zp_o0 (by omega) (by omega) (by omega) (by omega)) rfl ?_
                refine zp_iinc (L' := [(3, 0, ((t : Int) - 1)), (2, 0, (pn : Int)), (0, 2, (a : Int)), (1, 0, p1)]) (n := ((t : Int) - 1)) (pc := 74) hx hb hnL (zd_X12_game (74, .iinc 3 (-1), 3, 0, []) (List.mem_of_getElem? (i := 46) rfl)) (j := 0) rfl (by omega) (zp_r0 (by omega) (by omega)) rfl rfl ?_
                refine zp_goto (tgt := 35) (pc := 77) hx hb (zd_X12_game (77, .goto (-42), 3, 0, []) (List.mem_of_getElem? (i := 47) rfl)) rfl ?_
                have hcast : (t : Int) + -1 = ((t - 1 : Nat) : Int) := by omega
                refine (show ((t : Int) - 1) = ((t - 1 : Nat) : Int) by omega) ▸ ?_
                refine ihm (t - 1) pn Gp _ (by omega) (by omega) hpn hpe h10 h11 (fun k => (zp_set_ne (Or.inl (zp_pne hp hq55 (by decide)))).trans (za k)) z55 (fun q h1 h2 => (zp_set_ne (Or.inr (by omega))).trans (hd q h1 h2)) ?_
                rw [zp_set_eq rfl (by omega)]
                rw [hv]
                have hs := hsum
                split <;> (try split) <;> omega
              · refine zp_load (pc := 63) hx hb (zd_X12_game (63, .iload_n 3, 1, 0, []) (List.mem_of_getElem? (i := 39) rfl)) rfl (j := 0) rfl ?_
                refine zp_goto (tgt := 73) (pc := 64) hx hb (zd_X12_game (64, .goto 9, 3, 0, []) (List.mem_of_getElem? (i := 40) rfl)) rfl ?_
                refine zp_iast (j := pn) (pc := 73) hx hb hw heff (zd_X12_game (73, .iastore, 1, 0, []) (List.mem_of_getElem? (i := 45) rfl)) (show zp_ia 1 89 = some (16, 0, 0, (-2147483648), 2147483647) from rfl) hq55 (by omega) (by omega) (zp_o0 (by omega) (by omega) (by omega) (by omega)) rfl ?_
                refine zp_iinc (L' := [(3, 0, ((t : Int) - 1)), (2, 0, (pn : Int)), (0, 2, (a : Int)), (1, 0, p1)]) (n := ((t : Int) - 1)) (pc := 74) hx hb hnL (zd_X12_game (74, .iinc 3 (-1), 3, 0, []) (List.mem_of_getElem? (i := 46) rfl)) (j := 0) rfl (by omega) (zp_r0 (by omega) (by omega)) rfl rfl ?_
                refine zp_goto (tgt := 35) (pc := 77) hx hb (zd_X12_game (77, .goto (-42), 3, 0, []) (List.mem_of_getElem? (i := 47) rfl)) rfl ?_
                have hcast : (t : Int) + -1 = ((t - 1 : Nat) : Int) := by omega
                refine (show ((t : Int) - 1) = ((t - 1 : Nat) : Int) by omega) ▸ ?_
                refine ihm (t - 1) pn Gp _ (by omega) (by omega) hpn hpe h10 h11 (fun k => (zp_set_ne (Or.inl (zp_pne hp hq55 (by decide)))).trans (za k)) z55 (fun q h1 h2 => (zp_set_ne (Or.inr (by omega))).trans (hd q h1 h2)) ?_
                rw [zp_set_eq rfl (by omega)]
                have hs := hsum
                split <;> (try split) <;> omega
      refine zp_load (pc := 22) hx hb (zd_X12_game (22, .iload_n 2, 1, 0, []) (List.mem_of_getElem? (i := 13) rfl)) rfl (j := 0) rfl ?_
      refine zp_if (pc := 23) (tgt := 86) hx hb (zd_X12_game (23, .ifCond .lt 63, 3, 0, []) (List.mem_of_getElem? (i := 14) rfl)) rfl (fun (hc193 : pl < 0) => ?_) (fun (hc193 : ¬ (pl < 0)) => ?_)
      · obtain ⟨pq, hpq⟩ := zp_nat h10
        subst hpq
        have hr : G b55 (2000 + pq) = (12 - (pq : Int)) % 4 := hd pq (by omega) (by omega)
        have hr2 : -2147483648 ≤ (12 - (pq : Int)) % 4 ∧ (12 - (pq : Int)) % 4 ≤ 2147483647 := by omega
        refine zp_load (pc := 86) hx hb (zd_X12_game (86, .aload_n 0, 1, 0, []) (List.mem_of_getElem? (i := 50) rfl)) rfl (j := 1) rfl ?_
        refine zp_getf (n := (b55 : Int)) (pc := 87) hx hb hE hw (zd_X12_game (87, .getfield 146, 3, 0, []) (List.mem_of_getElem? (i := 51) rfl)) (j := 73) rfl rfl rfl hp ((za 55).trans z55) ?_
        refine zp_load (pc := 90) hx hb (zd_X12_game (90, .iload_n 1, 1, 0, []) (List.mem_of_getElem? (i := 52) rfl)) rfl (j := 2) rfl ?_
        refine zp_iald (j := pq) (v := ((12 - (pq : Int)) % 4)) (pc := 91) hx hb hw (zd_X12_game (91, .iaload, 1, 0, []) (List.mem_of_getElem? (i := 53) rfl)) (show zp_ia 1 89 = some (16, 0, 0, (-2147483648), 2147483647) from rfl) hq55 (by omega) (by omega) hr (fun hk194 => ?_)
        have hk194b := zp_int hk194
        refine zp_iret (pc := 92) (n := ((12 - (pq : Int)) % 4)) hx hb hE hQ hU5 rfl (by decide) (zd_X12_game (92, .ireturn, 1, 0, []) (List.mem_of_getElem? (i := 54) rfl)) (j := 0) rfl (zp_o0 (by omega) (by omega) (by omega) (by omega)) ?_
        rw [hps]
        refine ⟨rfl, ?_⟩
        show (12 - (pq : Int)) % 4 = if 0 ≤ (pq : Int) ∧ (pq : Int) ≤ 12 then (12 - (pq : Int)) % 4 else -1
        rw [if_pos ⟨by omega, by omega⟩]
      · obtain ⟨pn, hpn⟩ := zp_nat (n := pl) (by omega)
        subst hpn
        refine zp_load (pc := 26) hx hb (zd_X12_game (26, .aload_n 0, 1, 0, []) (List.mem_of_getElem? (i := 15) rfl)) rfl (j := 1) rfl ?_
        refine zp_getf (n := (b55 : Int)) (pc := 27) hx hb hE hw (zd_X12_game (27, .getfield 146, 3, 0, []) (List.mem_of_getElem? (i := 16) rfl)) (j := 73) rfl rfl rfl hp ((za 55).trans z55) ?_
        refine zp_load (pc := 30) hx hb (zd_X12_game (30, .iload_n 2, 1, 0, []) (List.mem_of_getElem? (i := 17) rfl)) rfl (j := 0) rfl ?_
        refine zp_const (pc := 31) hx hb (zd_X12_game (31, .iconst 0, 1, 0, []) (List.mem_of_getElem? (i := 18) rfl)) rfl rfl ?_
        refine zp_iast (j := pn) (pc := 32) hx hb hw heff (zd_X12_game (32, .iastore, 1, 0, []) (List.mem_of_getElem? (i := 19) rfl)) (show zp_ia 1 89 = some (16, 0, 0, (-2147483648), 2147483647) from rfl) hq55 (by omega) (by omega) (zp_o0 (by omega) (by omega) (by omega) (by omega)) rfl ?_
        refine zp_const (pc := 33) hx hb (zd_X12_game (33, .iconst 3, 1, 0, []) (List.mem_of_getElem? (i := 20) rfl)) rfl rfl ?_
        refine zp_store (L' := [(3, 0, 3), (2, 0, (pn : Int)), (0, 2, (a : Int)), (1, 0, p1)]) (pc := 34) hx hb hnL (zd_X12_game (34, .istore_n 3, 1, 0, []) (List.mem_of_getElem? (i := 21) rfl)) rfl rfl rfl ?_
        refine zp_drop (L' := [(3, 0, ((3 : Nat) : Int)), (2, 0, (pn : Int)), (0, 2, (a : Int)), (1, 0, p1)]) (by simp) ?_
        refine inner 4 3 pn Gp _ (by omega) (by omega) (by omega) rfl h10 h11 (fun k => (zp_set_ne (Or.inl (zp_pne hp hq55 (by decide)))).trans (za k)) z55 (fun q h1 h2 => (zp_set_ne (Or.inr (by omega))).trans (hd q (by omega) h2)) ?_
        rw [zp_set_eq rfl rfl]
        split <;> omega
  refine zp_load (pc := 0) hx hb (zd_X12_game (0, .aload_n 0, 1, 0, []) (List.mem_of_getElem? (i := 0) rfl)) rfl (j := 0) rfl ?_
  refine zp_const (pc := 1) hx hb (zd_X12_game (1, .iconst 0, 1, 0, []) (List.mem_of_getElem? (i := 1) rfl)) rfl rfl ?_
  refine zp_putf (pc := 2) hx hb hE hw heff (zd_X12_game (2, .putfield 161, 3, 0, []) (List.mem_of_getElem? (i := 2) rfl)) (j := 18) rfl rfl rfl hp (zp_o0 (by decide) (by decide) (by decide) (by decide)) ?_
  refine zp_load (pc := 5) hx hb (zd_X12_game (5, .iload_n 1, 1, 0, []) (List.mem_of_getElem? (i := 3) rfl)) rfl (j := 1) rfl ?_
  refine zp_i2l (pc := 6) hx hb (zd_X12_game (6, .i2l, 1, 0, []) (List.mem_of_getElem? (i := 4) rfl)) ?_
  refine zp_const (pc := 7) hx hb (zd_X12_game (7, .lconst 0, 1, 0, []) (List.mem_of_getElem? (i := 5) rfl)) rfl rfl ?_
  refine zp_ldc2 (pc := 8) hx hb hE (zd_X12_game (8, .ldc2_w 431, 3, 0, []) (List.mem_of_getElem? (i := 6) rfl)) (j := 105) rfl ?_
  refine zp_call (pc := 11) (how := 1) (idx := 181) (mi := 186) (S := []) hx hb hE hw heff hrm (zX_in2 hW) rfl (j := 2) rfl rfl (by decide +kernel) (zd_X12_game (11, .invokestatic 181, 3, 0, []) (List.mem_of_getElem? (i := 7) rfl)) [p1, 0, 12] rfl ⟨zp_o1 (zp_r1 (by omega) (by omega)), zp_o1 ⟨by decide, by decide⟩, zp_o1 ⟨by decide, by decide⟩, trivial⟩ (Nat.le_of_ble_eq_true rfl) trivial (fun al hal rni Pi Gi hexti hfri hoki hcsi hpsii => ?_)
  obtain rfl := List.mem_singleton.mp hal
  have hri := zp_int (hoki _ rfl).1
  obtain ⟨hPei, hGei, hti⟩ := hpsii
  rw [hPei, hGei]
  have hti : rni = 1 ↔ 0 ≤ p1 ∧ p1 ≤ 12 := hti
  refine zp_if (pc := 14) (tgt := 19) hx hb (zd_X12_game (14, .ifCond .ne 5, 3, 0, []) (List.mem_of_getElem? (i := 8) rfl)) rfl (fun (hc195 : ¬ rni = 0) => ?_) (fun (hc195 : ¬ (¬ rni = 0)) => ?_)
  · refine zp_const (pc := 19) hx hb (zd_X12_game (19, .bipush 12, 2, 0, []) (List.mem_of_getElem? (i := 11) rfl)) rfl rfl ?_
    refine zp_store (L' := [(2, 0, 12), (0, 2, (a : Int)), (1, 0, p1)]) (pc := 21) hx hb hnL (zd_X12_game (21, .istore_n 2, 1, 0, []) (List.mem_of_getElem? (i := 12) rfl)) rfl rfl rfl ?_
    exact outer 14 12 _ _ (by decide) (by decide) (by decide) (by omega) (by omega) (fun _ => rfl) (((zp_set_ne (Or.inr (by decide))).trans (hb55))) (fun q h1 h2 => absurd h1 (by omega))
  · refine zp_const (pc := 17) hx hb (zd_X12_game (17, .iconst (-1), 1, 0, []) (List.mem_of_getElem? (i := 9) rfl)) rfl rfl ?_
    refine zp_iret (pc := 18) (n := (-1)) hx hb hE hQ hU5 rfl (by decide) (zd_X12_game (18, .ireturn, 1, 0, []) (List.mem_of_getElem? (i := 10) rfl)) (j := 0) rfl (zp_o0 (by omega) (by omega) (by omega) (by omega)) ?_
    rw [hps]
    refine ⟨rfl, ?_⟩
    show -1 = if 0 ≤ p1 ∧ p1 ≤ 12 then (12 - p1) % 4 else -1
    rw [if_neg (by omega)]
