/-! part 7e: isFresh, weighOrder, orderly -/
/-- what holds while an order is weighed -/
noncomputable def wo_I (a b48 b52 n : Nat) (P : Nat → Option Nat) (G : Nat → Nat → Int) : Prop := P a = some 13 ∧ P b48 = some 84 ∧ P b52 = some 87 ∧ G a 48 = (b48 : Int) ∧ G a 52 = (b52 : Int) ∧ G a 49 = (n : Int)
theorem wo_fr {eff : List (Nat × Nat × Nat)} {ps : List Int} {a b48 b52 n : Nat} {P P' : Nat → Option Nat} {G G' : Nat → Nat → Int} (h : wo_I a b48 b52 n P G) (hx : ∀ b t, P b = some t → P' b = some t) (hfr : zp_fr eff ps P G G') (he : (zp_nfb eff 13 48 && (zp_nfb eff 13 52 && zp_nfb eff 13 49)) = true) : wo_I a b48 b52 n P' G' := by
  simp only [Bool.and_eq_true] at he
  obtain ⟨h1, h2, h3, h4, h5, h6⟩ := h
  exact ⟨hx _ _ h1, hx _ _ h2, hx _ _ h3, (zp_nf hfr h1 he.1).trans h4, (zp_nf hfr h1 he.2.1).trans h5, (zp_nf hfr h1 he.2.2).trans h6⟩
theorem wo_set {a b48 b52 n b t k : Nat} {v : Int} {P : Nat → Option Nat} {G : Nat → Nat → Int} (h : wo_I a b48 b52 n P G) (hb : P b = some t) (he : (t != 13 || (k != 48 && (k != 49 && k != 52))) = true) : wo_I a b48 b52 n P (zp_set G b k v) := by
  obtain ⟨h1, h2, h3, h4, h5, h6⟩ := h
  simp only [Bool.and_eq_true, Bool.or_eq_true, bne_iff_ne] at he
  have ne : ∀ j, j = 48 ∨ j = 49 ∨ j = 52 → zp_set G b k v a j = G a j := fun j hj => zp_set_ne (by
    by_cases e : t = 13
    · rcases he with he | he
      · exact absurd e he
      · exact Or.inr (by omega)
    · exact Or.inl (zp_pne h1 hb (fun z => e z.symm)))
  exact ⟨h1, h2, h3, (ne 48 (by omega)).trans h4, (ne 52 (by omega)).trans h5, (ne 49 (by omega)).trans h6⟩
noncomputable def zK_if : zk_K := (zt_mn 260, prog_14_method_84_code, 4, (Option.some Jvm.ClassFile.FieldType.boolean), 1, 12, [(2, 13, 0, 0), (0, 0, 0, 6)], [(some (0, 0, 0, 1), [])], [], (0, 0, 0, 0))
noncomputable def zψ_if : (Nat → Option Nat) → (Nat → Nat → Int) → List Int → (Nat → Option Nat) → (Nat → Nat → Int) → Int → Prop := fun P G ps P' G' rn => P' = P ∧ G' = G ∧ True
theorem zX_if {l : Launch} {w : zk_W} (hW : zh_W w) : zk_metX l w zt_dv zt_TB zK_if (zp_A zp_tA) (zp_B zψ_if) ∧ zk_cok w zt_TB zK_if := by
  refine zp_meth hW (pl := 1892) rfl (by decide +kernel) (fun p e R s m args below meth c Q u hx hb hE hQ hU5 heff hnL hok hφ => ?_)
  have hw := hW.1
  obtain ⟨p0, p1, hps, k0, k1⟩ := zp_ps2 hok
  obtain ⟨a, rfl, hp⟩ := zp_this k0
  have hrm : zk_Kr (zk_ev (zp_E zK_if)) = zk_Kr zK_if := rfl
  rw [hps] at hφ ⊢
  have hi1 := zp_int k1
  show zp_J p l e R s m args below meth c Q w u [] 0 [(0, 2, (a : Int)), (1, 0, p1)] [] u.1 (zp_n u.2.1)
  refine zp_kn (k := 51) (a := a) hw (show zp_fd 13 51 = some (12, 2, 86, 0, 0) from rfl) rfl hp (fun hk51 => ?_)
  obtain ⟨b51, hb51, hq51⟩ := zp_this hk51
  obtain ⟨q0, rfl⟩ := zp_nat hi1.1
  have loop : ∀ (n k : Nat) (b : Int), q0 - k < n → k ≤ q0 → 0 ≤ b → b ≤ 1 → zp_J p l e R s m args below meth c Q w u [] 4 [(3, 0, (k : Int)), (2, 0, b), (0, 2, (a : Int)), (1, 0, (q0 : Int))] [] u.1 (zp_n u.2.1) := by
    intro n
    induction n with
    | zero => intro k b h; exact absurd h (Nat.not_lt_zero _)
    | succ n ih =>
      intro k b hn hk hb0 hb1
      refine zp_load (pc := 4) hx hb (zd_X12_isFresh (4, .iload_n 3, 1, 0, []) (List.mem_of_getElem? (i := 4) rfl)) rfl (j := 0) rfl ?_
      refine zp_load (pc := 5) hx hb (zd_X12_isFresh (5, .iload_n 1, 1, 0, []) (List.mem_of_getElem? (i := 5) rfl)) rfl (j := 3) rfl ?_
      refine zp_icmp (pc := 6) (tgt := 40) hx hb (zd_X12_isFresh (6, .if_icmp .ge 34, 3, 0, []) (List.mem_of_getElem? (i := 6) rfl)) rfl (fun (hc197 : (q0 : Int) ≤ (k : Int)) => ?_) (fun (hc197 : ¬ ((q0 : Int) ≤ (k : Int))) => ?_)
      · refine zp_load (pc := 40) hx hb (zd_X12_isFresh (40, .iload_n 2, 1, 0, []) (List.mem_of_getElem? (i := 24) rfl)) rfl (j := 1) rfl ?_
        refine zp_zret (pc := 41) (n := b) hx hb hE hQ hU5 rfl (by decide) (zd_X12_isFresh (41, .ireturn, 1, 0, []) (List.mem_of_getElem? (i := 25) rfl)) (j := 0) rfl (zp_o0 (by omega) (by omega) (by omega) (by omega)) ?_
        rw [hps]
        exact ⟨rfl, rfl, trivial⟩
      · refine zp_load (pc := 9) hx hb (zd_X12_isFresh (9, .iload_n 2, 1, 0, []) (List.mem_of_getElem? (i := 7) rfl)) rfl (j := 1) rfl ?_
        refine zp_if (pc := 10) (tgt := 32) hx hb (zd_X12_isFresh (10, .ifCond .eq 22, 3, 0, []) (List.mem_of_getElem? (i := 8) rfl)) rfl (fun (hc198 : b = 0) => ?_) (fun (hc198 : ¬ (b = 0)) => ?_)
        · refine zp_const (pc := 32) hx hb (zd_X12_isFresh (32, .iconst 0, 1, 0, []) (List.mem_of_getElem? (i := 20) rfl)) rfl rfl ?_
          refine zp_store (L' := [(2, 0, 0), (3, 0, (k : Int)), (0, 2, (a : Int)), (1, 0, (q0 : Int))]) (pc := 33) hx hb hnL (zd_X12_isFresh (33, .istore_n 2, 1, 0, []) (List.mem_of_getElem? (i := 21) rfl)) rfl rfl rfl ?_
          refine zp_iinc (L' := [(3, 0, ((k : Int) + 1)), (2, 0, 0), (0, 2, (a : Int)), (1, 0, (q0 : Int))]) (n := ((k : Int) + 1)) (pc := 34) hx hb hnL (zd_X12_isFresh (34, .iinc 3 1, 3, 0, []) (List.mem_of_getElem? (i := 22) rfl)) (j := 1) rfl (by omega) (zp_r0 (by omega) (by omega)) rfl rfl ?_
          refine zp_goto (tgt := 4) (pc := 37) hx hb (zd_X12_isFresh (37, .goto (-33), 3, 0, []) (List.mem_of_getElem? (i := 23) rfl)) rfl ?_
          refine zp_drop (L' := [(3, 0, ((k : Int) + 1)), (2, 0, 0), (0, 2, (a : Int)), (1, 0, (q0 : Int))]) (by simp) ?_
          exact ih (k + 1) 0 (by omega) (by omega) (by omega) (by omega)
        · refine zp_load (pc := 13) hx hb (zd_X12_isFresh (13, .aload_n 0, 1, 0, []) (List.mem_of_getElem? (i := 9) rfl)) rfl (j := 2) rfl ?_
          refine zp_getf (n := (b51 : Int)) (pc := 14) hx hb hE hw (zd_X12_isFresh (14, .getfield 137, 3, 0, []) (List.mem_of_getElem? (i := 10) rfl)) (j := 69) rfl rfl rfl hp hb51 ?_
          refine zp_load (pc := 17) hx hb (zd_X12_isFresh (17, .iload_n 3, 1, 0, []) (List.mem_of_getElem? (i := 11) rfl)) rfl (j := 0) rfl ?_
          refine zp_iald (j := k) (v := ((zp_n u.2.1) b51 (2000 + k))) (pc := 18) hx hb hw (zd_X12_isFresh (18, .iaload, 1, 0, []) (List.mem_of_getElem? (i := 12) rfl)) (show zp_ia 1 86 = some (7, 0, 0, (-1), 7) from rfl) hq51 (by omega) (by omega) rfl (fun hk199 => ?_)
          have hk199b := zp_int hk199
          refine zp_load (pc := 19) hx hb (zd_X12_isFresh (19, .aload_n 0, 1, 0, []) (List.mem_of_getElem? (i := 13) rfl)) rfl (j := 2) rfl ?_
          refine zp_getf (n := (b51 : Int)) (pc := 20) hx hb hE hw (zd_X12_isFresh (20, .getfield 137, 3, 0, []) (List.mem_of_getElem? (i := 14) rfl)) (j := 69) rfl rfl rfl hp hb51 ?_
          refine zp_load (pc := 23) hx hb (zd_X12_isFresh (23, .iload_n 1, 1, 0, []) (List.mem_of_getElem? (i := 15) rfl)) rfl (j := 3) rfl ?_
          refine zp_iald (j := q0) (v := ((zp_n u.2.1) b51 (2000 + q0))) (pc := 24) hx hb hw (zd_X12_isFresh (24, .iaload, 1, 0, []) (List.mem_of_getElem? (i := 16) rfl)) (show zp_ia 1 86 = some (7, 0, 0, (-1), 7) from rfl) hq51 (by omega) (by omega) rfl (fun hk200 => ?_)
          have hk200b := zp_int hk200
          refine zp_icmp (pc := 25) (tgt := 32) hx hb (zd_X12_isFresh (25, .if_icmp .eq 7, 3, 0, []) (List.mem_of_getElem? (i := 17) rfl)) rfl (fun (hc201 : ((zp_n u.2.1) b51 (2000 + k)) = ((zp_n u.2.1) b51 (2000 + q0))) => ?_) (fun (hc201 : ¬ (((zp_n u.2.1) b51 (2000 + k)) = ((zp_n u.2.1) b51 (2000 + q0)))) => ?_)
          · refine zp_const (pc := 32) hx hb (zd_X12_isFresh (32, .iconst 0, 1, 0, []) (List.mem_of_getElem? (i := 20) rfl)) rfl rfl ?_
            refine zp_store (L' := [(2, 0, 0), (3, 0, (k : Int)), (0, 2, (a : Int)), (1, 0, (q0 : Int))]) (pc := 33) hx hb hnL (zd_X12_isFresh (33, .istore_n 2, 1, 0, []) (List.mem_of_getElem? (i := 21) rfl)) rfl rfl rfl ?_
            refine zp_iinc (L' := [(3, 0, ((k : Int) + 1)), (2, 0, 0), (0, 2, (a : Int)), (1, 0, (q0 : Int))]) (n := ((k : Int) + 1)) (pc := 34) hx hb hnL (zd_X12_isFresh (34, .iinc 3 1, 3, 0, []) (List.mem_of_getElem? (i := 22) rfl)) (j := 1) rfl (by omega) (zp_r0 (by omega) (by omega)) rfl rfl ?_
            refine zp_goto (tgt := 4) (pc := 37) hx hb (zd_X12_isFresh (37, .goto (-33), 3, 0, []) (List.mem_of_getElem? (i := 23) rfl)) rfl ?_
            refine zp_drop (L' := [(3, 0, ((k : Int) + 1)), (2, 0, 0), (0, 2, (a : Int)), (1, 0, (q0 : Int))]) (by simp) ?_
            exact ih (k + 1) 0 (by omega) (by omega) (by omega) (by omega)
          · refine zp_const (pc := 28) hx hb (zd_X12_isFresh (28, .iconst 1, 1, 0, []) (List.mem_of_getElem? (i := 18) rfl)) rfl rfl ?_
            refine zp_goto (tgt := 33) (pc := 29) hx hb (zd_X12_isFresh (29, .goto 4, 3, 0, []) (List.mem_of_getElem? (i := 19) rfl)) rfl ?_
            refine zp_store (L' := [(2, 0, 1), (3, 0, (k : Int)), (0, 2, (a : Int)), (1, 0, (q0 : Int))]) (pc := 33) hx hb hnL (zd_X12_isFresh (33, .istore_n 2, 1, 0, []) (List.mem_of_getElem? (i := 21) rfl)) rfl rfl rfl ?_
            refine zp_iinc (L' := [(3, 0, ((k : Int) + 1)), (2, 0, 1), (0, 2, (a : Int)), (1, 0, (q0 : Int))]) (n := ((k : Int) + 1)) (pc := 34) hx hb hnL (zd_X12_isFresh (34, .iinc 3 1, 3, 0, []) (List.mem_of_getElem? (i := 22) rfl)) (j := 1) rfl (by omega) (zp_r0 (by omega) (by omega)) rfl rfl ?_
            refine zp_goto (tgt := 4) (pc := 37) hx hb (zd_X12_isFresh (37, .goto (-33), 3, 0, []) (List.mem_of_getElem? (i := 23) rfl)) rfl ?_
            refine zp_drop (L' := [(3, 0, ((k : Int) + 1)), (2, 0, 1), (0, 2, (a : Int)), (1, 0, (q0 : Int))]) (by simp) ?_
            exact ih (k + 1) 1 (by omega) (by omega) (by omega) (by omega)
  refine zp_const (pc := 0) hx hb (zd_X12_isFresh (0, .iconst 1, 1, 0, []) (List.mem_of_getElem? (i := 0) rfl)) rfl rfl ?_
  refine zp_store (L' := [(2, 0, 1), (0, 2, (a : Int)), (1, 0, (q0 : Int))]) (pc := 1) hx hb hnL (zd_X12_isFresh (1, .istore_n 2, 1, 0, []) (List.mem_of_getElem? (i := 1) rfl)) rfl rfl rfl ?_
  refine zp_const (pc := 2) hx hb (zd_X12_isFresh (2, .iconst 0, 1, 0, []) (List.mem_of_getElem? (i := 2) rfl)) rfl rfl ?_
  refine zp_store (L' := [(3, 0, 0), (2, 0, 1), (0, 2, (a : Int)), (1, 0, (q0 : Int))]) (pc := 3) hx hb hnL (zd_X12_isFresh (3, .istore_n 3, 1, 0, []) (List.mem_of_getElem? (i := 3) rfl)) rfl rfl rfl ?_
  refine zp_drop (L' := [(3, 0, ((0 : Nat) : Int)), (2, 0, 1), (0, 2, (a : Int)), (1, 0, (q0 : Int))]) (by simp) ?_
  exact loop (q0 + 1) 0 1 (by omega) (by omega) (by decide) (by decide)
noncomputable def zK_wg : zk_K := (zt_mn 261, prog_14_method_85_code, 4, (Option.none : Option Jvm.ClassFile.FieldType), 1, 12, [(2, 13, 0, 0), (0, 0, (-2147483648), 2147483647)], [(none, [])], [(81, 1002, 0), (82, 1002, 0), (78, 1002, 0), (75, 1002, 0), (13, 34, 0), (13, 40, 0), (13, 38, 0), (13, 39, 0), (77, 1001, 0), (79, 1002, 0), (83, 1002, 0), (80, 1002, 0), (80, 1001, 0), (84, 1001, 0), (87, 1001, 0), (13, 53, 0)], (24, 1080, 0, 0))
noncomputable def zφ_wg : (Nat → Option Nat) → (Nat → Nat → Int) → List Int → Prop := fun _ G ps => ∃ n : Nat, n ≤ 6 ∧ G (zp_0 ps) 49 = (n : Int) ∧ ∀ k : Nat, k < n → 0 ≤ zv G (zp_0 ps) 51 k ∧ 0 ≤ zv G (zp_0 ps) 50 (zv G (zp_0 ps) 51 k).toNat ∧ zv G (zp_0 ps) 50 (zv G (zp_0 ps) 51 k).toNat ≤ 9
noncomputable def zψ_wg : (Nat → Option Nat) → (Nat → Nat → Int) → List Int → (Nat → Option Nat) → (Nat → Nat → Int) → Int → Prop := fun P G ps P' G' rn => True
theorem zX_wg {l : Launch} {w : zk_W} (hW : zh_W w) : zk_metX l w zt_dv zt_TB zK_wg (zp_A zφ_wg) (zp_B zψ_wg) ∧ zk_cok w zt_TB zK_wg := by
  refine zp_meth hW (pl := 1896) rfl (by decide +kernel) (fun p e R s m args below meth c Q u hx hb hE hQ hU5 heff hnL hok hφ => ?_)
  have hw := hW.1
  obtain ⟨p0, p1, hps, k0, k1⟩ := zp_ps2 hok
  obtain ⟨a, rfl, hp⟩ := zp_this k0
  have hrm : zk_Kr (zk_ev (zp_E zK_wg)) = zk_Kr zK_wg := rfl
  rw [hps] at hφ ⊢
  have hi1 := zp_int k1
  have hφ : ∃ n : Nat, n ≤ 6 ∧ zp_n u.2.1 a 49 = (n : Int) ∧ ∀ k : Nat, k < n → 0 ≤ zv (zp_n u.2.1) a 51 k ∧ 0 ≤ zv (zp_n u.2.1) a 50 (zv (zp_n u.2.1) a 51 k).toNat ∧ zv (zp_n u.2.1) a 50 (zv (zp_n u.2.1) a 51 k).toNat ≤ 9 := hφ
  obtain ⟨n9, hn9, h49, hm⟩ := hφ
  show zp_J p l e R s m args below meth c Q w u [] 0 [(0, 2, (a : Int)), (1, 0, p1)] [] u.1 (zp_n u.2.1)
  refine zp_kn (k := 48) (a := a) hw (show zp_fd 13 48 = some (12, 2, 84, 0, 0) from rfl) rfl hp (fun hk48 => ?_)
  obtain ⟨b48, hb48, hq48⟩ := zp_this hk48
  refine zp_kn (k := 50) (a := a) hw (show zp_fd 13 50 = some (12, 2, 85, 0, 0) from rfl) rfl hp (fun hk50 => ?_)
  obtain ⟨b50, hb50, hq50⟩ := zp_this hk50
  refine zp_kn (k := 51) (a := a) hw (show zp_fd 13 51 = some (12, 2, 86, 0, 0) from rfl) rfl hp (fun hk51 => ?_)
  obtain ⟨b51, hb51, hq51⟩ := zp_this hk51
  refine zp_kn (k := 52) (a := a) hw (show zp_fd 13 52 = some (12, 2, 87, 0, 0) from rfl) rfl hp (fun hk52 => ?_)
  obtain ⟨b52, hb52, hq52⟩ := zp_this hk52
  have loop3 : ∀ (n k : Nat) (v2 : Int) (P : Nat → Option Nat) (G : Nat → Nat → Int), n9 - k < n → k ≤ n9 → wo_I a b48 b52 n9 P G → zp_J p l e R s m args below meth c Q w u [] 102 [(3, 0, (k : Int)), (2, 0, v2), (0, 2, (a : Int)), (1, 0, p1)] [] P G := by
    intro n
    induction n with
    | zero => intro k v2 P G h; exact absurd h (Nat.not_lt_zero _)
    | succ n ih =>
      intro k v2 P G hn hk hwi
      have hwi1 := hwi
      obtain ⟨i1, i2, i3, i4, i5, i6⟩ := hwi1
      refine zp_load (pc := 102) hx hb (zd_X12_weighOrder (102, .iload_n 3, 1, 0, []) (List.mem_of_getElem? (i := 60) rfl)) rfl (j := 0) rfl ?_
      refine zp_load (pc := 103) hx hb (zd_X12_weighOrder (103, .aload_n 0, 1, 0, []) (List.mem_of_getElem? (i := 61) rfl)) rfl (j := 2) rfl ?_
      refine zp_getf (n := (n9 : Int)) (pc := 104) hx hb hE hw (zd_X12_weighOrder (104, .getfield 439, 3, 0, []) (List.mem_of_getElem? (i := 62) rfl)) (j := 67) rfl rfl rfl i1 i6 ?_
      refine zp_icmp (pc := 107) (tgt := 128) hx hb (zd_X12_weighOrder (107, .if_icmp .ge 21, 3, 0, []) (List.mem_of_getElem? (i := 63) rfl)) rfl (fun (hc202 : (n9 : Int) ≤ (k : Int)) => ?_) (fun (hc202 : ¬ ((n9 : Int) ≤ (k : Int))) => ?_)
      · refine zp_vret (pc := 128) hx hb hE hQ hU5 rfl (by decide) (zd_X12_weighOrder (128, .return_, 1, 0, []) (List.mem_of_getElem? (i := 74) rfl)) (j := 0) rfl ?_
        rw [hps]
        trivial
      · refine zp_load (pc := 110) hx hb (zd_X12_weighOrder (110, .aload_n 0, 1, 0, []) (List.mem_of_getElem? (i := 64) rfl)) rfl (j := 2) rfl ?_
        refine zp_getf (n := (b52 : Int)) (pc := 111) hx hb hE hw (zd_X12_weighOrder (111, .getfield 140, 3, 0, []) (List.mem_of_getElem? (i := 65) rfl)) (j := 70) rfl rfl rfl i1 i5 ?_
        refine zp_load (pc := 114) hx hb (zd_X12_weighOrder (114, .iload_n 3, 1, 0, []) (List.mem_of_getElem? (i := 66) rfl)) rfl (j := 0) rfl ?_
        refine zp_load (pc := 115) hx hb (zd_X12_weighOrder (115, .aload_n 0, 1, 0, []) (List.mem_of_getElem? (i := 67) rfl)) rfl (j := 2) rfl ?_
        refine zp_getf (n := (b48 : Int)) (pc := 116) hx hb hE hw (zd_X12_weighOrder (116, .getfield 131, 3, 0, []) (List.mem_of_getElem? (i := 68) rfl)) (j := 66) rfl rfl rfl i1 i4 ?_
        refine zp_load (pc := 119) hx hb (zd_X12_weighOrder (119, .iload_n 3, 1, 0, []) (List.mem_of_getElem? (i := 69) rfl)) rfl (j := 0) rfl ?_
        refine zp_iald (j := k) (v := (G b48 (2000 + k))) (pc := 120) hx hb hw (zd_X12_weighOrder (120, .iaload, 1, 0, []) (List.mem_of_getElem? (i := 70) rfl)) (show zp_ia 1 84 = some (7, 0, 0, 0, 9) from rfl) i2 (by omega) (by omega) rfl (fun hk203 => ?_)
        have hk203b := zp_int hk203
        refine zp_iast (j := k) (pc := 121) hx hb hw heff (zd_X12_weighOrder (121, .iastore, 1, 0, []) (List.mem_of_getElem? (i := 71) rfl)) (show zp_ia 1 87 = some (7, 0, 0, (-2147483648), 2147483647) from rfl) i3 (by omega) (by omega) (zp_o0 (by omega) (by omega) (by omega) (by omega)) rfl ?_
        refine zp_iinc (L' := [(3, 0, ((k : Int) + 1)), (2, 0, v2), (0, 2, (a : Int)), (1, 0, p1)]) (n := ((k : Int) + 1)) (pc := 122) hx hb hnL (zd_X12_weighOrder (122, .iinc 3 1, 3, 0, []) (List.mem_of_getElem? (i := 72) rfl)) (j := 0) rfl (by omega) (zp_r0 (by omega) (by omega)) rfl rfl ?_
        refine zp_goto (tgt := 102) (pc := 125) hx hb (zd_X12_weighOrder (125, .goto (-23), 3, 0, []) (List.mem_of_getElem? (i := 73) rfl)) rfl ?_
        exact ih (k + 1) v2 P _ (by omega) (by omega) (wo_set (k := 2000 + k) hwi i3 rfl)
  have loop2 : ∀ (n k : Nat) (v2 : Int) (P : Nat → Option Nat) (G : Nat → Nat → Int), n9 - k < n → k ≤ n9 → -2147483648 ≤ v2 → v2 ≤ 2147483647 → wo_I a b48 b52 n9 P G → zp_J p l e R s m args below meth c Q w u [] 42 [(3, 0, (k : Int)), (2, 0, v2), (0, 2, (a : Int)), (1, 0, p1)] [] P G := by
    intro n
    induction n with
    | zero => intro k v2 P G h; exact absurd h (Nat.not_lt_zero _)
    | succ n ih =>
      intro k v2 P G hn hk hv1 hv2 hwi
      have hwi1 := hwi
      obtain ⟨i1, i2, i3, i4, i5, i6⟩ := hwi1
      refine zp_kn (k := 53) (a := a) (G := G) hw (show zp_fd 13 53 = some (12, 0, 0, (-2147483648), 2147483647) from rfl) rfl i1 (fun hk53 => ?_)
      have hx53 := zp_int hk53
      refine zp_load (pc := 42) hx hb (zd_X12_weighOrder (42, .iload_n 3, 1, 0, []) (List.mem_of_getElem? (i := 26) rfl)) rfl (j := 0) rfl ?_
      refine zp_load (pc := 43) hx hb (zd_X12_weighOrder (43, .aload_n 0, 1, 0, []) (List.mem_of_getElem? (i := 27) rfl)) rfl (j := 2) rfl ?_
      refine zp_getf (n := (n9 : Int)) (pc := 44) hx hb hE hw (zd_X12_weighOrder (44, .getfield 439, 3, 0, []) (List.mem_of_getElem? (i := 28) rfl)) (j := 67) rfl rfl rfl i1 i6 ?_
      refine zp_icmp (pc := 47) (tgt := 87) hx hb (zd_X12_weighOrder (47, .if_icmp .ge 40, 3, 0, []) (List.mem_of_getElem? (i := 29) rfl)) rfl (fun (hc204 : (n9 : Int) ≤ (k : Int)) => ?_) (fun (hc204 : ¬ ((n9 : Int) ≤ (k : Int))) => ?_)
      · refine zp_load (pc := 87) hx hb (zd_X12_weighOrder (87, .iload_n 2, 1, 0, []) (List.mem_of_getElem? (i := 51) rfl)) rfl (j := 1) rfl ?_
        refine zp_load (pc := 88) hx hb (zd_X12_weighOrder (88, .aload_n 0, 1, 0, []) (List.mem_of_getElem? (i := 52) rfl)) rfl (j := 2) rfl ?_
        refine zp_getf (n := (G a 53)) (pc := 89) hx hb hE hw (zd_X12_weighOrder (89, .getfield 472, 3, 0, []) (List.mem_of_getElem? (i := 53) rfl)) (j := 71) rfl rfl rfl i1 rfl ?_
        refine zp_icmp (pc := 92) (tgt := 128) hx hb (zd_X12_weighOrder (92, .if_icmp .le 36, 3, 0, []) (List.mem_of_getElem? (i := 54) rfl)) rfl (fun (hc205 : v2 ≤ (G a 53)) => ?_) (fun (hc205 : ¬ (v2 ≤ (G a 53))) => ?_)
        · refine zp_vret (pc := 128) hx hb hE hQ hU5 rfl (by decide) (zd_X12_weighOrder (128, .return_, 1, 0, []) (List.mem_of_getElem? (i := 74) rfl)) (j := 0) rfl ?_
          rw [hps]
          trivial
        · refine zp_load (pc := 95) hx hb (zd_X12_weighOrder (95, .aload_n 0, 1, 0, []) (List.mem_of_getElem? (i := 55) rfl)) rfl (j := 2) rfl ?_
          refine zp_load (pc := 96) hx hb (zd_X12_weighOrder (96, .iload_n 2, 1, 0, []) (List.mem_of_getElem? (i := 56) rfl)) rfl (j := 1) rfl ?_
          refine zp_putf (pc := 97) hx hb hE hw heff (zd_X12_weighOrder (97, .putfield 472, 3, 0, []) (List.mem_of_getElem? (i := 57) rfl)) (j := 71) rfl rfl rfl i1 (zp_o0 (by omega) (by omega) (by omega) (by omega)) ?_
          refine zp_const (pc := 100) hx hb (zd_X12_weighOrder (100, .iconst 0, 1, 0, []) (List.mem_of_getElem? (i := 58) rfl)) rfl rfl ?_
          refine zp_store (L' := [(3, 0, 0), (2, 0, v2), (0, 2, (a : Int)), (1, 0, p1)]) (pc := 101) hx hb hnL (zd_X12_weighOrder (101, .istore_n 3, 1, 0, []) (List.mem_of_getElem? (i := 59) rfl)) rfl rfl rfl ?_
          refine zp_drop (L' := [(3, 0, ((0 : Nat) : Int)), (2, 0, v2), (0, 2, (a : Int)), (1, 0, p1)]) (by simp) ?_
          exact loop3 (n9 + 1) 0 v2 P _ (by omega) (by omega) (wo_set (k := 53) hwi i1 rfl)
      · refine zp_load (pc := 50) hx hb (zd_X12_weighOrder (50, .iload_n 2, 1, 0, []) (List.mem_of_getElem? (i := 30) rfl)) rfl (j := 1) rfl ?_
        refine zp_load (pc := 51) hx hb (zd_X12_weighOrder (51, .aload_n 0, 1, 0, []) (List.mem_of_getElem? (i := 31) rfl)) rfl (j := 2) rfl ?_
        refine zp_load (pc := 52) hx hb (zd_X12_weighOrder (52, .aload_n 0, 1, 0, []) (List.mem_of_getElem? (i := 32) rfl)) rfl (j := 2) rfl ?_
        refine zp_getf (n := (b48 : Int)) (pc := 53) hx hb hE hw (zd_X12_weighOrder (53, .getfield 131, 3, 0, []) (List.mem_of_getElem? (i := 33) rfl)) (j := 66) rfl rfl rfl i1 i4 ?_
        refine zp_load (pc := 56) hx hb (zd_X12_weighOrder (56, .iload_n 3, 1, 0, []) (List.mem_of_getElem? (i := 34) rfl)) rfl (j := 0) rfl ?_
        refine zp_iald (j := k) (v := (G b48 (2000 + k))) (pc := 57) hx hb hw (zd_X12_weighOrder (57, .iaload, 1, 0, []) (List.mem_of_getElem? (i := 35) rfl)) (show zp_ia 1 84 = some (7, 0, 0, 0, 9) from rfl) i2 (by omega) (by omega) rfl (fun hk206 => ?_)
        have hk206b := zp_int hk206
        refine zp_call (pc := 58) (how := 0) (idx := 465) (mi := 256) (S := [(0, v2)]) hx hb hE hw heff hrm (zp_plain (zq_1088 hW)) rfl (j := 53) rfl rfl (by decide +kernel) (zd_X12_weighOrder (58, .invokevirtual 465, 3, 0, []) (List.mem_of_getElem? (i := 36) rfl)) [(a : Int), (G b48 (2000 + k))] rfl ⟨zp_o2 i1, zp_o0 (by omega) (by omega) (by omega) (by omega), trivial⟩ (Nat.le_of_ble_eq_true rfl) trivial (fun al hal rnt Pt Gt hextt hfrt hokt hcst hpsit => ?_)
        have hrnt : 0 ≤ rnt ∧ rnt ≤ 1 ∧ ∃ f, al.1 = some f ∧ f.1 = 0 := by
          rcases List.mem_cons.mp hal with rfl | hal
          · have h := zp_int (hokt _ rfl).1
            exact ⟨by omega, by omega, _, rfl, rfl⟩
          · obtain rfl := List.mem_singleton.mp hal
            have h := zp_int (hokt _ rfl).1
            exact ⟨by omega, by omega, _, rfl, rfl⟩
        obtain ⟨ht0, ht1, ft, hft, hf0⟩ := hrnt
        rw [hft]
        dsimp only
        rw [hf0]
        have wit := wo_fr hwi hextt hfrt (by decide +kernel)
        refine zp_if (pc := 61) (tgt := 78) hx hb (zd_X12_weighOrder (61, .ifCond .eq 17, 3, 0, []) (List.mem_of_getElem? (i := 37) rfl)) rfl (fun (hc207 : rnt = 0) => ?_) (fun (hc207 : ¬ (rnt = 0)) => ?_)
        · refine zp_const (pc := 78) hx hb (zd_X12_weighOrder (78, .iconst 0, 1, 0, []) (List.mem_of_getElem? (i := 46) rfl)) rfl rfl ?_
          refine zp_bin (o := 0) (la := -2147483648) (ha := 2147483647) (lb := -2147483648) (hb' := 2147483647) (pc := 79) hx hb (zd_X12_weighOrder (79, .iadd, 1, 0, []) (List.mem_of_getElem? (i := 47) rfl)) rfl (fun h => absurd h (by decide)) (by omega) (by omega) (by omega) (by omega) (fun x208 r_x208 _ _ => ?_)
          have i_x208 := zp_rg0 r_x208
          refine zp_store (L' := [(2, 0, x208), (3, 0, (k : Int)), (0, 2, (a : Int)), (1, 0, p1)]) (pc := 80) hx hb hnL (zd_X12_weighOrder (80, .istore_n 2, 1, 0, []) (List.mem_of_getElem? (i := 48) rfl)) rfl rfl rfl ?_
          refine zp_iinc (L' := [(3, 0, ((k : Int) + 1)), (2, 0, x208), (0, 2, (a : Int)), (1, 0, p1)]) (n := ((k : Int) + 1)) (pc := 81) hx hb hnL (zd_X12_weighOrder (81, .iinc 3 1, 3, 0, []) (List.mem_of_getElem? (i := 49) rfl)) (j := 1) rfl (by omega) (zp_r0 (by omega) (by omega)) rfl rfl ?_
          refine zp_goto (tgt := 42) (pc := 84) hx hb (zd_X12_weighOrder (84, .goto (-42), 3, 0, []) (List.mem_of_getElem? (i := 50) rfl)) rfl ?_
          refine zp_drop (L' := [(3, 0, ((k : Int) + 1)), (2, 0, x208), (0, 2, (a : Int)), (1, 0, p1)]) (by simp) ?_
          exact ih (k + 1) x208 _ _ (by omega) (by omega) (by omega) (by omega) wit
        · refine zp_load (pc := 64) hx hb (zd_X12_weighOrder (64, .aload_n 0, 1, 0, []) (List.mem_of_getElem? (i := 38) rfl)) rfl (j := 2) rfl ?_
          refine zp_load (pc := 65) hx hb (zd_X12_weighOrder (65, .aload_n 0, 1, 0, []) (List.mem_of_getElem? (i := 39) rfl)) rfl (j := 2) rfl ?_
          refine zp_getf (n := (b48 : Int)) (pc := 66) hx hb hE hw (zd_X12_weighOrder (66, .getfield 131, 3, 0, []) (List.mem_of_getElem? (i := 40) rfl)) (j := 66) rfl rfl rfl wit.1 wit.2.2.2.1 ?_
          refine zp_load (pc := 69) hx hb (zd_X12_weighOrder (69, .iload_n 3, 1, 0, []) (List.mem_of_getElem? (i := 41) rfl)) rfl (j := 0) rfl ?_
          refine zp_iald (j := k) (v := (Gt b48 (2000 + k))) (pc := 70) hx hb hw (zd_X12_weighOrder (70, .iaload, 1, 0, []) (List.mem_of_getElem? (i := 42) rfl)) (show zp_ia 1 84 = some (7, 0, 0, 0, 9) from rfl) wit.2.1 (by omega) (by omega) rfl (fun hk209 => ?_)
          have hk209b := zp_int hk209
          refine zp_const (pc := 71) hx hb (zd_X12_weighOrder (71, .iconst 3, 1, 0, []) (List.mem_of_getElem? (i := 43) rfl)) rfl rfl ?_
          refine zp_call (pc := 72) (how := 0) (idx := 188) (mi := 196) (S := [(0, v2)]) hx hb hE hw heff hrm (zp_plain (zq_1089 hW)) rfl (j := 7) rfl rfl (by decide +kernel) (zd_X12_weighOrder (72, .invokevirtual 188, 3, 0, []) (List.mem_of_getElem? (i := 44) rfl)) [(a : Int), (Gt b48 (2000 + k)), 3] rfl ⟨zp_o2 wit.1, zp_o0 (by omega) (by omega) (by omega) (by omega), zp_o0 (by decide) (by decide) (by decide) (by decide), trivial⟩ (Nat.le_of_ble_eq_true rfl) trivial (fun al hal rno Po Go hexto hfro hoko hcso hpsio => ?_)
          obtain rfl := List.mem_singleton.mp hal
          have hro := zp_int (hoko _ rfl).1
          have wio := wo_fr wit hexto hfro (by decide +kernel)
          refine zp_goto (tgt := 79) (pc := 75) hx hb (zd_X12_weighOrder (75, .goto 4, 3, 0, []) (List.mem_of_getElem? (i := 45) rfl)) rfl ?_
          refine zp_bin (o := 0) (la := -2147483648) (ha := 2147483647) (lb := -2147483648) (hb' := 2147483647) (pc := 79) hx hb (zd_X12_weighOrder (79, .iadd, 1, 0, []) (List.mem_of_getElem? (i := 47) rfl)) rfl (fun h => absurd h (by decide)) (by omega) (by omega) (by omega) (by omega) (fun x210 r_x210 _ _ => ?_)
          have i_x210 := zp_rg0 r_x210
          refine zp_store (L' := [(2, 0, x210), (3, 0, (k : Int)), (0, 2, (a : Int)), (1, 0, p1)]) (pc := 80) hx hb hnL (zd_X12_weighOrder (80, .istore_n 2, 1, 0, []) (List.mem_of_getElem? (i := 48) rfl)) rfl rfl rfl ?_
          refine zp_iinc (L' := [(3, 0, ((k : Int) + 1)), (2, 0, x210), (0, 2, (a : Int)), (1, 0, p1)]) (n := ((k : Int) + 1)) (pc := 81) hx hb hnL (zd_X12_weighOrder (81, .iinc 3 1, 3, 0, []) (List.mem_of_getElem? (i := 49) rfl)) (j := 1) rfl (by omega) (zp_r0 (by omega) (by omega)) rfl rfl ?_
          refine zp_goto (tgt := 42) (pc := 84) hx hb (zd_X12_weighOrder (84, .goto (-42), 3, 0, []) (List.mem_of_getElem? (i := 50) rfl)) rfl ?_
          refine zp_drop (L' := [(3, 0, ((k : Int) + 1)), (2, 0, x210), (0, 2, (a : Int)), (1, 0, p1)]) (by simp) ?_
          exact ih (k + 1) x210 _ _ (by omega) (by omega) (by omega) (by omega) wio
  have loop1 : ∀ (n k : Nat) (G : Nat → Nat → Int), n9 - k < n → k ≤ n9 → (∀ j, G a j = zp_n u.2.1 a j) → (∀ j, G b50 j = zp_n u.2.1 b50 j) → (∀ j, G b51 j = zp_n u.2.1 b51 j) → zp_J p l e R s m args below meth c Q w u [] 2 [(2, 0, (k : Int)), (0, 2, (a : Int)), (1, 0, p1)] [] u.1 G := by
    clear loop3
    intro n
    induction n with
    | zero => intro k G h; exact absurd h (Nat.not_lt_zero _)
    | succ n ih =>
      intro k G hn hk za z50 z51
      refine zp_load (pc := 2) hx hb (zd_X12_weighOrder (2, .iload_n 2, 1, 0, []) (List.mem_of_getElem? (i := 2) rfl)) rfl (j := 0) rfl ?_
      refine zp_load (pc := 3) hx hb (zd_X12_weighOrder (3, .aload_n 0, 1, 0, []) (List.mem_of_getElem? (i := 3) rfl)) rfl (j := 1) rfl ?_
      refine zp_getf (n := (n9 : Int)) (pc := 4) hx hb hE hw (zd_X12_weighOrder (4, .getfield 439, 3, 0, []) (List.mem_of_getElem? (i := 4) rfl)) (j := 67) rfl rfl rfl hp ((za 49).trans h49) ?_
      refine zp_icmp (pc := 7) (tgt := 33) hx hb (zd_X12_weighOrder (7, .if_icmp .ge 26, 3, 0, []) (List.mem_of_getElem? (i := 5) rfl)) rfl (fun (hc211 : (n9 : Int) ≤ (k : Int)) => ?_) (fun (hc211 : ¬ ((n9 : Int) ≤ (k : Int))) => ?_)
      · refine zp_load (pc := 33) hx hb (zd_X12_weighOrder (33, .aload_n 0, 1, 0, []) (List.mem_of_getElem? (i := 19) rfl)) rfl (j := 1) rfl ?_
        refine zp_load (pc := 34) hx hb (zd_X12_weighOrder (34, .iload_n 1, 1, 0, []) (List.mem_of_getElem? (i := 20) rfl)) rfl (j := 2) rfl ?_
        refine zp_call (pc := 35) (how := 0) (idx := 457) (mi := 248) (S := []) hx hb hE hw heff hrm (zp_plain (zq_1082 hW)) rfl (j := 47) rfl rfl (by decide +kernel) (zd_X12_weighOrder (35, .invokevirtual 457, 3, 0, []) (List.mem_of_getElem? (i := 21) rfl)) [(a : Int), p1] rfl ⟨zp_o2 hp, k1, trivial⟩ (Nat.le_of_ble_eq_true rfl) trivial (fun al hal rnd Pd Gd hextd hfrd hokd hcsd hpsid => ?_)
        obtain rfl := List.mem_singleton.mp hal
        have hwi : wo_I a b48 b52 n9 u.1 G := ⟨hp, hq48, hq52, (za 48).trans hb48, (za 52).trans hb52, (za 49).trans h49⟩
        have wid := wo_fr hwi hextd hfrd (by decide +kernel)
        refine zp_const (pc := 38) hx hb (zd_X12_weighOrder (38, .iconst 0, 1, 0, []) (List.mem_of_getElem? (i := 22) rfl)) rfl rfl ?_
        refine zp_store (L' := [(2, 0, 0), (0, 2, (a : Int)), (1, 0, p1)]) (pc := 39) hx hb hnL (zd_X12_weighOrder (39, .istore_n 2, 1, 0, []) (List.mem_of_getElem? (i := 23) rfl)) rfl rfl rfl ?_
        refine zp_const (pc := 40) hx hb (zd_X12_weighOrder (40, .iconst 0, 1, 0, []) (List.mem_of_getElem? (i := 24) rfl)) rfl rfl ?_
        refine zp_store (L' := [(3, 0, 0), (2, 0, 0), (0, 2, (a : Int)), (1, 0, p1)]) (pc := 41) hx hb hnL (zd_X12_weighOrder (41, .istore_n 3, 1, 0, []) (List.mem_of_getElem? (i := 25) rfl)) rfl rfl rfl ?_
        refine zp_drop (L' := [(3, 0, ((0 : Nat) : Int)), (2, 0, 0), (0, 2, (a : Int)), (1, 0, p1)]) (by simp) ?_
        exact loop2 (n9 + 1) 0 0 Pd Gd (by omega) (by omega) (by decide) (by decide) wid
      · refine zp_load (pc := 10) hx hb (zd_X12_weighOrder (10, .aload_n 0, 1, 0, []) (List.mem_of_getElem? (i := 6) rfl)) rfl (j := 1) rfl ?_
        refine zp_getf (n := (b48 : Int)) (pc := 11) hx hb hE hw (zd_X12_weighOrder (11, .getfield 131, 3, 0, []) (List.mem_of_getElem? (i := 7) rfl)) (j := 66) rfl rfl rfl hp ((za 48).trans hb48) ?_
        refine zp_load (pc := 14) hx hb (zd_X12_weighOrder (14, .iload_n 2, 1, 0, []) (List.mem_of_getElem? (i := 8) rfl)) rfl (j := 0) rfl ?_
        refine zp_load (pc := 15) hx hb (zd_X12_weighOrder (15, .aload_n 0, 1, 0, []) (List.mem_of_getElem? (i := 9) rfl)) rfl (j := 1) rfl ?_
        refine zp_getf (n := (b50 : Int)) (pc := 16) hx hb hE hw (zd_X12_weighOrder (16, .getfield 134, 3, 0, []) (List.mem_of_getElem? (i := 10) rfl)) (j := 68) rfl rfl rfl hp ((za 50).trans hb50) ?_
        refine zp_load (pc := 19) hx hb (zd_X12_weighOrder (19, .aload_n 0, 1, 0, []) (List.mem_of_getElem? (i := 11) rfl)) rfl (j := 1) rfl ?_
        refine zp_getf (n := (b51 : Int)) (pc := 20) hx hb hE hw (zd_X12_weighOrder (20, .getfield 137, 3, 0, []) (List.mem_of_getElem? (i := 12) rfl)) (j := 69) rfl rfl rfl hp ((za 51).trans hb51) ?_
        refine zp_load (pc := 23) hx hb (zd_X12_weighOrder (23, .iload_n 2, 1, 0, []) (List.mem_of_getElem? (i := 13) rfl)) rfl (j := 0) rfl ?_
        obtain ⟨m1, m2, m3⟩ := hm k (by omega)
        obtain ⟨ti, hti⟩ := zp_nat m1
        rw [hti, Int.toNat_natCast, zv_eq hb50] at m2 m3
        have ht51 : G b51 (2000 + k) = (ti : Int) := (z51 _).trans ((zv_eq hb51 k).symm.trans hti)
        refine zp_iald (j := k) (v := (ti : Int)) (pc := 24) hx hb hw (zd_X12_weighOrder (24, .iaload, 1, 0, []) (List.mem_of_getElem? (i := 14) rfl)) (show zp_ia 1 86 = some (7, 0, 0, (-1), 7) from rfl) hq51 (by omega) (by omega) ht51 (fun hk212 => ?_)
        have hk212b := zp_int hk212
        have hti2 : ti ≤ 7 := by omega
        rw [← z50] at m2 m3
        refine zp_iald (j := ti) (v := (G b50 (2000 + ti))) (pc := 25) hx hb hw (zd_X12_weighOrder (25, .iaload, 1, 0, []) (List.mem_of_getElem? (i := 15) rfl)) (show zp_ia 1 85 = some (10, 0, 0, 0, 10) from rfl) hq50 (by omega) (by omega) rfl (fun hk213 => ?_)
        have hk213b := zp_int hk213
        refine zp_iast (j := k) (pc := 26) hx hb hw heff (zd_X12_weighOrder (26, .iastore, 1, 0, []) (List.mem_of_getElem? (i := 16) rfl)) (show zp_ia 1 84 = some (7, 0, 0, 0, 9) from rfl) hq48 (by omega) (by omega) (zp_o0 (by omega) (by omega) (by omega) (by omega)) rfl ?_
        refine zp_iinc (L' := [(2, 0, ((k : Int) + 1)), (0, 2, (a : Int)), (1, 0, p1)]) (n := ((k : Int) + 1)) (pc := 27) hx hb hnL (zd_X12_weighOrder (27, .iinc 2 1, 3, 0, []) (List.mem_of_getElem? (i := 17) rfl)) (j := 0) rfl (by omega) (zp_r0 (by omega) (by omega)) rfl rfl ?_
        refine zp_goto (tgt := 2) (pc := 30) hx hb (zd_X12_weighOrder (30, .goto (-28), 3, 0, []) (List.mem_of_getElem? (i := 18) rfl)) rfl ?_
        exact ih (k + 1) _ (by omega) (by omega) (fun j => (zp_set_ne (Or.inl (zp_pne hp hq48 (by decide)))).trans (za j)) (fun j => (zp_set_ne (Or.inl (zp_pne hq50 hq48 (by decide)))).trans (z50 j)) (fun j => (zp_set_ne (Or.inl (zp_pne hq51 hq48 (by decide)))).trans (z51 j))
  refine zp_const (pc := 0) hx hb (zd_X12_weighOrder (0, .iconst 0, 1, 0, []) (List.mem_of_getElem? (i := 0) rfl)) rfl rfl ?_
  refine zp_store (L' := [(2, 0, 0), (0, 2, (a : Int)), (1, 0, p1)]) (pc := 1) hx hb hnL (zd_X12_weighOrder (1, .istore_n 2, 1, 0, []) (List.mem_of_getElem? (i := 1) rfl)) rfl rfl rfl ?_
  exact loop1 (n9 + 1) 0 _ (by omega) (by omega) (fun _ => rfl) (fun _ => rfl) (fun _ => rfl)
