/-! part 7c: giveBack, orders -/
def zo_or (a b24 b25 b56 ncl : Nat) (P : Nat → Option Nat) (G : Nat → Nat → Int) : Prop := P a = some 92 ∧ P b24 = some 68 ∧ P b25 = some 69 ∧ P b56 = some 90 ∧ G a 24 = (b24 : Int) ∧ G a 25 = (b25 : Int) ∧ G a 56 = (b56 : Int) ∧ G a 20 = 0 ∧ G a 19 = 0 ∧ G a 21 = (ncl : Int) ∧ ncl ≤ 12 ∧ ∀ c, c < ncl → zo_pr a G (8 * c + 1) ∧ zo_pr a G (8 * c + 3) ∧ zo_pr a G (8 * c + 5) ∧ zv G a 56 (8 * c + 7) ≤ 20
theorem zo_or_ru {a b24 b25 b56 ncl c : Nat} {P : Nat → Option Nat} {G : Nat → Nat → Int} (h : zo_or a b24 b25 b56 ncl P G) (hc : c < ncl) : zo_ru a b24 b25 b56 (8 * c) (G a 57) P G := by
  obtain ⟨r0, r1, r2, r3, e24, e25, e56, e20, e19, -, -, hp⟩ := h
  exact ⟨r0, r1, r2, r3, e24, e25, e56, e20, e19, (hp c hc).1, (hp c hc).2.1, (hp c hc).2.2.1, rfl⟩
theorem zo_or_keep {a b24 b25 b56 ncl : Nat} {P P' : Nat → Option Nat} {G G' : Nat → Nat → Int} (h : zo_or a b24 b25 b56 ncl P G) (hx : ∀ b t, P b = some t → P' b = some t) (h19 : G' a 19 = G a 19) (h20 : G' a 20 = 0) (h21 : G' a 21 = G a 21) (h23 : G' a 23 = G a 23) (h24 : G' a 24 = G a 24) (h25 : G' a 25 = G a 25) (h56 : G' a 56 = G a 56) (q24 : ∀ k, G' b24 k = G b24 k) (q25 : ∀ k, G' b25 k = G b25 k) (q56 : ∀ k, G' b56 k = G b56 k) : zo_or a b24 b25 b56 ncl P' G' := by
  obtain ⟨r0, r1, r2, r3, e24, e25, e56, e20, e19, e21, hn, hp⟩ := h
  have v24 : ∀ j, zv G' a 24 j = zv G a 24 j := fun j => by rw [zv_eq (h24.trans e24), zv_eq e24, q24]
  have v25 : ∀ j, zv G' a 25 j = zv G a 25 j := fun j => by rw [zv_eq (h25.trans e25), zv_eq e25, q25]
  have v56 : ∀ j, zv G' a 56 j = zv G a 56 j := fun j => by rw [zv_eq (h56.trans e56), zv_eq e56, q56]
  exact ⟨hx _ _ r0, hx _ _ r1, hx _ _ r2, hx _ _ r3, h24.trans e24, h25.trans e25, h56.trans e56, h20, h19.trans e19, h21.trans e21, hn, fun c hc => ⟨zo_pr_same (hp c hc).1 h19 h23 v24 v25 v56, zo_pr_same (hp c hc).2.1 h19 h23 v24 v25 v56, zo_pr_same (hp c hc).2.2.1 h19 h23 v24 v25 v56, by rw [v56]; exact (hp c hc).2.2.2⟩⟩
theorem zo_or_fr {eff : List (Nat × Nat × Nat)} {ps : List Int} {a b24 b25 b56 ncl : Nat} {P P' : Nat → Option Nat} {G G' : Nat → Nat → Int} (h : zo_or a b24 b25 b56 ncl P G) (hx : ∀ b t, P b = some t → P' b = some t) (hfr : zp_fr eff ps P G G') (he : (zo_eb eff && zp_nfb eff 92 21) = true) (h20 : G' a 20 = 0) : zo_or a b24 b25 b56 ncl P' G' := by
  unfold zo_eb at he
  simp only [Bool.and_eq_true] at he
  obtain ⟨⟨f1, f2, f3, f4, f5, f6, f7, f8⟩, f9⟩ := he
  have h' := h
  obtain ⟨r0, r1, r2, r3, -⟩ := h'
  exact zo_or_keep h hx (zp_nf hfr r0 f1) h20 (zp_nf hfr r0 f9) (zp_nf hfr r0 f2) (zp_nf hfr r0 f3) (zp_nf hfr r0 f4) (zp_nf hfr r0 f5) (zp_nc hfr r1 f6) (zp_nc hfr r2 f7) (zp_nc hfr r3 f8)
theorem zo_or_set {a b24 b25 b56 ncl b t k : Nat} {v : Int} {P : Nat → Option Nat} {G : Nat → Nat → Int} (h : zo_or a b24 b25 b56 ncl P G) (hb : P b = some t) (he : (zo_sb t k && (t != 92 || k != 21)) = true) : zo_or a b24 b25 b56 ncl P (zp_set G b k v) := by
  unfold zo_sb at he
  simp only [Bool.and_eq_true, Bool.or_eq_true, bne_iff_ne] at he
  obtain ⟨⟨f1, f2, f3, f4⟩, f5⟩ := he
  have h' := h
  obtain ⟨r0, r1, r2, r3, -, -, -, e20, -⟩ := h'
  have ne : ∀ j, (t = 92 → k ≠ j) → zp_set G b k v a j = G a j := fun j hj => zp_set_ne (by
    by_cases e : t = 92
    · exact Or.inr (fun z => hj e z.symm)
    · exact Or.inl (zp_pne r0 hb (fun z => e z.symm)))
  have f4' : ∀ j, j = 19 ∨ j = 20 ∨ j = 21 ∨ j = 23 ∨ j = 24 ∨ j = 25 ∨ j = 56 → t = 92 → k ≠ j := fun j hj e => by
    rcases f4 with f4 | f4
    · exact absurd e f4
    rcases f5 with f5 | f5
    · exact absurd e f5
    · omega
  exact zo_or_keep h (fun _ _ z => z) (ne 19 (f4' _ (by omega))) ((ne 20 (f4' _ (by omega))).trans e20) (ne 21 (f4' _ (by omega))) (ne 23 (f4' _ (by omega))) (ne 24 (f4' _ (by omega))) (ne 25 (f4' _ (by omega))) (ne 56 (f4' _ (by omega))) (fun k => zp_set_ne (Or.inl (zp_pne r1 hb (fun z => f1 z.symm)))) (fun k => zp_set_ne (Or.inl (zp_pne r2 hb (fun z => f2 z.symm)))) (fun k => zp_set_ne (Or.inl (zp_pne r3 hb (fun z => f3 z.symm))))
def zo_T62 : zk_T := zt_types.getD 62 (0, 0, 0, [])
def zo_T64 : zk_T := zt_types.getD 64 (0, 0, 0, [])
theorem zo_fj (j : Nat) : zk_fj zo_T64 j = zk_fj zo_T62 j := by
  unfold zk_fj zk_f0
  rw [show zo_T64.2.2.2 = zo_T62.2.2.2 from by decide +kernel]
theorem zo_kd (j : Nat) : (zk_fj zo_T62 j).1 = 0 := by
  have h : zk_fj zo_T62 j = zk_rgn zo_T62.2.2.2.tail (j % 34) := by
    show (if (zk_f0 zo_T62).1 = 9 then zk_rgn zo_T62.2.2.2.tail (j % (zk_f0 zo_T62).2.1) else zk_f0 zo_T62) = _
    rw [if_pos (by decide +kernel), show (zk_f0 zo_T62).2.1 = 34 from by decide +kernel]
  rw [h]
  have hall : ((List.range 34).all fun i => (zk_rgn zo_T62.2.2.2.tail i).1 == 0) = true := by decide +kernel
  have := List.all_eq_true.mp hall (j % 34) (List.mem_range.mpr (Nat.mod_lt _ (by decide)))
  rw [beq_iff_eq] at this
  exact this
def zK_gb : zk_K := (zt_mn 292, prog_14_method_113_code, 3, (Option.none : Option Jvm.ClassFile.FieldType), 1, 12, [(2, 92, 0, 0), (0, 0, 0, 16)], [(none, [])], [(59, 4318, 0), (62, 1001, 0), (63, 1001, 0), (92, 8, 0)], (1, 80, 0, 0))
def zφ_gb : (Nat → Option Nat) → (Nat → Nat → Int) → List Int → Prop := fun _ G ps => G (zp_0 ps) 20 = 0
def zψ_gb : (Nat → Option Nat) → (Nat → Nat → Int) → List Int → (Nat → Option Nat) → (Nat → Nat → Int) → Int → Prop := fun P G ps P' G' rn => G' (zp_0 ps) 20 = 0
theorem zX_gb {l : Launch} {w : zk_W} (hW : zh_W w) : zk_metX l w zt_dv zt_TB zK_gb (zp_A zφ_gb) (zp_B zψ_gb) ∧ zk_cok w zt_TB zK_gb := by
  refine zp_meth hW (pl := 2029) rfl (by decide +kernel) (fun p e R s m args below meth c Q u hx hb hE hQ hU5 heff hnL hok hφ => ?_)
  have hw := hW.1
  obtain ⟨p0, p1, hps, k0, k1⟩ := zp_ps2 hok
  obtain ⟨a, rfl, hp⟩ := zp_this k0
  have hrm : zk_Kr (zk_ev (zp_E zK_gb)) = zk_Kr zK_gb := rfl
  rw [hps] at hφ ⊢
  have hi1 := zp_int k1
  have hφ : zp_n u.2.1 a 20 = 0 := hφ
  show zp_J p l e R s m args below meth c Q w u [] 0 [(0, 2, (a : Int)), (1, 0, p1)] [] u.1 (zp_n u.2.1)
  refine zp_kn (k := 6) (a := a) hw (show zp_fd 92 6 = some (12, 2, 62, 0, 0) from rfl) rfl hp (fun hk6 => ?_)
  obtain ⟨b6, hb6, hq6⟩ := zp_this hk6
  refine zp_kn (k := 7) (a := a) hw (show zp_fd 92 7 = some (12, 2, 63, 0, 0) from rfl) rfl hp (fun hk7 => ?_)
  obtain ⟨b7, hb7, hq7⟩ := zp_this hk7
  refine zp_kn (k := 9) (a := a) hw (show zp_fd 92 9 = some (12, 2, 64, 0, 0) from rfl) rfl hp (fun hk9 => ?_)
  obtain ⟨b9, hb9, hq9⟩ := zp_this hk9
  refine zp_kn (k := 10) (a := a) hw (show zp_fd 92 10 = some (12, 2, 65, 0, 0) from rfl) rfl hp (fun hk10 => ?_)
  obtain ⟨b10, hb10, hq10⟩ := zp_this hk10
  have loop1 : ∀ (n i : Nat) (P : Nat → Option Nat) (Gp G : Nat → Nat → Int), 16 - i < n → i ≤ 16 → P a = some 92 → P b6 = some 62 → P b7 = some 63 → P b9 = some 64 → P b10 = some 65 → Gp a 6 = (b6 : Int) → Gp a 7 = (b7 : Int) → Gp a 9 = (b9 : Int) → Gp a 10 = (b10 : Int) → Gp a 20 = 0 → (∀ k, G a k = Gp a k) → zp_J p l e R s m args below meth c Q w u [] 35 [(2, 0, (i : Int)), (0, 2, (a : Int)), (1, 0, p1)] [] P G := by
    intro n
    induction n with
    | zero => intro i P Gp G h; exact absurd h (Nat.not_lt_zero _)
    | succ n ih =>
      intro i P Gp G hn hi q0 q6 q7 q9 q10 g6 g7 g9 g10 g20 za
      refine zp_load (pc := 35) hx hb (zd_X12_giveBack (35, .iload_n 2, 1, 0, []) (List.mem_of_getElem? (i := 20) rfl)) rfl (j := 0) rfl ?_
      refine zp_const (pc := 36) hx hb (zd_X12_giveBack (36, .bipush 16, 2, 0, []) (List.mem_of_getElem? (i := 21) rfl)) rfl rfl ?_
      refine zp_icmp (pc := 38) (tgt := 59) hx hb (zd_X12_giveBack (38, .if_icmp .ge 21, 3, 0, []) (List.mem_of_getElem? (i := 22) rfl)) rfl (fun (hc215 : 16 ≤ (i : Int)) => ?_) (fun (hc215 : ¬ (16 ≤ (i : Int))) => ?_)
      · refine zp_load (pc := 59) hx hb (zd_X12_giveBack (59, .aload_n 0, 1, 0, []) (List.mem_of_getElem? (i := 33) rfl)) rfl (j := 1) rfl ?_
        refine zp_load (pc := 60) hx hb (zd_X12_giveBack (60, .iload_n 1, 1, 0, []) (List.mem_of_getElem? (i := 34) rfl)) rfl (j := 2) rfl ?_
        refine zp_putf (pc := 61) hx hb hE hw heff (zd_X12_giveBack (61, .putfield 167, 3, 0, []) (List.mem_of_getElem? (i := 35) rfl)) (j := 26) rfl rfl rfl q0 (zp_o0 (by omega) (by omega) (by omega) (by omega)) ?_
        refine zp_vret (pc := 64) hx hb hE hQ hU5 rfl (by decide) (zd_X12_giveBack (64, .return_, 1, 0, []) (List.mem_of_getElem? (i := 36) rfl)) (j := 0) rfl ?_
        rw [hps]
        exact (show (zp_set G a 8 p1) a 20 = 0 from ((zp_set_ne (Or.inr (by decide))).trans (((za 20).trans g20))))
      · refine zp_load (pc := 41) hx hb (zd_X12_giveBack (41, .aload_n 0, 1, 0, []) (List.mem_of_getElem? (i := 23) rfl)) rfl (j := 1) rfl ?_
        refine zp_getf (n := (b7 : Int)) (pc := 42) hx hb hE hw (zd_X12_giveBack (42, .getfield 26, 3, 0, []) (List.mem_of_getElem? (i := 24) rfl)) (j := 25) rfl rfl rfl q0 ((za 7).trans g7) ?_
        refine zp_load (pc := 45) hx hb (zd_X12_giveBack (45, .iload_n 2, 1, 0, []) (List.mem_of_getElem? (i := 25) rfl)) rfl (j := 0) rfl ?_
        refine zp_load (pc := 46) hx hb (zd_X12_giveBack (46, .aload_n 0, 1, 0, []) (List.mem_of_getElem? (i := 26) rfl)) rfl (j := 1) rfl ?_
        refine zp_getf (n := (b10 : Int)) (pc := 47) hx hb hE hw (zd_X12_giveBack (47, .getfield 32, 3, 0, []) (List.mem_of_getElem? (i := 27) rfl)) (j := 28) rfl rfl rfl q0 ((za 10).trans g10) ?_
        refine zp_load (pc := 50) hx hb (zd_X12_giveBack (50, .iload_n 2, 1, 0, []) (List.mem_of_getElem? (i := 28) rfl)) rfl (j := 0) rfl ?_
        refine zp_iald (j := i) (v := (G b10 (2000 + i))) (pc := 51) hx hb hw (zd_X12_giveBack (51, .iaload, 1, 0, []) (List.mem_of_getElem? (i := 29) rfl)) (show zp_ia 1 65 = some (16, 0, 0, 0, 3) from rfl) q10 (by omega) (by omega) rfl (fun hk216 => ?_)
        have hk216b := zp_int hk216
        refine zp_iast (j := i) (pc := 52) hx hb hw heff (zd_X12_giveBack (52, .iastore, 1, 0, []) (List.mem_of_getElem? (i := 30) rfl)) (show zp_ia 1 63 = some (16, 0, 0, 0, 3) from rfl) q7 (by omega) (by omega) (zp_o0 (by omega) (by omega) (by omega) (by omega)) rfl ?_
        refine zp_iinc (L' := [(2, 0, ((i : Int) + 1)), (0, 2, (a : Int)), (1, 0, p1)]) (n := ((i : Int) + 1)) (pc := 53) hx hb hnL (zd_X12_giveBack (53, .iinc 2 1, 3, 0, []) (List.mem_of_getElem? (i := 31) rfl)) (j := 0) rfl (by omega) (zp_r0 (by omega) (by omega)) rfl rfl ?_
        refine zp_goto (tgt := 35) (pc := 56) hx hb (zd_X12_giveBack (56, .goto (-21), 3, 0, []) (List.mem_of_getElem? (i := 32) rfl)) rfl ?_
        exact ih (i + 1) P Gp _ (by omega) (by omega) q0 q6 q7 q9 q10 g6 g7 g9 g10 g20 (fun k => (zp_set_ne (Or.inl (zp_pne q0 q7 (by decide)))).trans (za k))
  have loop0 : ∀ (n i : Nat) (P : Nat → Option Nat) (Gp G : Nat → Nat → Int), 544 - i < n → i ≤ 544 → P a = some 92 → P b6 = some 62 → P b7 = some 63 → P b9 = some 64 → P b10 = some 65 → Gp a 6 = (b6 : Int) → Gp a 7 = (b7 : Int) → Gp a 9 = (b9 : Int) → Gp a 10 = (b10 : Int) → Gp a 20 = 0 → (∀ k, G a k = Gp a k) → zp_J p l e R s m args below meth c Q w u [] 8 [(2, 0, (i : Int)), (0, 2, (a : Int)), (1, 0, p1)] [] P G := by
    intro n
    induction n with
    | zero => intro i P Gp G h; exact absurd h (Nat.not_lt_zero _)
    | succ n ih =>
      intro i P Gp G hn hi q0 q6 q7 q9 q10 g6 g7 g9 g10 g20 za
      refine zp_load (pc := 8) hx hb (zd_X12_giveBack (8, .iload_n 2, 1, 0, []) (List.mem_of_getElem? (i := 5) rfl)) rfl (j := 0) rfl ?_
      refine zp_const (pc := 9) hx hb (zd_X12_giveBack (9, .sipush 544, 3, 0, []) (List.mem_of_getElem? (i := 6) rfl)) rfl rfl ?_
      refine zp_icmp (pc := 12) (tgt := 33) hx hb (zd_X12_giveBack (12, .if_icmp .ge 21, 3, 0, []) (List.mem_of_getElem? (i := 7) rfl)) rfl (fun (hc217 : 544 ≤ (i : Int)) => ?_) (fun (hc217 : ¬ (544 ≤ (i : Int))) => ?_)
      · refine zp_const (pc := 33) hx hb (zd_X12_giveBack (33, .iconst 0, 1, 0, []) (List.mem_of_getElem? (i := 18) rfl)) rfl rfl ?_
        refine zp_store (L' := [(2, 0, 0), (0, 2, (a : Int)), (1, 0, p1)]) (pc := 34) hx hb hnL (zd_X12_giveBack (34, .istore_n 2, 1, 0, []) (List.mem_of_getElem? (i := 19) rfl)) rfl rfl rfl ?_
        exact loop1 17 0 P Gp G (by omega) (by omega) q0 q6 q7 q9 q10 g6 g7 g9 g10 g20 za
      · refine zp_load (pc := 15) hx hb (zd_X12_giveBack (15, .aload_n 0, 1, 0, []) (List.mem_of_getElem? (i := 8) rfl)) rfl (j := 1) rfl ?_
        refine zp_getf (n := (b6 : Int)) (pc := 16) hx hb hE hw (zd_X12_giveBack (16, .getfield 23, 3, 0, []) (List.mem_of_getElem? (i := 9) rfl)) (j := 24) rfl rfl rfl q0 ((za 6).trans g6) ?_
        refine zp_load (pc := 19) hx hb (zd_X12_giveBack (19, .iload_n 2, 1, 0, []) (List.mem_of_getElem? (i := 10) rfl)) rfl (j := 0) rfl ?_
        refine zp_load (pc := 20) hx hb (zd_X12_giveBack (20, .aload_n 0, 1, 0, []) (List.mem_of_getElem? (i := 11) rfl)) rfl (j := 1) rfl ?_
        refine zp_getf (n := (b9 : Int)) (pc := 21) hx hb hE hw (zd_X12_giveBack (21, .getfield 29, 3, 0, []) (List.mem_of_getElem? (i := 12) rfl)) (j := 27) rfl rfl rfl q0 ((za 9).trans g9) ?_
        refine zp_load (pc := 24) hx hb (zd_X12_giveBack (24, .iload_n 2, 1, 0, []) (List.mem_of_getElem? (i := 13) rfl)) rfl (j := 0) rfl ?_
        refine zp_ialdT (j := i) (v := (G b9 (2000 + i))) (pc := 25) hx hb hw (zd_X12_giveBack (25, .iaload, 1, 0, []) (List.mem_of_getElem? (i := 14) rfl)) (T := zo_T64) rfl rfl (by rw [zo_fj]; exact zo_kd _) q9 rfl (show i < 544 by omega) rfl (fun hrow => ?_)
        refine zp_iastT (j := i) (pc := 26) hx hb hw heff (zd_X12_giveBack (26, .iastore, 1, 0, []) (List.mem_of_getElem? (i := 15) rfl)) (T := zo_T62) rfl rfl (zo_kd _) q6 rfl (show i < 612 by omega) (by omega) (by rw [← zo_fj]; exact hrow) (Or.inr (by decide)) rfl ?_
        refine zp_iinc (L' := [(2, 0, ((i : Int) + 1)), (0, 2, (a : Int)), (1, 0, p1)]) (n := ((i : Int) + 1)) (pc := 27) hx hb hnL (zd_X12_giveBack (27, .iinc 2 1, 3, 0, []) (List.mem_of_getElem? (i := 16) rfl)) (j := 0) rfl (by omega) (zp_r0 (by omega) (by omega)) rfl rfl ?_
        refine zp_goto (tgt := 8) (pc := 30) hx hb (zd_X12_giveBack (30, .goto (-22), 3, 0, []) (List.mem_of_getElem? (i := 17) rfl)) rfl ?_
        exact ih (i + 1) P Gp _ (by omega) (by omega) q0 q6 q7 q9 q10 g6 g7 g9 g10 g20 (fun k => (zp_set_ne (Or.inl (zp_pne q0 q6 (by decide)))).trans (za k))
  refine zp_load (pc := 0) hx hb (zd_X12_giveBack (0, .aload_n 0, 1, 0, []) (List.mem_of_getElem? (i := 0) rfl)) rfl (j := 0) rfl ?_
  refine zp_const (pc := 1) hx hb (zd_X12_giveBack (1, .bipush 17, 2, 0, []) (List.mem_of_getElem? (i := 1) rfl)) rfl rfl ?_
  refine zp_call (pc := 3) (how := 0) (idx := 178) (mi := 184) (S := []) hx hb hE hw heff hrm (zp_sw13 hW (zq_1001 hW) (by decide +kernel) (by decide +kernel)) rfl (j := 1) rfl rfl (by decide +kernel) (zd_X12_giveBack (3, .invokevirtual 178, 3, 0, []) (List.mem_of_getElem? (i := 2) rfl)) [(a : Int), 17] rfl ⟨zp_o2 hp, zp_o0 (by decide) (by decide) (by decide) (by decide), trivial⟩ (Nat.le_of_ble_eq_true rfl) (show zp_n u.2.1 (zp_0 [(a : Int), 17]) 20 = 0 from hφ) (fun al hal rnb Pb Gb hextb hfrb hokb hcsb hpsib => ?_)
  obtain rfl := List.mem_singleton.mp hal
  have hzb : Gb a 20 = 0 := hpsib
  have f6 : Gb a 6 = (b6 : Int) := ((zp_nf hfrb hp rfl).trans hb6)
  have f7 : Gb a 7 = (b7 : Int) := ((zp_nf hfrb hp rfl).trans hb7)
  have f9 : Gb a 9 = (b9 : Int) := ((zp_nf hfrb hp rfl).trans hb9)
  have f10 : Gb a 10 = (b10 : Int) := ((zp_nf hfrb hp rfl).trans hb10)
  refine zp_const (pc := 6) hx hb (zd_X12_giveBack (6, .iconst 0, 1, 0, []) (List.mem_of_getElem? (i := 3) rfl)) rfl rfl ?_
  refine zp_store (L' := [(2, 0, 0), (0, 2, (a : Int)), (1, 0, p1)]) (pc := 7) hx hb hnL (zd_X12_giveBack (7, .istore_n 2, 1, 0, []) (List.mem_of_getElem? (i := 4) rfl)) rfl rfl rfl ?_
  exact loop0 545 0 Pb Gb Gb (by omega) (by omega) (hextb _ _ hp) (hextb _ _ hq6) (hextb _ _ hq7) (hextb _ _ hq9) (hextb _ _ hq10) f6 f7 f9 f10 hzb (fun _ => rfl)
def zK_or : zk_K := (zt_mn 287, prog_14_method_112_code, 4, (Option.some Jvm.ClassFile.FieldType.int), 1, 12, [(2, 92, 0, 0)], [(some (0, 0, (-6), 2147483647), [])], [(92, 0, 0), (92, 59, 0), (92, 20, 0), (92, 13, 0), (92, 14, 0), (92, 15, 0), (92, 16, 0), (92, 17, 0), (92, 18, 0), (92, 19, 0), (92, 30, 0), (92, 29, 0), (92, 23, 0), (68, 1001, 0), (69, 1001, 0), (70, 1001, 0), (71, 1001, 0), (92, 26, 0), (90, 1001, 0), (92, 21, 0), (64, 1001, 0), (65, 1001, 0), (92, 1, 0), (58, 1001, 0), (62, 1001, 0), (63, 1002, 0), (92, 8, 0), (81, 1002, 0), (82, 1002, 0), (78, 1002, 0), (75, 1002, 0), (92, 34, 0), (92, 40, 0), (92, 38, 0), (92, 39, 0), (77, 1001, 0), (79, 1002, 0), (83, 1002, 0), (80, 1002, 0), (80, 1001, 0), (59, 4318, 0), (13, 8, 0), (13, 34, 0), (13, 40, 0), (13, 38, 0), (13, 39, 0), (92, 60, 0), (92, 57, 0), (92, 58, 0), (76, 1001, 0), (63, 1001, 0)], (26, 1170, 0, 0))