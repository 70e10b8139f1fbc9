/-! part 7c: giveBack, orders -/
def zo_or (a b24 b25 b56 ncl : Nat) (P : Nat → Option Nat) (G : Nat → Nat → Int) : Prop := P a = some 92 ∧ P b24 = some 68 ∧ P b25 = some 69 ∧ P b56 = some 90 ∧ G a 24 = (b24 : Int) ∧ G a 25 = (b25 : Int) ∧ G a 56 = (b56 : Int) ∧ G a 20 = 0 ∧ G a 19 = 0 ∧ G a 21 = (ncl : Int) ∧ ncl ≤ 12 ∧ ∀ c, c < ncl → zo_pr a G (8 * c + 1) ∧ zo_pr a G (8 * c + 3) ∧ zo_pr a G (8 * c + 5) ∧ zv G a 56 (8 * c + 7) ≤ 20
theorem zo_or_ru {a b24 b25 b56 ncl c : Nat} {P : Nat → Option Nat} {G : Nat → Nat → Int} (h : zo_or a b24 b25 b56 ncl P G) (hc : c < ncl) : zo_ru a b24 b25 b56 (8 * c) (G a 57) P G := by
  obtain ⟨r0, r1, r2, r3, e24, e25, e56, e20, e19, -, -, hp⟩ := h
  exact ⟨r0, r1, r2, r3, e24, e25, e56, e20, e19, (hp c hc).1, (hp c hc).2.1, (hp c hc).2.2.1, rfl⟩
theorem zo_or_keep {a b24 b25 b56 ncl : Nat} {P P' : Nat → Option Nat} {G G' : Nat → Nat → Int} (h : zo_or a b24 b25 b56 ncl P G) (hx : ∀ b t, P b = some t → P' b = some t) (h19 : G' a 19 = G a 19) (h20 : G' a 20 = 0) (h21 : G' a 21 = G a 21) (h23 : G' a 23 = G a 23) (h24 : G' a 24 = G a 24) (h25 : G' a 25 = G a 25) (h56 : G' a 56 = G a 56) (q24 : ∀ k, G' b24 k = G b24 k) (q25 : ∀ k, G' b25 k = G b25 k) (q56 : ∀ k, G' b56 k = G b56 k) : zo_or a b24 b25 b56 ncl P' G' := by
  obtain ⟨r0, r1, r2, r3, e24, e25, e56, e20, e19, e21, hn, hp⟩ := h
  have v24 : ∀ j, zv G' a 24 j = zv G a 24 j := fun j => by rw [zv_eq (h24.trans e24), zv_eq e24, q24]
  have v25 : ∀ j, zv G' a 25 j = zv G a 25 j := fun j => by rw [zv_eq (h25.trans e25), zv_eq e25, q25]
  have v56 : ∀ j, zv G' a 56 j = zv G a 56 j := fun j => by rw [zv_eq (h56.trans e56), zv_eq e56, q56]
  exact ⟨hx _ _ r0, hx _ _ r1, hx _ _ r2, hx _ _ r3, h24.trans e24, h25.trans e25, h56.trans e56, h20, h19.trans e19, h21.trans e21, hn, fun c hc => ⟨zo_pr_same (hp c hc).1 h19 h23 v24 v25 v56, zo_pr_same (hp c hc).2.1 h19 h23 v24 v25 v56, zo_pr_same (hp c hc).2.2.1 h19 h23 v24 v25 v56, by rw [v56]; exact (hp c hc).2.2.2⟩⟩
theorem zo_or_fr {eff : List (Nat × Nat × Nat)} {ps : List Int} {a b24 b25 b56 ncl : Nat} {P P' : Nat → Option Nat} {G G' : Nat → Nat → Int} (h : zo_or a b24 b25 b56 ncl P G) (hx : ∀ b t, P b = some t → P' b = some t) (hfr : zp_fr eff ps P G G') (he : (zo_eb eff && zp_nfb eff 92 21) = true) (h20 : G' a 20 = 0) : zo_or a b24 b25 b56 ncl P' G' := by
  unfold zo_eb at he
  simp only [Bool.and_eq_true] at he
  obtain ⟨⟨f1, f2, f3, f4, f5, f6, f7, f8⟩, f9⟩ := he
  have h' := h
  obtain ⟨r0, r1, r2, r3, -⟩ := h'
  exact zo_or_keep h hx (zp_nf hfr r0 f1) h20 (zp_nf hfr r0 f9) (zp_nf hfr r0 f2) (zp_nf hfr r0 f3) (zp_nf hfr r0 f4) (zp_nf hfr r0 f5) (zp_nc hfr r1 f6) (zp_nc hfr r2 f7) (zp_nc hfr r3 f8)
theorem zo_or_set {a b24 b25 b56 ncl b t k : Nat} {v : Int} {P : Nat → Option Nat} {G : Nat → Nat → Int} (h : zo_or a b24 b25 b56 ncl P G) (hb : P b = some t) (he : (zo_sb t k && (t != 92 || k != 21)) = true) : zo_or a b24 b25 b56 ncl P (zp_set G b k v) := by
  unfold zo_sb at he
  simp only [Bool.and_eq_true, Bool.or_eq_true, bne_iff_ne] at he
  obtain ⟨⟨f1, f2, f3, f4⟩, f5⟩ := he
  have h' := h
  obtain ⟨r0, r1, r2, r3, -, -, -, e20, -⟩ := h'
  have ne : ∀ j, (t = 92 → k ≠ j) → zp_set G b k v a j = G a j := fun j hj => zp_set_ne (by
    by_cases e : t = 92
    · exact Or.inr (fun z => hj e z.symm)
    · exact Or.inl (zp_pne r0 hb (fun z => e z.symm)))
  have f4' : ∀ j, j = 19 ∨ j = 20 ∨ j = 21 ∨ j = 23 ∨ j = 24 ∨ j = 25 ∨ j = 56 → t = 92 → k ≠ j := fun j hj e => by
    rcases f4 with f4 | f4
    · exact absurd e f4
    rcases f5 with f5 | f5
    · exact absurd e f5
    · omega
  exact zo_or_keep h (fun _ _ z => z) (ne 19 (f4' _ (by omega))) ((ne 20 (f4' _ (by omega))).trans e20) (ne 21 (f4' _ (by omega))) (ne 23 (f4' _ (by omega))) (ne 24 (f4' _ (by omega))) (ne 25 (f4' _ (by omega))) (ne 56 (f4' _ (by omega))) (fun k => zp_set_ne (Or.inl (zp_pne r1 hb (fun z => f1 z.symm)))) (fun k => zp_set_ne (Or.inl (zp_pne r2 hb (fun z => f2 z.symm)))) (fun k => zp_set_ne (Or.inl (zp_pne r3 hb (fun z => f3 z.symm))))
def zo_T62 : zk_T := zt_types.getD 62 (0, 0, 0, [])
def zo_T64 : zk_T := zt_types.getD 64 (0, 0, 0, [])
theorem zo_fj (j : Nat) : zk_fj zo_T64 j = zk_fj zo_T62 j := by
  unfold zk_fj zk_f0
  rw [show zo_T64.2.2.2 = zo_T62.2.2.2 from by decide +kernel]
theorem zo_kd (j : Nat) : (zk_fj zo_T62 j).1 = 0 := by
  have h : zk_fj zo_T62 j = zk_rgn zo_T62.2.2.2.tail (j % 34) := by
    show (if (zk_f0 zo_T62).1 = 9 then zk_rgn zo_T62.2.2.2.tail (j % (zk_f0 zo_T62).2.1) else zk_f0 zo_T62) = _
    rw [if_pos (by decide +kernel), show (zk_f0 zo_T62).2.1 = 34 from by decide +kernel]
  rw [h]
  have hall : ((List.range 34).all fun i => (zk_rgn zo_T62.2.2.2.tail i).1 == 0) = true := by decide +kernel
  have := List.all_eq_true.mp hall (j % 34) (List.mem_range.mpr (Nat.mod_lt _ (by decide)))
  rw [beq_iff_eq] at this
  exact this
def zK_gb : zk_K := (zt_mn 292, prog_14_method_113_code, 3, (Option.none : Option Jvm.ClassFile.FieldType), 1, 12, [(2, 92, 0, 0), (0, 0, 0, 16)], [(none, [])], [(59, 4318, 0), (62, 1001, 0), (63, 1001, 0), (92, 8, 0)], (1, 80, 0, 0))
def zφ_gb : (Nat → Option Nat) → (Nat → Nat → Int) → List Int → Prop := fun _ G ps => G (zp_0 ps) 20 = 0
def zψ_gb : (Nat → Option Nat) → (Nat → Nat → Int) → List Int → (Nat → Option Nat) → (Nat → Nat → Int) → Int → Prop := fun P G ps P' G' rn => G' (zp_0 ps) 20 = 0
theorem zX_gb {l : Launch} {w : zk_W} (hW : zh_W w) : zk_metX l w zt_dv zt_TB zK_gb (zp_A zφ_gb) (zp_B zψ_gb) ∧ zk_cok w zt_TB zK_gb := by
  refine zp_meth hW (pl := 2029) rfl (by decide +kernel) (fun p e R s m args below meth c Q u hx hb hE hQ hU5 heff hnL hok hφ => ?_)
  have hw := hW.1
  obtain ⟨p0, p1, hps, k0, k1⟩ := zp_ps2 hok
  obtain ⟨a, rfl, hp⟩ := zp_this k0
  have hrm : zk_Kr (zk_ev (zp_E zK_gb)) = zk_Kr zK_gb := rfl
  rw [hps] at hφ ⊢
  have hi1 := zp_int k1
  have hφ : zp_n u.2.1 a 20 = 0 := hφ
  show zp_J p l e R s m args below meth c Q w u [] 0 [(0, 2, (a : Int)), (1, 0, p1)] [] u.1 (zp_n u.2.1)
  refine zp_kn (k := 6) (a := a) hw (show zp_fd 92 6 = some (12, 2, 62, 0, 0) from rfl) rfl hp (fun hk6 => ?_)
  obtain ⟨b6, hb6, hq6⟩ := zp_this hk6
  refine zp_kn (k := 7) (a := a) hw (show zp_fd 92 7 = some (12, 2, 63, 0, 0) from rfl) rfl hp (fun hk7 => ?_)
  obtain ⟨b7, hb7, hq7⟩ := zp_this hk7
  refine zp_kn (k := 9) (a := a) hw (show zp_fd 92 9 = some (12, 2, 64, 0, 0) from rfl) rfl hp (fun hk9 => ?_)
  obtain ⟨b9, hb9, hq9⟩ := zp_this hk9
  refine zp_kn (k := 10) (a := a) hw (show zp_fd 92 10 = some (12, 2, 65, 0, 0) from rfl) rfl hp (fun hk10 => ?_)
  obtain ⟨b10, hb10, hq10⟩ := zp_this hk10
  have loop1 : ∀ (n i : Nat) (P : Nat → Option Nat) (Gp G : Nat → Nat → Int), 16 - i < n → i ≤ 16 → P a = some 92 → P b6 = some 62 → P b7 = some 63 → P b9 = some 64 → P b10 = some 65 → Gp a 6 = (b6 : Int) → Gp a 7 = (b7 : Int) → Gp a 9 = (b9 : Int) → Gp a 10 = (b10 : Int) → Gp a 20 = 0 → (∀ k, G a k = Gp a k) → zp_J p l e R s m args below meth c Q w u [] 35 [(2, 0, (i : Int)), (0, 2, (a : Int)), (1, 0, p1)] [] P G := by
    intro n
    induction n with
    | zero => intro i P Gp G h; exact absurd h (Nat.not_lt_zero _)
    | succ n ih =>
      intro i P Gp G hn hi q0 q6 q7 q9 q10 g6 g7 g9 g10 g20 za
      refine zp_load (pc := 35) hx hb (zd_X12_giveBack (35, .iload_n 2, 1, 0, []) (List.mem_of_getElem? (i := 20) rfl)) rfl (j := 0) rfl ?_
      refine zp_const (pc := 36) hx hb (zd_X12_giveBack (36, .bipush 16, 2, 0, []) (List.mem_of_getElem? (i := 21) rfl)) rfl rfl ?_
      refine zp_icmp (pc := 38) (tgt := 59) hx hb (zd_X12_giveBack (38, .if_icmp .ge 21, 3, 0, []) (List.mem_of_getElem? (i := 22) rfl)) rfl (fun (hc215 : 16 ≤ (i : Int)) => ?_) (fun (hc215 : ¬ (16 ≤ (i : Int))) => ?_)
      · refine zp_load (pc := 59) hx hb (zd_X12_giveBack (59, .aload_n 0, 1, 0, []) (List.mem_of_getElem? (i := 33) rfl)) rfl (j := 1) rfl ?_
        refine zp_load (pc := 60) hx hb (zd_X12_giveBack (60, .iload_n 1, 1, 0, []) (List.mem_of_getElem? (i := 34) rfl)) rfl (j := 2) rfl ?_
        refine zp_putf (pc := 61) hx hb hE hw heff (zd_X12_giveBack (61, .putfield 167, 3, 0, []) (List.mem_of_getElem? (i := 35) rfl)) (j := 26) rfl rfl rfl q0 (zp_o0 (by omega) (by omega) (by omega) (by omega)) ?_
        refine zp_vret (pc := 64) hx hb hE hQ hU5 rfl (by decide) (zd_X12_giveBack (64, .return_, 1, 0, []) (List.mem_of_getElem? (i := 36) rfl)) (j := 0) rfl ?_
        rw [hps]
        exact (show (zp_set G a 8 p1) a 20 = 0 from ((zp_set_ne (Or.inr (by decide))).trans (((za 20).trans g20))))
      · refine zp_load (pc := 41) hx hb (zd_X12_giveBack (41, .aload_n 0, 1, 0, []) (List.mem_of_getElem? (i := 23) rfl)) rfl (j := 1) rfl ?_
        refine zp_getf (n := (b7 : Int)) (pc := 42) hx hb hE hw (zd_X12_giveBack (42, .getfield 26, 3, 0, []) (List.mem_of_getElem? (i := 24) rfl)) (j := 25) rfl rfl rfl q0 ((za 7).trans g7) ?_
        refine zp_load (pc := 45) hx hb (zd_X12_giveBack (45, .iload_n 2, 1, 0, []) (List.mem_of_getElem? (i := 25) rfl)) rfl (j := 0) rfl ?_
        refine zp_load (pc := 46) hx hb (zd_X12_giveBack (46, .aload_n 0, 1, 0, []) (List.mem_of_getElem? (i := 26) rfl)) rfl (j := 1) rfl ?_
        refine zp_getf (n := (b10 : Int)) (pc := 47) hx hb hE hw (zd_X12_giveBack (47, .getfield 32, 3, 0, []) (List.mem_of_getElem? (i := 27) rfl)) (j := 28) rfl rfl rfl q0 ((za 10).trans g10) ?_
        refine zp_load (pc := 50) hx hb (zd_X12_giveBack (50, .iload_n 2, 1, 0, []) (List.mem_of_getElem? (i := 28) rfl)) rfl (j := 0) rfl ?_
        refine zp_iald (j := i) (v := (G b10 (2000 + i))) (pc := 51) hx hb hw (zd_X12_giveBack (51, .iaload, 1, 0, []) (List.mem_of_getElem? (i := 29) rfl)) (show zp_ia 1 65 = some (16, 0, 0, 0, 3) from rfl) q10 (by omega) (by omega) rfl (fun hk216 => ?_)
        have hk216b := zp_int hk216
        refine zp_iast (j := i) (pc := 52) hx hb hw heff (zd_X12_giveBack (52, .iastore, 1, 0, []) (List.mem_of_getElem? (i := 30) rfl)) (show zp_ia 1 63 = some (16, 0, 0, 0, 3) from rfl) q7 (by omega) (by omega) (zp_o0 (by omega) (by omega) (by omega) (by omega)) rfl ?_
        refine zp_iinc (L' := [(2, 0, ((i : Int) + 1)), (0, 2, (a : Int)), (1, 0, p1)]) (n := ((i : Int) + 1)) (pc := 53) hx hb hnL (zd_X12_giveBack (53, .iinc 2 1, 3, 0, []) (List.mem_of_getElem? (i := 31) rfl)) (j := 0) rfl (by omega) (zp_r0 (by omega) (by omega)) rfl rfl ?_
        refine zp_goto (tgt := 35) (pc := 56) hx hb (zd_X12_giveBack (56, .goto (-21), 3, 0, []) (List.mem_of_getElem? (i := 32) rfl)) rfl ?_
        exact ih (i + 1) P Gp _ (by omega) (by omega) q0 q6 q7 q9 q10 g6 g7 g9 g10 g20 (fun k => (zp_set_ne (Or.inl (zp_pne q0 q7 (by decide)))).trans (za k))
  have loop0 : ∀ (n i : Nat) (P : Nat → Option Nat) (Gp G : Nat → Nat → Int), 544 - i < n → i ≤ 544 → P a = some 92 → P b6 = some 62 → P b7 = some 63 → P b9 = some 64 → P b10 = some 65 → Gp a 6 = (b6 : Int) → Gp a 7 = (b7 : Int) → Gp a 9 = (b9 : Int) → Gp a 10 = (b10 : Int) → Gp a 20 = 0 → (∀ k, G a k = Gp a k) → zp_J p l e R s m args below meth c Q w u [] 8 [(2, 0, (i : Int)), (0, 2, (a : Int)), (1, 0, p1)] [] P G := by
    intro n
    induction n with
    | zero => intro i P Gp G h; exact absurd h (Nat.not_lt_zero _)
    | succ n ih =>
      intro i P Gp G hn hi q0 q6 q7 q9 q10 g6 g7 g9 g10 g20 za
      refine zp_load (pc := 8) hx hb (zd_X12_giveBack (8, .iload_n 2, 1, 0, []) (List.mem_of_getElem? (i := 5) rfl)) rfl (j := 0) rfl ?_
      refine zp_const (pc := 9) hx hb (zd_X12_giveBack (9, .sipush 544, 3, 0, []) (List.mem_of_getElem? (i := 6) rfl)) rfl rfl ?_
      refine zp_icmp (pc := 12) (tgt := 33) hx hb (zd_X12_giveBack (12, .if_icmp .ge 21, 3, 0, []) (List.mem_of_getElem? (i := 7) rfl)) rfl (fun (hc217 : 544 ≤ (i : Int)) => ?_) (fun (hc217 : ¬ (544 ≤ (i : Int))) => ?_)
      · refine zp_const (pc := 33) hx hb (zd_X12_giveBack (33, .iconst 0, 1, 0, []) (List.mem_of_getElem? (i := 18) rfl)) rfl rfl ?_
        refine zp_store (L' := [(2, 0, 0), (0, 2, (a : Int)), (1, 0, p1)]) (pc := 34) hx hb hnL (zd_X12_giveBack (34, .istore_n 2, 1, 0, []) (List.mem_of_getElem? (i := 19) rfl)) rfl rfl rfl ?_
        exact loop1 17 0 P Gp G (by omega) (by omega) q0 q6 q7 q9 q10 g6 g7 g9 g10 g20 za
      · refine zp_load (pc := 15) hx hb (zd_X12_giveBack (15, .aload_n 0, 1, 0, []) (List.mem_of_getElem? (i := 8) rfl)) rfl (j := 1) rfl ?_
        refine zp_getf (n := (b6 : Int)) (pc := 16) hx hb hE hw (zd_X12_giveBack (16, .getfield 23, 3, 0, []) (List.mem_of_getElem? (i := 9) rfl)) (j := 24) rfl rfl rfl q0 ((za 6).trans g6) ?_
        refine zp_load (pc := 19) hx hb (zd_X12_giveBack (19, .iload_n 2, 1, 0, []) (List.mem_of_getElem? (i := 10) rfl)) rfl (j := 0) rfl ?_
        refine zp_load (pc := 20) hx hb (zd_X12_giveBack (20, .aload_n 0, 1, 0, []) (List.mem_of_getElem? (i := 11) rfl)) rfl (j := 1) rfl ?_
        refine zp_getf (n := (b9 : Int)) (pc := 21) hx hb hE hw (zd_X12_giveBack (21, .getfield 29, 3, 0, []) (List.mem_of_getElem? (i := 12) rfl)) (j := 27) rfl rfl rfl q0 ((za 9).trans g9) ?_
        refine zp_load (pc := 24) hx hb (zd_X12_giveBack (24, .iload_n 2, 1, 0, []) (List.mem_of_getElem? (i := 13) rfl)) rfl (j := 0) rfl ?_
        refine zp_ialdT (j := i) (v := (G b9 (2000 + i))) (pc := 25) hx hb hw (zd_X12_giveBack (25, .iaload, 1, 0, []) (List.mem_of_getElem? (i := 14) rfl)) (T := zo_T64) rfl rfl (by rw [zo_fj]; exact zo_kd _) q9 rfl (show i < 544 by omega) rfl (fun hrow => ?_)
        refine zp_iastT (j := i) (pc := 26) hx hb hw heff (zd_X12_giveBack (26, .iastore, 1, 0, []) (List.mem_of_getElem? (i := 15) rfl)) (T := zo_T62) rfl rfl (zo_kd _) q6 rfl (show i < 612 by omega) (by omega) (by rw [← zo_fj]; exact hrow) (Or.inr (by decide)) rfl ?_
        refine zp_iinc (L' := [(2, 0, ((i : Int) + 1)), (0, 2, (a : Int)), (1, 0, p1)]) (n := ((i : Int) + 1)) (pc := 27) hx hb hnL (zd_X12_giveBack (27, .iinc 2 1, 3, 0, []) (List.mem_of_getElem? (i := 16) rfl)) (j := 0) rfl (by omega) (zp_r0 (by omega) (by omega)) rfl rfl ?_
        refine zp_goto (tgt := 8) (pc := 30) hx hb (zd_X12_giveBack (30, .goto (-22), 3, 0, []) (List.mem_of_getElem? (i := 17) rfl)) rfl ?_
        exact ih (i + 1) P Gp _ (by omega) (by omega) q0 q6 q7 q9 q10 g6 g7 g9 g10 g20 (fun k => (zp_set_ne (Or.inl (zp_pne q0 q6 (by decide)))).trans (za k))
  refine zp_load (pc := 0) hx hb (zd_X12_giveBack (0, .aload_n 0, 1, 0, []) (List.mem_of_getElem? (i := 0) rfl)) rfl (j := 0) rfl ?_
  refine zp_const (pc := 1) hx hb (zd_X12_giveBack (1, .bipush 17, 2, 0, []) (List.mem_of_getElem? (i := 1) rfl)) rfl rfl ?_
  refine zp_call (pc := 3) (how := 0) (idx := 178) (mi := 184) (S := []) hx hb hE hw heff hrm (zp_sw13 hW (zq_1001 hW) (by decide +kernel) (by decide +kernel)) rfl (j := 1) rfl rfl (by decide +kernel) (zd_X12_giveBack (3, .invokevirtual 178, 3, 0, []) (List.mem_of_getElem? (i := 2) rfl)) [(a : Int), 17] rfl ⟨zp_o2 hp, zp_o0 (by decide) (by decide) (by decide) (by decide), trivial⟩ (Nat.le_of_ble_eq_true rfl) (show zp_n u.2.1 (zp_0 [(a : Int), 17]) 20 = 0 from hφ) (fun al hal rnb Pb Gb hextb hfrb hokb hcsb hpsib => ?_)
  obtain rfl := List.mem_singleton.mp hal
  have hzb : Gb a 20 = 0 := hpsib
  have f6 : Gb a 6 = (b6 : Int) := ((zp_nf hfrb hp rfl).trans hb6)
  have f7 : Gb a 7 = (b7 : Int) := ((zp_nf hfrb hp rfl).trans hb7)
  have f9 : Gb a 9 = (b9 : Int) := ((zp_nf hfrb hp rfl).trans hb9)
  have f10 : Gb a 10 = (b10 : Int) := ((zp_nf hfrb hp rfl).trans hb10)
  refine zp_const (pc := 6) hx hb (zd_X12_giveBack (6, .iconst 0, 1, 0, []) (List.mem_of_getElem? (i := 3) rfl)) rfl rfl ?_
  refine zp_store (L' := [(2, 0, 0), (0, 2, (a : Int)), (1, 0, p1)]) (pc := 7) hx hb hnL (zd_X12_giveBack (7, .istore_n 2, 1, 0, []) (List.mem_of_getElem? (i := 4) rfl)) rfl rfl rfl ?_
  exact loop0 545 0 Pb Gb Gb (by omega) (by omega) (hextb _ _ hp) (hextb _ _ hq6) (hextb _ _ hq7) (hextb _ _ hq9) (hextb _ _ hq10) f6 f7 f9 f10 hzb (fun _ => rfl)
def zK_or : zk_K := (zt_mn 287, prog_14_method_112_code, 4, (Option.some Jvm.ClassFile.FieldType.int), 1, 12, [(2, 92, 0, 0)], [(some (0, 0, (-6), 2147483647), [])], [(92, 0, 0), (92, 59, 0), (92, 20, 0), (92, 13, 0), (92, 14, 0), (92, 15, 0), (92, 16, 0), (92, 17, 0), (92, 18, 0), (92, 19, 0), (92, 30, 0), (92, 29, 0), (92, 23, 0), (68, 1001, 0), (69, 1001, 0), (70, 1001, 0), (71, 1001, 0), (92, 26, 0), (90, 1001, 0), (92, 21, 0), (64, 1001, 0), (65, 1001, 0), (92, 1, 0), (58, 1001, 0), (62, 1001, 0), (63, 1002, 0), (92, 8, 0), (81, 1002, 0), (82, 1002, 0), (78, 1002, 0), (75, 1002, 0), (92, 34, 0), (92, 40, 0), (92, 38, 0), (92, 39, 0), (77, 1001, 0), (79, 1002, 0), (83, 1002, 0), (80, 1002, 0), (80, 1001, 0), (59, 4318, 0), (13, 8, 0), (13, 34, 0), (13, 40, 0), (13, 38, 0), (13, 39, 0), (92, 60, 0), (92, 57, 0), (92, 58, 0), (76, 1001, 0), (63, 1001, 0)], (26, 1170, 0, 0))
def zφ_or : (Nat → Option Nat) → (Nat → Nat → Int) → List Int → Prop := fun _ G ps => G (zp_0 ps) 20 = 0
def zψ_or : (Nat → Option Nat) → (Nat → Nat → Int) → List Int → (Nat → Option Nat) → (Nat → Nat → Int) → Int → Prop := fun P G ps P' G' rn => G' (zp_0 ps) 20 = 0
theorem zX_or {l : Launch} {w : zk_W} (hW : zh_W w) : zk_metX l w zt_dv zt_TB zK_or (zp_A zφ_or) (zp_B zψ_or) ∧ zk_cok w zt_TB zK_or := by
  refine zp_meth hW (pl := 2003) rfl (by decide +kernel) (fun p e R s m args below meth c Q u hx hb hE hQ hU5 heff hnL hok hφ => ?_)
  have hw := hW.1
  obtain ⟨p0, hps, k0⟩ := zp_ps1 hok
  obtain ⟨a, rfl, hp⟩ := zp_this k0
  have hrm : zk_Kr (zk_ev (zp_E zK_or)) = zk_Kr zK_or := rfl
  rw [hps] at hφ ⊢
  have hφ : zp_n u.2.1 a 20 = 0 := hφ
  show zp_J p l e R s m args below meth c Q w u [] 0 [(0, 2, (a : Int))] [] u.1 (zp_n u.2.1)
  refine zp_kn (k := 6) (a := a) hw (show zp_fd 92 6 = some (12, 2, 62, 0, 0) from rfl) rfl hp (fun hk6 => ?_)
  obtain ⟨b6, hb6, hq6⟩ := zp_this hk6
  refine zp_kn (k := 7) (a := a) hw (show zp_fd 92 7 = some (12, 2, 63, 0, 0) from rfl) rfl hp (fun hk7 => ?_)
  obtain ⟨b7, hb7, hq7⟩ := zp_this hk7
  refine zp_kn (k := 9) (a := a) hw (show zp_fd 92 9 = some (12, 2, 64, 0, 0) from rfl) rfl hp (fun hk9 => ?_)
  obtain ⟨b9, hb9, hq9⟩ := zp_this hk9
  refine zp_kn (k := 10) (a := a) hw (show zp_fd 92 10 = some (12, 2, 65, 0, 0) from rfl) rfl hp (fun hk10 => ?_)
  obtain ⟨b10, hb10, hq10⟩ := zp_this hk10
  refine zp_kn (k := 24) (a := a) hw (show zp_fd 92 24 = some (12, 2, 68, 0, 0) from rfl) rfl hp (fun hk24 => ?_)
  obtain ⟨b24, hb24, hq24⟩ := zp_this hk24
  refine zp_kn (k := 25) (a := a) hw (show zp_fd 92 25 = some (12, 2, 69, 0, 0) from rfl) rfl hp (fun hk25 => ?_)
  obtain ⟨b25, hb25, hq25⟩ := zp_this hk25
  refine zp_kn (k := 56) (a := a) hw (show zp_fd 92 56 = some (12, 2, 90, 0, 0) from rfl) rfl hp (fun hk56 => ?_)
  obtain ⟨b56, hb56, hq56⟩ := zp_this hk56
  have runs : ∀ (n i nu ncl : Nat) (P : Nat → Option Nat) (G : Nat → Nat → Int), ncl - i < n → i ≤ ncl → nu ≤ 16 → zo_or a b24 b25 b56 ncl P G → 0 ≤ G a 57 → G a 57 ≤ 20 * (i : Int) → zp_J p l e R s m args below meth c Q w u [] 140 [(2, 0, (i : Int)), (1, 0, (nu : Int)), (0, 2, (a : Int))] [] P G := by
    intro n
    induction n with
    | zero => intro i nu ncl P G h; exact absurd h (Nat.not_lt_zero _)
    | succ n ih =>
      intro i nu ncl P G hn hi hnu hor hd0 hd1
      have inner : ∀ (k : Nat) (kk : Nat) (P : Nat → Option Nat) (G : Nat → Nat → Int), i < ncl → (zv G a 56 (8 * i + 7) - (kk : Int)).toNat < k → zo_or a b24 b25 b56 ncl P G → 0 ≤ G a 57 → G a 57 ≤ 20 * (i : Int) + (kk : Int) → kk ≤ 20 → zp_J p l e R s m args below meth c Q w u [] 150 [(3, 0, (kk : Int)), (2, 0, (i : Int)), (1, 0, (nu : Int)), (0, 2, (a : Int))] [] P G := by
        intro k
        induction k with
        | zero => intro kk P G h1 h; exact absurd h (Nat.not_lt_zero _)
        | succ k ihk =>
          intro kk P G hin hk hor hd0 hd1 hd2
          have hor1 := hor
          obtain ⟨r0, r1, r2, r3, e24, e25, e56, e20, e19, e21, hncl, hprs⟩ := hor1
          have hct := (hprs i hin).2.2.2
          have hv7 : zv G a 56 (8 * i + 7) = G b56 (2000 + (8 * i + 7)) := zv_eq e56 _
          rw [hv7] at hk hct
          refine zp_load (pc := 150) hx hb (zd_X12_orders (150, .iload_n 3, 1, 0, []) (List.mem_of_getElem? (i := 82) rfl)) rfl (j := 0) rfl ?_
          refine zp_load (pc := 151) hx hb (zd_X12_orders (151, .aload_n 0, 1, 0, []) (List.mem_of_getElem? (i := 83) rfl)) rfl (j := 3) rfl ?_
          refine zp_getf (n := (b56 : Int)) (pc := 152) hx hb hE hw (zd_X12_orders (152, .getfield 149, 3, 0, []) (List.mem_of_getElem? (i := 84) rfl)) (j := 74) rfl rfl rfl r0 e56 ?_
          refine zp_const (pc := 155) hx hb (zd_X12_orders (155, .bipush 8, 2, 0, []) (List.mem_of_getElem? (i := 85) rfl)) rfl rfl ?_
          refine zp_load (pc := 157) hx hb (zd_X12_orders (157, .iload_n 2, 1, 0, []) (List.mem_of_getElem? (i := 86) rfl)) rfl (j := 1) rfl ?_
          refine zp_mul (n := (8 * (i : Int))) (pc := 158) hx hb (zd_X12_orders (158, .imul, 1, 0, []) (List.mem_of_getElem? (i := 87) rfl)) (by omega) (zp_r0 (by omega) (by omega)) ?_
          refine zp_const (pc := 159) hx hb (zd_X12_orders (159, .bipush 7, 2, 0, []) (List.mem_of_getElem? (i := 88) rfl)) rfl rfl ?_
          refine zp_add (n := (8 * (i : Int) + 7)) (pc := 161) hx hb (zd_X12_orders (161, .iadd, 1, 0, []) (List.mem_of_getElem? (i := 89) rfl)) (by omega) (zp_r0 (by omega) (by omega)) ?_
          refine zp_iald (j := (8 * i + 7)) (v := (G b56 (2000 + (8 * i + 7)))) (pc := 162) hx hb hw (zd_X12_orders (162, .iaload, 1, 0, []) (List.mem_of_getElem? (i := 90) rfl)) (show zp_ia 1 90 = some (96, 0, 0, (-2147483648), 2147483647) from rfl) r3 (by omega) (by omega) rfl (fun hk218 => ?_)
          have hk218b := zp_int hk218
          refine zp_icmp (pc := 163) (tgt := 200) hx hb (zd_X12_orders (163, .if_icmp .ge 37, 3, 0, []) (List.mem_of_getElem? (i := 91) rfl)) rfl (fun (hc219 : (G b56 (2000 + (8 * i + 7))) ≤ (kk : Int)) => ?_) (fun (hc219 : ¬ ((G b56 (2000 + (8 * i + 7))) ≤ (kk : Int))) => ?_)
          · refine zp_iinc (L' := [(2, 0, ((i : Int) + 1)), (3, 0, (kk : Int)), (1, 0, (nu : Int)), (0, 2, (a : Int))]) (n := ((i : Int) + 1)) (pc := 200) hx hb hnL (zd_X12_orders (200, .iinc 2 1, 3, 0, []) (List.mem_of_getElem? (i := 110) rfl)) (j := 1) rfl (by omega) (zp_r0 (by omega) (by omega)) rfl rfl ?_
            refine zp_goto (tgt := 140) (pc := 203) hx hb (zd_X12_orders (203, .goto (-63), 3, 0, []) (List.mem_of_getElem? (i := 111) rfl)) rfl ?_
            refine zp_drop (L' := [(2, 0, ((i : Int) + 1)), (1, 0, (nu : Int)), (0, 2, (a : Int))]) (by simp) ?_
            exact ih (i + 1) nu ncl P G (by omega) (by omega) hnu hor hd0 (by omega)
          · refine zp_load (pc := 166) hx hb (zd_X12_orders (166, .aload_n 0, 1, 0, []) (List.mem_of_getElem? (i := 92) rfl)) rfl (j := 3) rfl ?_
            refine zp_const (pc := 167) hx hb (zd_X12_orders (167, .bipush 8, 2, 0, []) (List.mem_of_getElem? (i := 93) rfl)) rfl rfl ?_
            refine zp_load (pc := 169) hx hb (zd_X12_orders (169, .iload_n 2, 1, 0, []) (List.mem_of_getElem? (i := 94) rfl)) rfl (j := 1) rfl ?_
            refine zp_mul (n := (8 * (i : Int))) (pc := 170) hx hb (zd_X12_orders (170, .imul, 1, 0, []) (List.mem_of_getElem? (i := 95) rfl)) (by omega) (zp_r0 (by omega) (by omega)) ?_
            have hca : (8 * (i : Int)).toNat = 8 * i := by omega
            refine zp_call (pc := 171) (how := 0) (idx := 552) (mi := 290) (S := []) hx hb hE hw heff hrm (zX_ro1 hW) rfl (j := 71) rfl rfl (by decide +kernel) (zd_X12_orders (171, .invokevirtual 552, 3, 0, []) (List.mem_of_getElem? (i := 96) rfl)) [(a : Int), (8 * (i : Int))] rfl ⟨zp_o2 r0, zp_o0 (by omega) (by omega) (by omega) (by omega), trivial⟩ (Nat.le_of_ble_eq_true rfl) (show (∃ b24 b25 b56, zo_ru a b24 b25 b56 (8 * (i : Int)).toNat (G a 57) P G) ∧ 0 ≤ G a 57 ∧ G a 57 ≤ 100000 from ⟨⟨b24, b25, b56, by rw [hca]; exact zo_or_ru hor hin⟩, hd0, by omega⟩) (fun al hal rnr Pr Gr hextr hfrr hokr hcsr hpsir => ?_)
            obtain rfl := List.mem_singleton.mp hal
            have hrr := zp_int (hokr _ rfl).1
            have hzr3 : Gr a 20 = 0 ∧ 0 ≤ Gr a 57 ∧ Gr a 57 ≤ G a 57 + 1 := hpsir
            obtain ⟨hzr, hzd0, hzd1⟩ := hzr3
            have orr := zo_or_fr hor hextr hfrr (by decide +kernel) hzr
            refine zp_if (pc := 174) (tgt := 194) hx hb (zd_X12_orders (174, .ifCond .ge 20, 3, 0, []) (List.mem_of_getElem? (i := 97) rfl)) rfl (fun (hc220 : 0 ≤ rnr) => ?_) (fun (hc220 : ¬ (0 ≤ rnr)) => ?_)
            · refine zp_iinc (L' := [(3, 0, ((kk : Int) + 1)), (2, 0, (i : Int)), (1, 0, (nu : Int)), (0, 2, (a : Int))]) (n := ((kk : Int) + 1)) (pc := 194) hx hb hnL (zd_X12_orders (194, .iinc 3 1, 3, 0, []) (List.mem_of_getElem? (i := 108) rfl)) (j := 0) rfl (by omega) (zp_r0 (by omega) (by omega)) rfl rfl ?_
              refine zp_goto (tgt := 150) (pc := 197) hx hb (zd_X12_orders (197, .goto (-47), 3, 0, []) (List.mem_of_getElem? (i := 109) rfl)) rfl ?_
              have hv8 : zv Gr a 56 (8 * i + 7) = G b56 (2000 + (8 * i + 7)) := by rw [zv_eq orr.2.2.2.2.2.2.1]; exact zp_nc hfrr r3 (by decide +kernel) _
              exact ihk (kk + 1) Pr Gr hin (by rw [hv8]; omega) orr hzd0 (by omega) (by omega)
            · refine zp_load (pc := 177) hx hb (zd_X12_orders (177, .aload_n 0, 1, 0, []) (List.mem_of_getElem? (i := 98) rfl)) rfl (j := 3) rfl ?_
              refine zp_load (pc := 178) hx hb (zd_X12_orders (178, .iload_n 1, 1, 0, []) (List.mem_of_getElem? (i := 99) rfl)) rfl (j := 2) rfl ?_
              refine zp_call (pc := 179) (how := 0) (idx := 555) (mi := 292) (S := []) hx hb hE hw heff hrm (zX_gb hW) rfl (j := 73) rfl rfl (by decide +kernel) (zd_X12_orders (179, .invokevirtual 555, 3, 0, []) (List.mem_of_getElem? (i := 100) rfl)) [(a : Int), (nu : Int)] rfl ⟨zp_o2 orr.1, zp_o0 (by omega) (by omega) (by omega) (by omega), trivial⟩ (Nat.le_of_ble_eq_true rfl) hzr (fun al hal rng Pg Gg hextg hfrg hokg hcsg hpsig => ?_)
              obtain rfl := List.mem_singleton.mp hal
              have hzg : Gg a 20 = 0 := hpsig
              have hpg : Pg a = some 92 := hextg _ _ orr.1
              refine zp_load (pc := 182) hx hb (zd_X12_orders (182, .aload_n 0, 1, 0, []) (List.mem_of_getElem? (i := 101) rfl)) rfl (j := 3) rfl ?_
              refine zp_load (pc := 183) hx hb (zd_X12_orders (183, .iload_n 2, 1, 0, []) (List.mem_of_getElem? (i := 102) rfl)) rfl (j := 1) rfl ?_
              refine zp_putf (pc := 184) hx hb hE hw heff (zd_X12_orders (184, .putfield 152, 3, 0, []) (List.mem_of_getElem? (i := 103) rfl)) (j := 77) rfl rfl rfl hpg (zp_o0 (by omega) (by omega) (by omega) (by omega)) ?_
              refine zp_load (pc := 187) hx hb (zd_X12_orders (187, .aload_n 0, 1, 0, []) (List.mem_of_getElem? (i := 104) rfl)) rfl (j := 3) rfl ?_
              refine zp_const (pc := 188) hx hb (zd_X12_orders (188, .bipush (-3), 2, 0, []) (List.mem_of_getElem? (i := 105) rfl)) rfl rfl ?_
              have z20 : (zp_set Gg a 59 (i : Int)) a 20 = 0 := ((zp_set_ne (Or.inr (by decide))).trans (hzg))
              refine zp_call (pc := 190) (how := 0) (idx := 170) (mi := 183) (S := []) hx hb hE hw heff hrm (zX_te hW) rfl (j := 0) rfl rfl (by decide +kernel) (zd_X12_orders (190, .invokevirtual 170, 3, 0, []) (List.mem_of_getElem? (i := 106) rfl)) [(a : Int), (-3)] rfl ⟨zp_o2 hpg, zp_o0 (by omega) (by omega) (by omega) (by omega), trivial⟩ (Nat.le_of_ble_eq_true rfl) trivial (fun al hal rnt Pt Gt hextt hfrt hokt hcst hpsit => ?_)
              obtain rfl := List.mem_singleton.mp hal
              have hrt := zp_int (hokt _ rfl).1
              obtain ⟨rfl, hrnt⟩ := hpsit
              have hrnt : rnt = (-3) := hrnt
              have zzt : Gt a 20 = 0 := (zp_nf hfrt hpg rfl).trans z20
              refine zp_iret (pc := 193) (n := rnt) hx hb hE hQ hU5 rfl (by decide) (zd_X12_orders (193, .ireturn, 1, 0, []) (List.mem_of_getElem? (i := 107) rfl)) (j := 0) rfl (zp_o0 (by omega) (by omega) (by omega) (by omega)) ?_
              rw [hps]
              exact (show Gt a 20 = 0 from zzt)
      have hor1 := hor
      obtain ⟨r0, r1, r2, r3, e24, e25, e56, e20, e19, e21, hncl, hprs⟩ := hor1
      refine zp_kn (k := 57) (a := a) (G := G) hw (show zp_fd 92 57 = some (12, 0, 0, (-2147483648), 2147483647) from rfl) rfl r0 (fun hk57 => ?_)
      have hx57 := zp_int hk57
      refine zp_load (pc := 140) hx hb (zd_X12_orders (140, .iload_n 2, 1, 0, []) (List.mem_of_getElem? (i := 76) rfl)) rfl (j := 0) rfl ?_
      refine zp_load (pc := 141) hx hb (zd_X12_orders (141, .aload_n 0, 1, 0, []) (List.mem_of_getElem? (i := 77) rfl)) rfl (j := 2) rfl ?_
      refine zp_getf (n := (ncl : Int)) (pc := 142) hx hb hE hw (zd_X12_orders (142, .getfield 371, 3, 0, []) (List.mem_of_getElem? (i := 78) rfl)) (j := 39) rfl rfl rfl r0 e21 ?_
      refine zp_icmp (pc := 145) (tgt := 206) hx hb (zd_X12_orders (145, .if_icmp .ge 61, 3, 0, []) (List.mem_of_getElem? (i := 79) rfl)) rfl (fun (hc221 : (ncl : Int) ≤ (i : Int)) => ?_) (fun (hc221 : ¬ ((ncl : Int) ≤ (i : Int))) => ?_)
      · refine zp_load (pc := 206) hx hb (zd_X12_orders (206, .aload_n 0, 1, 0, []) (List.mem_of_getElem? (i := 112) rfl)) rfl (j := 2) rfl ?_
        refine zp_load (pc := 207) hx hb (zd_X12_orders (207, .aload_n 0, 1, 0, []) (List.mem_of_getElem? (i := 113) rfl)) rfl (j := 2) rfl ?_
        refine zp_getf (n := (G a 57)) (pc := 208) hx hb hE hw (zd_X12_orders (208, .getfield 540, 3, 0, []) (List.mem_of_getElem? (i := 114) rfl)) (j := 75) rfl rfl rfl r0 rfl ?_
        have z20 : G a 20 = 0 := e20
        refine zp_call (pc := 211) (how := 0) (idx := 170) (mi := 183) (S := []) hx hb hE hw heff hrm (zX_te hW) rfl (j := 0) rfl rfl (by decide +kernel) (zd_X12_orders (211, .invokevirtual 170, 3, 0, []) (List.mem_of_getElem? (i := 115) rfl)) [(a : Int), (G a 57)] rfl ⟨zp_o2 r0, zp_o0 (by omega) (by omega) (by omega) (by omega), trivial⟩ (Nat.le_of_ble_eq_true rfl) trivial (fun al hal rnt Pt Gt hextt hfrt hokt hcst hpsit => ?_)
        obtain rfl := List.mem_singleton.mp hal
        have hrt := zp_int (hokt _ rfl).1
        obtain ⟨rfl, hrnt⟩ := hpsit
        have hrnt : rnt = (G a 57) := hrnt
        have zzt : Gt a 20 = 0 := (zp_nf hfrt r0 rfl).trans z20
        refine zp_iret (pc := 214) (n := rnt) hx hb hE hQ hU5 rfl (by decide) (zd_X12_orders (214, .ireturn, 1, 0, []) (List.mem_of_getElem? (i := 116) rfl)) (j := 0) rfl (zp_o0 (by omega) (by omega) (by omega) (by omega)) ?_
        rw [hps]
        exact (show Gt a 20 = 0 from zzt)
      · refine zp_const (pc := 148) hx hb (zd_X12_orders (148, .iconst 0, 1, 0, []) (List.mem_of_getElem? (i := 80) rfl)) rfl rfl ?_
        refine zp_store (L' := [(3, 0, 0), (2, 0, (i : Int)), (1, 0, (nu : Int)), (0, 2, (a : Int))]) (pc := 149) hx hb hnL (zd_X12_orders (149, .istore_n 3, 1, 0, []) (List.mem_of_getElem? (i := 81) rfl)) rfl rfl rfl ?_
        exact inner _ 0 P G (by omega) (Nat.lt_succ_self _) hor hd0 (by omega) (by omega)
  have loop1 : ∀ (n i nu : Nat) (ncl : Nat) (P : Nat → Option Nat) (Gp G : Nat → Nat → Int), 16 - i < n → i ≤ 16 → nu ≤ 16 → P b6 = some 62 → P b7 = some 63 → P b9 = some 64 → P b10 = some 65 → Gp a 6 = (b6 : Int) → Gp a 7 = (b7 : Int) → Gp a 9 = (b9 : Int) → Gp a 10 = (b10 : Int) → (∀ k, G a k = Gp a k) → zo_or a b24 b25 b56 ncl P G → zp_J p l e R s m args below meth c Q w u [] 104 [(2, 0, (i : Int)), (1, 0, (nu : Int)), (0, 2, (a : Int))] [] P G := by
    intro n
    induction n with
    | zero => intro i nu ncl P Gp G h; exact absurd h (Nat.not_lt_zero _)
    | succ n ih =>
      intro i nu ncl P Gp G hn hi hnu q6 q7 q9 q10 g6 g7 g9 g10 za hor
      have hor1 := hor
      obtain ⟨r0, r1, r2, r3, e24, e25, e56, e20, e19, e21, hncl, hprs⟩ := hor1
      refine zp_load (pc := 104) hx hb (zd_X12_orders (104, .iload_n 2, 1, 0, []) (List.mem_of_getElem? (i := 55) rfl)) rfl (j := 0) rfl ?_
      refine zp_const (pc := 105) hx hb (zd_X12_orders (105, .bipush 16, 2, 0, []) (List.mem_of_getElem? (i := 56) rfl)) rfl rfl ?_
      refine zp_icmp (pc := 107) (tgt := 128) hx hb (zd_X12_orders (107, .if_icmp .ge 21, 3, 0, []) (List.mem_of_getElem? (i := 57) rfl)) rfl (fun (hc222 : 16 ≤ (i : Int)) => ?_) (fun (hc222 : ¬ (16 ≤ (i : Int))) => ?_)
      · refine zp_load (pc := 128) hx hb (zd_X12_orders (128, .aload_n 0, 1, 0, []) (List.mem_of_getElem? (i := 68) rfl)) rfl (j := 2) rfl ?_
        refine zp_const (pc := 129) hx hb (zd_X12_orders (129, .iconst 0, 1, 0, []) (List.mem_of_getElem? (i := 69) rfl)) rfl rfl ?_
        refine zp_putf (pc := 130) hx hb hE hw heff (zd_X12_orders (130, .putfield 540, 3, 0, []) (List.mem_of_getElem? (i := 70) rfl)) (j := 75) rfl rfl rfl r0 (zp_o0 (by decide) (by decide) (by decide) (by decide)) ?_
        refine zp_load (pc := 133) hx hb (zd_X12_orders (133, .aload_n 0, 1, 0, []) (List.mem_of_getElem? (i := 71) rfl)) rfl (j := 2) rfl ?_
        refine zp_const (pc := 134) hx hb (zd_X12_orders (134, .iconst (-1), 1, 0, []) (List.mem_of_getElem? (i := 72) rfl)) rfl rfl ?_
        refine zp_putf (pc := 135) hx hb hE hw heff (zd_X12_orders (135, .putfield 543, 3, 0, []) (List.mem_of_getElem? (i := 73) rfl)) (j := 76) rfl rfl rfl r0 (zp_o0 (by decide) (by decide) (by decide) (by decide)) ?_
        refine zp_const (pc := 138) hx hb (zd_X12_orders (138, .iconst 0, 1, 0, []) (List.mem_of_getElem? (i := 74) rfl)) rfl rfl ?_
        refine zp_store (L' := [(2, 0, 0), (1, 0, (nu : Int)), (0, 2, (a : Int))]) (pc := 139) hx hb hnL (zd_X12_orders (139, .istore_n 2, 1, 0, []) (List.mem_of_getElem? (i := 75) rfl)) rfl rfl rfl ?_
        have z57 : (zp_set (zp_set G a 57 0) a 58 (-1)) a 57 = 0 := ((zp_set_ne (Or.inr (by decide))).trans (zp_set_self))
        exact runs (ncl + 1) 0 nu ncl P _ (by omega) (by omega) hnu (zo_or_set (k := 58) (zo_or_set (k := 57) hor r0 rfl) r0 rfl) (by omega) (by omega)
      · refine zp_load (pc := 110) hx hb (zd_X12_orders (110, .aload_n 0, 1, 0, []) (List.mem_of_getElem? (i := 58) rfl)) rfl (j := 2) rfl ?_
        refine zp_getf (n := (b10 : Int)) (pc := 111) hx hb hE hw (zd_X12_orders (111, .getfield 32, 3, 0, []) (List.mem_of_getElem? (i := 59) rfl)) (j := 28) rfl rfl rfl r0 ((za 10).trans g10) ?_
        refine zp_load (pc := 114) hx hb (zd_X12_orders (114, .iload_n 2, 1, 0, []) (List.mem_of_getElem? (i := 60) rfl)) rfl (j := 0) rfl ?_
        refine zp_load (pc := 115) hx hb (zd_X12_orders (115, .aload_n 0, 1, 0, []) (List.mem_of_getElem? (i := 61) rfl)) rfl (j := 2) rfl ?_
        refine zp_getf (n := (b7 : Int)) (pc := 116) hx hb hE hw (zd_X12_orders (116, .getfield 26, 3, 0, []) (List.mem_of_getElem? (i := 62) rfl)) (j := 25) rfl rfl rfl r0 ((za 7).trans g7) ?_
        refine zp_load (pc := 119) hx hb (zd_X12_orders (119, .iload_n 2, 1, 0, []) (List.mem_of_getElem? (i := 63) rfl)) rfl (j := 0) rfl ?_
        refine zp_iald (j := i) (v := (G b7 (2000 + i))) (pc := 120) hx hb hw (zd_X12_orders (120, .iaload, 1, 0, []) (List.mem_of_getElem? (i := 64) rfl)) (show zp_ia 1 63 = some (16, 0, 0, 0, 3) from rfl) q7 (by omega) (by omega) rfl (fun hk223 => ?_)
        have hk223b := zp_int hk223
        refine zp_iast (j := i) (pc := 121) hx hb hw heff (zd_X12_orders (121, .iastore, 1, 0, []) (List.mem_of_getElem? (i := 65) rfl)) (show zp_ia 1 65 = some (16, 0, 0, 0, 3) from rfl) q10 (by omega) (by omega) (zp_o0 (by omega) (by omega) (by omega) (by omega)) rfl ?_
        refine zp_iinc (L' := [(2, 0, ((i : Int) + 1)), (1, 0, (nu : Int)), (0, 2, (a : Int))]) (n := ((i : Int) + 1)) (pc := 122) hx hb hnL (zd_X12_orders (122, .iinc 2 1, 3, 0, []) (List.mem_of_getElem? (i := 66) rfl)) (j := 0) rfl (by omega) (zp_r0 (by omega) (by omega)) rfl rfl ?_
        refine zp_goto (tgt := 104) (pc := 125) hx hb (zd_X12_orders (125, .goto (-21), 3, 0, []) (List.mem_of_getElem? (i := 67) rfl)) rfl ?_
        exact ih (i + 1) nu ncl P Gp _ (by omega) (by omega) hnu q6 q7 q9 q10 g6 g7 g9 g10 (fun k => (zp_set_ne (Or.inl (zp_pne r0 q10 (by decide)))).trans (za k)) (zo_or_set (k := 2000 + i) hor q10 (by simp [zo_sb]))
  have loop0 : ∀ (n i nu : Nat) (ncl : Nat) (P : Nat → Option Nat) (Gp G : Nat → Nat → Int), 544 - i < n → i ≤ 544 → nu ≤ 16 → P b6 = some 62 → P b7 = some 63 → P b9 = some 64 → P b10 = some 65 → Gp a 6 = (b6 : Int) → Gp a 7 = (b7 : Int) → Gp a 9 = (b9 : Int) → Gp a 10 = (b10 : Int) → (∀ k, G a k = Gp a k) → zo_or a b24 b25 b56 ncl P G → zp_J p l e R s m args below meth c Q w u [] 77 [(2, 0, (i : Int)), (1, 0, (nu : Int)), (0, 2, (a : Int))] [] P G := by
    intro n
    induction n with
    | zero => intro i nu ncl P Gp G h; exact absurd h (Nat.not_lt_zero _)
    | succ n ih =>
      intro i nu ncl P Gp G hn hi hnu q6 q7 q9 q10 g6 g7 g9 g10 za hor
      have hor1 := hor
      obtain ⟨r0, r1, r2, r3, e24, e25, e56, e20, e19, e21, hncl, hprs⟩ := hor1
      refine zp_load (pc := 77) hx hb (zd_X12_orders (77, .iload_n 2, 1, 0, []) (List.mem_of_getElem? (i := 40) rfl)) rfl (j := 0) rfl ?_
      refine zp_const (pc := 78) hx hb (zd_X12_orders (78, .sipush 544, 3, 0, []) (List.mem_of_getElem? (i := 41) rfl)) rfl rfl ?_
      refine zp_icmp (pc := 81) (tgt := 102) hx hb (zd_X12_orders (81, .if_icmp .ge 21, 3, 0, []) (List.mem_of_getElem? (i := 42) rfl)) rfl (fun (hc224 : 544 ≤ (i : Int)) => ?_) (fun (hc224 : ¬ (544 ≤ (i : Int))) => ?_)
      · refine zp_const (pc := 102) hx hb (zd_X12_orders (102, .iconst 0, 1, 0, []) (List.mem_of_getElem? (i := 53) rfl)) rfl rfl ?_
        refine zp_store (L' := [(2, 0, 0), (1, 0, (nu : Int)), (0, 2, (a : Int))]) (pc := 103) hx hb hnL (zd_X12_orders (103, .istore_n 2, 1, 0, []) (List.mem_of_getElem? (i := 54) rfl)) rfl rfl rfl ?_
        exact loop1 17 0 nu ncl P Gp G (by omega) (by omega) hnu q6 q7 q9 q10 g6 g7 g9 g10 za hor
      · refine zp_load (pc := 84) hx hb (zd_X12_orders (84, .aload_n 0, 1, 0, []) (List.mem_of_getElem? (i := 43) rfl)) rfl (j := 2) rfl ?_
        refine zp_getf (n := (b9 : Int)) (pc := 85) hx hb hE hw (zd_X12_orders (85, .getfield 29, 3, 0, []) (List.mem_of_getElem? (i := 44) rfl)) (j := 27) rfl rfl rfl r0 ((za 9).trans g9) ?_
        refine zp_load (pc := 88) hx hb (zd_X12_orders (88, .iload_n 2, 1, 0, []) (List.mem_of_getElem? (i := 45) rfl)) rfl (j := 0) rfl ?_
        refine zp_load (pc := 89) hx hb (zd_X12_orders (89, .aload_n 0, 1, 0, []) (List.mem_of_getElem? (i := 46) rfl)) rfl (j := 2) rfl ?_
        refine zp_getf (n := (b6 : Int)) (pc := 90) hx hb hE hw (zd_X12_orders (90, .getfield 23, 3, 0, []) (List.mem_of_getElem? (i := 47) rfl)) (j := 24) rfl rfl rfl r0 ((za 6).trans g6) ?_
        refine zp_load (pc := 93) hx hb (zd_X12_orders (93, .iload_n 2, 1, 0, []) (List.mem_of_getElem? (i := 48) rfl)) rfl (j := 0) rfl ?_
        refine zp_ialdT (j := i) (v := (G b6 (2000 + i))) (pc := 94) hx hb hw (zd_X12_orders (94, .iaload, 1, 0, []) (List.mem_of_getElem? (i := 49) rfl)) (T := zo_T62) rfl rfl (zo_kd _) q6 rfl (show i < 612 by omega) rfl (fun hrow => ?_)
        refine zp_iastT (j := i) (pc := 95) hx hb hw heff (zd_X12_orders (95, .iastore, 1, 0, []) (List.mem_of_getElem? (i := 50) rfl)) (T := zo_T64) rfl rfl (by rw [zo_fj]; exact zo_kd _) q9 rfl (show i < 544 by omega) (by omega) (by rw [zo_fj]; exact hrow) (Or.inr (by decide)) rfl ?_
        refine zp_iinc (L' := [(2, 0, ((i : Int) + 1)), (1, 0, (nu : Int)), (0, 2, (a : Int))]) (n := ((i : Int) + 1)) (pc := 96) hx hb hnL (zd_X12_orders (96, .iinc 2 1, 3, 0, []) (List.mem_of_getElem? (i := 51) rfl)) (j := 0) rfl (by omega) (zp_r0 (by omega) (by omega)) rfl rfl ?_
        refine zp_goto (tgt := 77) (pc := 99) hx hb (zd_X12_orders (99, .goto (-22), 3, 0, []) (List.mem_of_getElem? (i := 52) rfl)) rfl ?_
        exact ih (i + 1) nu ncl P Gp _ (by omega) (by omega) hnu q6 q7 q9 q10 g6 g7 g9 g10 (fun k => (zp_set_ne (Or.inl (zp_pne r0 q9 (by decide)))).trans (za k)) (zo_or_set (k := 2000 + i) hor q9 (by simp [zo_sb]))
  have h46 : ∀ (G : Nat → Nat → Int), zo_in2 a G → G a 6 = (b6 : Int) → G a 7 = (b7 : Int) → G a 9 = (b9 : Int) → G a 10 = (b10 : Int) → G a 24 = (b24 : Int) → G a 25 = (b25 : Int) → G a 56 = (b56 : Int) → zp_J p l e R s m args below meth c Q w u [] 46 [(0, 2, (a : Int))] [] u.1 G := by
    intro G hin g6 g7 g9 g10 g24 g25 g56
    obtain ⟨⟨i1, i2, i3, i4, i5, i6⟩, i7⟩ := hin
    refine zp_load (pc := 46) hx hb (zd_X12_orders (46, .aload_n 0, 1, 0, []) (List.mem_of_getElem? (i := 23) rfl)) rfl (j := 0) rfl ?_
    refine zp_call (pc := 47) (how := 0) (idx := 385) (mi := 235) (S := []) hx hb hE hw heff hrm (zX_et hW) rfl (j := 37) rfl rfl (by decide +kernel) (zd_X12_orders (47, .invokevirtual 385, 3, 0, []) (List.mem_of_getElem? (i := 24) rfl)) [(a : Int)] rfl ⟨zp_o2 hp, trivial⟩ (Nat.le_of_ble_eq_true rfl) i1 (fun al hal rne Pe Ge hexte hfre hoke hcse hpsie => ?_)
    obtain rfl := List.mem_singleton.mp hal
    obtain ⟨rfl, he20, he19⟩ := hpsie
    have he20 : Ge a 20 = 0 := he20
    have he19 : Ge a 19 = 0 → G a 19 = 0 := he19
    refine zp_kn (k := 19) (a := a) (G := Ge) hw (show zp_fd 92 19 = some (12, 0, 0, 0, 1) from rfl) rfl hp (fun hk19 => ?_)
    have hx19 := zp_int hk19
    refine zp_load (pc := 50) hx hb (zd_X12_orders (50, .aload_n 0, 1, 0, []) (List.mem_of_getElem? (i := 25) rfl)) rfl (j := 0) rfl ?_
    refine zp_getf (n := (Ge a 19)) (pc := 51) hx hb hE hw (zd_X12_orders (51, .getfield 240, 3, 0, []) (List.mem_of_getElem? (i := 26) rfl)) (j := 37) rfl rfl rfl hp rfl ?_
    refine zp_if (pc := 54) (tgt := 64) hx hb (zd_X12_orders (54, .ifCond .eq 10, 3, 0, []) (List.mem_of_getElem? (i := 27) rfl)) rfl (fun (hc225 : (Ge a 19) = 0) => ?_) (fun (hc225 : ¬ ((Ge a 19) = 0)) => ?_)
    · have hb0 : Ge a 19 = 0 := by omega
      obtain ⟨ncl, hncl⟩ := zp_nat i2
      have e6 : Ge a 6 = (b6 : Int) := ((zp_nf hfre hp rfl).trans g6)
      have e7 : Ge a 7 = (b7 : Int) := ((zp_nf hfre hp rfl).trans g7)
      have e9 : Ge a 9 = (b9 : Int) := ((zp_nf hfre hp rfl).trans g9)
      have e10 : Ge a 10 = (b10 : Int) := ((zp_nf hfre hp rfl).trans g10)
      have e24 : Ge a 24 = (b24 : Int) := ((zp_nf hfre hp rfl).trans g24)
      have e25 : Ge a 25 = (b25 : Int) := ((zp_nf hfre hp rfl).trans g25)
      have e56 : Ge a 56 = (b56 : Int) := ((zp_nf hfre hp rfl).trans g56)
      have ev24 : ∀ j, zv Ge a 24 j = zv G a 24 j := fun j => by rw [zv_eq e24, zv_eq g24, zp_nc hfre hq24 rfl]
      have ev25 : ∀ j, zv Ge a 25 j = zv G a 25 j := fun j => by rw [zv_eq e25, zv_eq g25, zp_nc hfre hq25 rfl]
      have ev56 : ∀ j, zv Ge a 56 j = zv G a 56 j := fun j => by rw [zv_eq e56, zv_eq g56, zp_nc hfre hq56 rfl]
      have e23 : Ge a 23 = G a 23 := zp_nf hfre hp rfl
      have e19 : Ge a 19 = G a 19 := by rw [hb0, he19 hb0]
      have e21 : Ge a 21 = (ncl : Int) := (zp_nf hfre hp rfl).trans hncl
      have hor : zo_or a b24 b25 b56 ncl u.1 Ge := ⟨hp, hq24, hq25, hq56, e24, e25, e56, he20, hb0, e21, by omega, fun c hc => ⟨zo_pr_same (i6 c (by omega)).1 e19 e23 ev24 ev25 ev56, zo_pr_same (i6 c (by omega)).2.1 e19 e23 ev24 ev25 ev56, zo_pr_same (i6 c (by omega)).2.2 e19 e23 ev24 ev25 ev56, by rw [ev56]; exact i7 c (by omega) (he19 hb0)⟩⟩
      refine zp_load (pc := 64) hx hb (zd_X12_orders (64, .aload_n 0, 1, 0, []) (List.mem_of_getElem? (i := 32) rfl)) rfl (j := 0) rfl ?_
      refine zp_const (pc := 65) hx hb (zd_X12_orders (65, .bipush 17, 2, 0, []) (List.mem_of_getElem? (i := 33) rfl)) rfl rfl ?_
      refine zp_call (pc := 67) (how := 0) (idx := 174) (mi := 264) (S := []) hx hb hE hw heff hrm (zp_sw13 hW (zq_1101 hW) (by decide +kernel) (by decide +kernel)) rfl (j := 57) rfl rfl (by decide +kernel) (zd_X12_orders (67, .invokevirtual 174, 3, 0, []) (List.mem_of_getElem? (i := 34) rfl)) [(a : Int), 17] rfl ⟨zp_o2 hp, zp_o0 (by decide) (by decide) (by decide) (by decide), trivial⟩ (Nat.le_of_ble_eq_true rfl) (show Ge (zp_0 [(a : Int), 17]) 20 = 0 from he20) (fun al hal rnk Pk Gk hextk hfrk hokk hcsk hpsik => ?_)
      obtain rfl := List.mem_singleton.mp hal
      have hzk : Gk a 20 = 0 := hpsik
      have hork := zo_or_fr hor hextk hfrk (by decide +kernel) hzk
      have k6 : Gk a 6 = (b6 : Int) := (zp_nf hfrk hp rfl).trans e6
      have k7 : Gk a 7 = (b7 : Int) := (zp_nf hfrk hp rfl).trans e7
      have k9 : Gk a 9 = (b9 : Int) := (zp_nf hfrk hp rfl).trans e9
      have k10 : Gk a 10 = (b10 : Int) := (zp_nf hfrk hp rfl).trans e10
      refine zp_kn (k := 8) (a := a) (G := Gk) hw (show zp_fd 92 8 = some (12, 0, 0, 0, 16) from rfl) rfl hork.1 (fun hk8 => ?_)
      obtain ⟨nu, hnu8⟩ := zp_nat (zp_int hk8).1
      have hx8 := zp_int hk8
      rw [hnu8] at hx8
      refine zp_load (pc := 70) hx hb (zd_X12_orders (70, .aload_n 0, 1, 0, []) (List.mem_of_getElem? (i := 35) rfl)) rfl (j := 0) rfl ?_
      refine zp_getf (n := (nu : Int)) (pc := 71) hx hb hE hw (zd_X12_orders (71, .getfield 167, 3, 0, []) (List.mem_of_getElem? (i := 36) rfl)) (j := 26) rfl rfl rfl hork.1 hnu8 ?_
      refine zp_store (L' := [(1, 0, (nu : Int)), (0, 2, (a : Int))]) (pc := 74) hx hb hnL (zd_X12_orders (74, .istore_n 1, 1, 0, []) (List.mem_of_getElem? (i := 37) rfl)) rfl rfl rfl ?_
      refine zp_const (pc := 75) hx hb (zd_X12_orders (75, .iconst 0, 1, 0, []) (List.mem_of_getElem? (i := 38) rfl)) rfl rfl ?_
      refine zp_store (L' := [(2, 0, 0), (1, 0, (nu : Int)), (0, 2, (a : Int))]) (pc := 76) hx hb hnL (zd_X12_orders (76, .istore_n 2, 1, 0, []) (List.mem_of_getElem? (i := 39) rfl)) rfl rfl rfl ?_
      exact loop0 545 0 nu ncl Pk Gk Gk (by omega) (by omega) (by omega) (hextk _ _ hq6) (hextk _ _ hq7) (hextk _ _ hq9) (hextk _ _ hq10) k6 k7 k9 k10 (fun _ => rfl) hork
    · refine zp_load (pc := 57) hx hb (zd_X12_orders (57, .aload_n 0, 1, 0, []) (List.mem_of_getElem? (i := 28) rfl)) rfl (j := 0) rfl ?_
      refine zp_const (pc := 58) hx hb (zd_X12_orders (58, .bipush (-6), 2, 0, []) (List.mem_of_getElem? (i := 29) rfl)) rfl rfl ?_
      have z20 : Ge a 20 = 0 := he20
      refine zp_call (pc := 60) (how := 0) (idx := 170) (mi := 183) (S := []) hx hb hE hw heff hrm (zX_te hW) rfl (j := 0) rfl rfl (by decide +kernel) (zd_X12_orders (60, .invokevirtual 170, 3, 0, []) (List.mem_of_getElem? (i := 30) rfl)) [(a : Int), (-6)] rfl ⟨zp_o2 hp, zp_o0 (by omega) (by omega) (by omega) (by omega), trivial⟩ (Nat.le_of_ble_eq_true rfl) trivial (fun al hal rnt Pt Gt hextt hfrt hokt hcst hpsit => ?_)
      obtain rfl := List.mem_singleton.mp hal
      have hrt := zp_int (hokt _ rfl).1
      obtain ⟨rfl, hrnt⟩ := hpsit
      have hrnt : rnt = (-6) := hrnt
      have zzt : Gt a 20 = 0 := (zp_nf hfrt hp rfl).trans z20
      refine zp_iret (pc := 63) (n := rnt) hx hb hE hQ hU5 rfl (by decide) (zd_X12_orders (63, .ireturn, 1, 0, []) (List.mem_of_getElem? (i := 31) rfl)) (j := 0) rfl (zp_o0 (by omega) (by omega) (by omega) (by omega)) ?_
      rw [hps]
      exact (show Gt a 20 = 0 from zzt)
  have loop : ∀ (n : Nat) (G : Nat → Nat → Int), 400 - G a 14 < n → zo_in2 a G → G a 6 = (b6 : Int) → G a 7 = (b7 : Int) → G a 9 = (b9 : Int) → G a 10 = (b10 : Int) → G a 24 = (b24 : Int) → G a 25 = (b25 : Int) → G a 56 = (b56 : Int) → zp_J p l e R s m args below meth c Q w u [] 19 [(0, 2, (a : Int))] [] u.1 G := by
    intro n
    induction n with
    | zero =>
      intro G hn hin g6 g7 g9 g10 g24 g25 g56
      refine zp_kn (k := 13) (a := a) (G := G) hw (show zp_fd 92 13 = some (12, 0, 0, 0, 400) from rfl) rfl hp (fun hk13 => ?_)
      have hx13 := zp_int hk13
      have ht := hin.1.1
      obtain ⟨t1, t2, t3, -, -, -⟩ := ht
      exfalso
      omega
    | succ n ih =>
      intro G hn hin g6 g7 g9 g10 g24 g25 g56
      refine zp_kn (k := 13) (a := a) (G := G) hw (show zp_fd 92 13 = some (12, 0, 0, 0, 400) from rfl) rfl hp (fun hk13 => ?_)
      have hx13 := zp_int hk13
      have hin2 := hin
      obtain ⟨⟨i1, i2, i3, i4, i5, i6⟩, i7⟩ := hin2
      have ht := i1
      obtain ⟨t1, t2, t3, -, -, t6⟩ := ht
      refine zp_load (pc := 19) hx hb (zd_X12_orders (19, .aload_n 0, 1, 0, []) (List.mem_of_getElem? (i := 11) rfl)) rfl (j := 0) rfl ?_
      refine zp_getf (n := (G a 19)) (pc := 20) hx hb hE hw (zd_X12_orders (20, .getfield 240, 3, 0, []) (List.mem_of_getElem? (i := 12) rfl)) (j := 37) rfl rfl rfl hp rfl ?_
      refine zp_if (pc := 23) (tgt := 46) hx hb (zd_X12_orders (23, .ifCond .ne 23, 3, 0, []) (List.mem_of_getElem? (i := 13) rfl)) rfl (fun (hc226 : ¬ (G a 19) = 0) => ?_) (fun (hc226 : ¬ (¬ (G a 19) = 0)) => ?_)
      · exact h46 G hin g6 g7 g9 g10 g24 g25 g56
      · refine zp_load (pc := 26) hx hb (zd_X12_orders (26, .aload_n 0, 1, 0, []) (List.mem_of_getElem? (i := 14) rfl)) rfl (j := 0) rfl ?_
        refine zp_const (pc := 27) hx hb (zd_X12_orders (27, .bipush 59, 2, 0, []) (List.mem_of_getElem? (i := 15) rfl)) rfl rfl ?_
        refine zp_call (pc := 29) (how := 0) (idx := 313) (mi := 221) (S := []) hx hb hE hw heff hrm (zX_si hW) rfl (j := 23) rfl rfl (by decide +kernel) (zd_X12_orders (29, .invokevirtual 313, 3, 0, []) (List.mem_of_getElem? (i := 16) rfl)) [(a : Int), 59] rfl ⟨zp_o2 hp, zp_o0 (by decide) (by decide) (by decide) (by decide), trivial⟩ (Nat.le_of_ble_eq_true rfl) trivial (fun al hal rns Ps Gs hexts hfrs hoks hcss hpsis => ?_)
        obtain rfl := List.mem_singleton.mp hal
        have hrs := zp_int (hoks _ rfl).1
        obtain ⟨hPes, hGes, hts⟩ := hpsis
        rw [hPes, hGes]
        have hts : rns = 1 → G a 16 = 3 := hts
        refine zp_if (pc := 32) (tgt := 46) hx hb (zd_X12_orders (32, .ifCond .eq 14, 3, 0, []) (List.mem_of_getElem? (i := 17) rfl)) rfl (fun (hc227 : rns = 0) => ?_) (fun (hc227 : ¬ (rns = 0)) => ?_)
        · exact h46 G hin g6 g7 g9 g10 g24 g25 g56
        · refine zp_load (pc := 35) hx hb (zd_X12_orders (35, .aload_n 0, 1, 0, []) (List.mem_of_getElem? (i := 18) rfl)) rfl (j := 0) rfl ?_
          refine zp_call (pc := 36) (how := 0) (idx := 244) (mi := 212) (S := []) hx hb hE hw heff hrm (zX_nx hW) rfl (j := 14) rfl rfl (by decide +kernel) (zd_X12_orders (36, .invokevirtual 244, 3, 0, []) (List.mem_of_getElem? (i := 19) rfl)) [(a : Int)] rfl ⟨zp_o2 hp, trivial⟩ (Nat.le_of_ble_eq_true rfl) (show 0 ≤ G a 15 ∧ G a 15 ≤ G a 13 by omega) (fun al hal rnn Pn Gn hextn hfrn hokn hcsn hpsin => ?_)
          obtain rfl := List.mem_singleton.mp hal
          obtain ⟨rfl, hxn⟩ := hpsin
          have hxn : G a 15 ≤ Gn a 14 ∧ Gn a 14 ≤ Gn a 15 ∧ Gn a 15 ≤ G a 13 ∧ 0 ≤ Gn a 16 ∧ Gn a 16 ≤ 3 ∧ (Gn a 16 ≠ 0 → Gn a 14 < Gn a 15) := hxn
          have n13 : Gn a 13 = G a 13 := zp_nf hfrn hp rfl
          have n19 : Gn a 19 = G a 19 := zp_nf hfrn hp rfl
          have n21 : Gn a 21 = G a 21 := zp_nf hfrn hp rfl
          have n23 : Gn a 23 = G a 23 := zp_nf hfrn hp rfl
          have n24 : Gn a 24 = (b24 : Int) := (zp_nf hfrn hp rfl).trans g24
          have n25 : Gn a 25 = (b25 : Int) := (zp_nf hfrn hp rfl).trans g25
          have n56 : Gn a 56 = (b56 : Int) := (zp_nf hfrn hp rfl).trans g56
          have nv24 : ∀ j, zv Gn a 24 j = zv G a 24 j := fun j => by rw [zv_eq n24, zv_eq g24, zp_nc hfrn hq24 rfl]
          have nv25 : ∀ j, zv Gn a 25 j = zv G a 25 j := fun j => by rw [zv_eq n25, zv_eq g25, zp_nc hfrn hq25 rfl]
          have nv56 : ∀ j, zv Gn a 56 j = zv G a 56 j := fun j => by rw [zv_eq n56, zv_eq g56, zp_nc hfrn hq56 rfl]
          have hlt := t6 (by omega)
          have hinn : zo_in2 a Gn := ⟨⟨by unfold zs_tk; omega, by omega, by omega, by omega, by omega, fun c hc => ⟨zo_pr_same (i6 c (by omega)).1 n19 n23 nv24 nv25 nv56, zo_pr_same (i6 c (by omega)).2.1 n19 n23 nv24 nv25 nv56, zo_pr_same (i6 c (by omega)).2.2 n19 n23 nv24 nv25 nv56⟩⟩, fun c hc z => by rw [nv56]; exact i7 c (by omega) (by omega)⟩
          refine zp_load (pc := 39) hx hb (zd_X12_orders (39, .aload_n 0, 1, 0, []) (List.mem_of_getElem? (i := 20) rfl)) rfl (j := 0) rfl ?_
          refine zp_call (pc := 40) (how := 0) (idx := 549) (mi := 288) (S := []) hx hb hE hw heff hrm (zX_ro2 hW) rfl (j := 69) rfl rfl (by decide +kernel) (zd_X12_orders (40, .invokevirtual 549, 3, 0, []) (List.mem_of_getElem? (i := 21) rfl)) [(a : Int)] rfl ⟨zp_o2 hp, trivial⟩ (Nat.le_of_ble_eq_true rfl) hinn (fun al hal rnl Pl Gl hextl hfrl hokl hcsl hpsil => ?_)
          obtain rfl := List.mem_singleton.mp hal
          obtain ⟨rfl, hl1, hl2, hl3⟩ := hpsil
          have hl1 : zo_in2 a Gl := hl1
          have hl2 : Gn a 14 ≤ Gl a 14 := hl2
          refine zp_goto (tgt := 19) (pc := 43) hx hb (zd_X12_orders (43, .goto (-24), 3, 0, []) (List.mem_of_getElem? (i := 22) rfl)) rfl ?_
          exact ih Gl (by omega) hl1 (((zp_nf hfrl hp rfl).trans ((zp_nf hfrn hp rfl).trans g6))) (((zp_nf hfrl hp rfl).trans ((zp_nf hfrn hp rfl).trans g7))) (((zp_nf hfrl hp rfl).trans ((zp_nf hfrn hp rfl).trans g9))) (((zp_nf hfrl hp rfl).trans ((zp_nf hfrn hp rfl).trans g10))) (((zp_nf hfrl hp rfl).trans ((zp_nf hfrn hp rfl).trans g24))) (((zp_nf hfrl hp rfl).trans ((zp_nf hfrn hp rfl).trans g25))) (((zp_nf hfrl hp rfl).trans ((zp_nf hfrn hp rfl).trans g56)))
  refine zp_load (pc := 0) hx hb (zd_X12_orders (0, .aload_n 0, 1, 0, []) (List.mem_of_getElem? (i := 0) rfl)) rfl (j := 0) rfl ?_
  refine zp_const (pc := 1) hx hb (zd_X12_orders (1, .iconst 0, 1, 0, []) (List.mem_of_getElem? (i := 1) rfl)) rfl rfl ?_
  refine zp_putf (pc := 2) hx hb hE hw heff (zd_X12_orders (2, .putfield 161, 3, 0, []) (List.mem_of_getElem? (i := 2) rfl)) (j := 18) rfl rfl rfl hp (zp_o0 (by decide) (by decide) (by decide) (by decide)) ?_
  refine zp_load (pc := 5) hx hb (zd_X12_orders (5, .aload_n 0, 1, 0, []) (List.mem_of_getElem? (i := 3) rfl)) rfl (j := 0) rfl ?_
  refine zp_const (pc := 6) hx hb (zd_X12_orders (6, .iconst (-1), 1, 0, []) (List.mem_of_getElem? (i := 4) rfl)) rfl rfl ?_
  refine zp_putf (pc := 7) hx hb hE hw heff (zd_X12_orders (7, .putfield 152, 3, 0, []) (List.mem_of_getElem? (i := 5) rfl)) (j := 77) rfl rfl rfl hp (zp_o0 (by decide) (by decide) (by decide) (by decide)) ?_
  refine zp_load (pc := 10) hx hb (zd_X12_orders (10, .aload_n 0, 1, 0, []) (List.mem_of_getElem? (i := 6) rfl)) rfl (j := 0) rfl ?_
  refine zp_const (pc := 11) hx hb (zd_X12_orders (11, .iconst 1, 1, 0, []) (List.mem_of_getElem? (i := 7) rfl)) rfl rfl ?_
  refine zp_call (pc := 12) (how := 0) (idx := 379) (mi := 210) (S := []) hx hb hE hw heff hrm (zX_bx hW) rfl (j := 12) rfl rfl (by decide +kernel) (zd_X12_orders (12, .invokevirtual 379, 3, 0, []) (List.mem_of_getElem? (i := 8) rfl)) [(a : Int), 1] rfl ⟨zp_o2 hp, zp_o0 (by decide) (by decide) (by decide) (by decide), trivial⟩ (Nat.le_of_ble_eq_true rfl) trivial (fun al hal rnb Pb Gb hextb hfrb hokb hcsb hpsib => ?_)
  obtain rfl := List.mem_singleton.mp hal
  obtain ⟨rfl, y1, y2, y3, y4, y5⟩ := hpsib
  have y1 : zs_tk a Gb := y1
  have y2 : Gb a 19 = 0 := y2
  have y4 : Gb a 21 = 0 := y4
  have y5 : Gb a 23 = 0 := y5
  have hinb : zo_in2 a Gb := ⟨⟨y1, by omega, by omega, by omega, by have := y1.1; omega, fun c hc => by omega⟩, fun c hc => by omega⟩
  refine zp_load (pc := 15) hx hb (zd_X12_orders (15, .aload_n 0, 1, 0, []) (List.mem_of_getElem? (i := 9) rfl)) rfl (j := 0) rfl ?_
  refine zp_call (pc := 16) (how := 0) (idx := 549) (mi := 288) (S := []) hx hb hE hw heff hrm (zX_ro2 hW) rfl (j := 69) rfl rfl (by decide +kernel) (zd_X12_orders (16, .invokevirtual 549, 3, 0, []) (List.mem_of_getElem? (i := 10) rfl)) [(a : Int)] rfl ⟨zp_o2 hp, trivial⟩ (Nat.le_of_ble_eq_true rfl) hinb (fun al hal rnl Pl Gl hextl hfrl hokl hcsl hpsil => ?_)
  obtain rfl := List.mem_singleton.mp hal
  obtain ⟨rfl, hl1, hl2, hl3⟩ := hpsil
  have hl1 : zo_in2 a Gl := hl1
  have hl2 : Gb a 14 ≤ Gl a 14 := hl2
  have hq := hl1.1.1.1
  exact loop 401 Gl (by omega) hl1 (((zp_nf hfrl hp rfl).trans ((zp_nf hfrb hp rfl).trans ((zp_set_ne (Or.inr (by decide))).trans ((zp_set_ne (Or.inr (by decide))).trans (hb6)))))) (((zp_nf hfrl hp rfl).trans ((zp_nf hfrb hp rfl).trans ((zp_set_ne (Or.inr (by decide))).trans ((zp_set_ne (Or.inr (by decide))).trans (hb7)))))) (((zp_nf hfrl hp rfl).trans ((zp_nf hfrb hp rfl).trans ((zp_set_ne (Or.inr (by decide))).trans ((zp_set_ne (Or.inr (by decide))).trans (hb9)))))) (((zp_nf hfrl hp rfl).trans ((zp_nf hfrb hp rfl).trans ((zp_set_ne (Or.inr (by decide))).trans ((zp_set_ne (Or.inr (by decide))).trans (hb10)))))) (((zp_nf hfrl hp rfl).trans ((zp_nf hfrb hp rfl).trans ((zp_set_ne (Or.inr (by decide))).trans ((zp_set_ne (Or.inr (by decide))).trans (hb24)))))) (((zp_nf hfrl hp rfl).trans ((zp_nf hfrb hp rfl).trans ((zp_set_ne (Or.inr (by decide))).trans ((zp_set_ne (Or.inr (by decide))).trans (hb25)))))) (((zp_nf hfrl hp rfl).trans ((zp_nf hfrb hp rfl).trans ((zp_set_ne (Or.inr (by decide))).trans ((zp_set_ne (Or.inr (by decide))).trans (hb56))))))
