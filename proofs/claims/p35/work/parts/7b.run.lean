/-! part 7b: runOne -/
def zo_z : (Nat → Option Nat) → (Nat → Nat → Int) → List Int → Prop := fun _ G ps => G (zp_0 ps) 20 = 0
def zo_zb : (Nat → Option Nat) → (Nat → Nat → Int) → List Int → (Nat → Option Nat) → (Nat → Nat → Int) → Int → Prop := fun _ _ ps _ G' _ => G' (zp_0 ps) 20 = 0
theorem zp_00 {ps : List Int} {a : Nat} (h : ps[0]? = some (a : Int)) : zp_0 ps = a := by
  unfold zp_0
  rw [List.getD_eq_getElem?_getD, h]
  exact Int.toNat_natCast a
/-- a contract by the checker for the model of type 13, for that of type 92 -/
theorem zp_sw13 {l : Launch} {w : zk_W} (hW : zh_W w) {K : zk_K} (h : zh_K l w K) (hb : zp_swB K 13 = true) (he : zp_nfb (zk_Ke K) 13 20 = true) : zk_metX l w zt_dv zt_TB (zp_swK K 13 92) (zp_A zo_z) (zp_B zo_zb) ∧ zk_cok w zt_TB (zp_swK K 13 92) :=
  zp_swap hW (Or.inl ⟨rfl, rfl⟩) (zp_plain h) hb (fun P G ps a h0 hp hφ => ⟨fun _ => by have hφ : G (zp_0 ps) 20 = 0 := hφ; rw [zp_00 h0] at hφ; exact hφ, trivial⟩) (fun P G ps P' G' rn a h0 hp hφ hp' h13 hfr hψ => ⟨fun z => absurd z (by decide), by
    have hφ : G (zp_0 ps) 20 = 0 := hφ
    show G' (zp_0 ps) 20 = 0
    rw [zp_00 h0] at hφ ⊢
    exact (zp_nf hfr zk_up_self he).trans hφ⟩)
/-- what holds while an order is run -/
def zo_ru (a b24 b25 b56 c : Nat) (dn : Int) (P : Nat → Option Nat) (G : Nat → Nat → Int) : Prop := P a = some 92 ∧ P b24 = some 68 ∧ P b25 = some 69 ∧ P b56 = some 90 ∧ G a 24 = (b24 : Int) ∧ G a 25 = (b25 : Int) ∧ G a 56 = (b56 : Int) ∧ G a 20 = 0 ∧ G a 19 = 0 ∧ zo_pr a G (c + 1) ∧ zo_pr a G (c + 3) ∧ zo_pr a G (c + 5) ∧ G a 57 = dn
theorem zo_pr_same {a i : Nat} {G G' : Nat → Nat → Int} (h : zo_pr a G i) (h19 : G' a 19 = G a 19) (h23 : G' a 23 = G a 23) (h24 : ∀ j, zv G' a 24 j = zv G a 24 j) (h25 : ∀ j, zv G' a 25 j = zv G a 25 j) (h56 : ∀ j, zv G' a 56 j = zv G a 56 j) : zo_pr a G' i := by
  obtain ⟨a1, a2, a3, a4, a5⟩ := h
  unfold zo_pr
  rw [h56, h56, h19, h23]
  exact ⟨a1, a2, a3, a4, fun z z2 => zh_crc (a5 z z2) (fun q _ _ => ⟨(h24 q).symm, (h25 q).symm⟩)⟩
theorem zo_ru_keep {a b24 b25 b56 c : Nat} {dn : Int} {P P' : Nat → Option Nat} {G G' : Nat → Nat → Int} (h : zo_ru a b24 b25 b56 c dn P G) (hx : ∀ b t, P b = some t → P' b = some t) (h19 : G' a 19 = G a 19) (h20 : G' a 20 = 0) (h23 : G' a 23 = G a 23) (h24 : G' a 24 = G a 24) (h25 : G' a 25 = G a 25) (h56 : G' a 56 = G a 56) (h57 : G' a 57 = G a 57) (q24 : ∀ k, G' b24 k = G b24 k) (q25 : ∀ k, G' b25 k = G b25 k) (q56 : ∀ k, G' b56 k = G b56 k) : zo_ru a b24 b25 b56 c dn P' G' := by
  obtain ⟨r0, r1, r2, r3, e24, e25, e56, e20, e19, p1, p3, p5, e57⟩ := h
  have v24 : ∀ j, zv G' a 24 j = zv G a 24 j := fun j => by rw [zv_eq (h24.trans e24), zv_eq e24, q24]
  have v25 : ∀ j, zv G' a 25 j = zv G a 25 j := fun j => by rw [zv_eq (h25.trans e25), zv_eq e25, q25]
  have v56 : ∀ j, zv G' a 56 j = zv G a 56 j := fun j => by rw [zv_eq (h56.trans e56), zv_eq e56, q56]
  exact ⟨hx _ _ r0, hx _ _ r1, hx _ _ r2, hx _ _ r3, h24.trans e24, h25.trans e25, h56.trans e56, h20, h19.trans e19, zo_pr_same p1 h19 h23 v24 v25 v56, zo_pr_same p3 h19 h23 v24 v25 v56, zo_pr_same p5 h19 h23 v24 v25 v56, h57.trans e57⟩
def zo_eb (eff : List (Nat × Nat × Nat)) : Bool := zp_nfb eff 92 19 && (zp_nfb eff 92 23 && (zp_nfb eff 92 24 && (zp_nfb eff 92 25 && (zp_nfb eff 92 56 && (zp_ncb eff 68 && (zp_ncb eff 69 && zp_ncb eff 90))))))
theorem zo_ru_fr {eff : List (Nat × Nat × Nat)} {ps : List Int} {a b24 b25 b56 c : Nat} {dn : Int} {P P' : Nat → Option Nat} {G G' : Nat → Nat → Int} (h : zo_ru a b24 b25 b56 c dn P G) (hx : ∀ b t, P b = some t → P' b = some t) (hfr : zp_fr eff ps P G G') (he : (zo_eb eff && zp_nfb eff 92 57) = true) (h20 : G' a 20 = 0) : zo_ru a b24 b25 b56 c dn P' G' := by
  unfold zo_eb at he
  simp only [Bool.and_eq_true] at he
  obtain ⟨⟨f1, f2, f3, f4, f5, f6, f7, f8⟩, f9⟩ := he
  have h' := h
  obtain ⟨r0, r1, r2, r3, -⟩ := h'
  exact zo_ru_keep h hx (zp_nf hfr r0 f1) h20 (zp_nf hfr r0 f2) (zp_nf hfr r0 f3) (zp_nf hfr r0 f4) (zp_nf hfr r0 f5) (zp_nf hfr r0 f9) (zp_nc hfr r1 f6) (zp_nc hfr r2 f7) (zp_nc hfr r3 f8)
def zo_sb (t k : Nat) : Bool := t != 68 && (t != 69 && (t != 90 && (t != 92 || (k != 19 && (k != 20 && (k != 23 && (k != 24 && (k != 25 && k != 56))))))))
theorem zo_ru_set {a b24 b25 b56 c b t k : Nat} {dn v : Int} {P : Nat → Option Nat} {G : Nat → Nat → Int} (h : zo_ru a b24 b25 b56 c dn P G) (hb : P b = some t) (he : (zo_sb t k && (t != 92 || k != 57)) = true) : zo_ru a b24 b25 b56 c dn P (zp_set G b k v) := by
  unfold zo_sb at he
  simp only [Bool.and_eq_true, Bool.or_eq_true, bne_iff_ne] at he
  obtain ⟨⟨f1, f2, f3, f4⟩, f5⟩ := he
  have h' := h
  obtain ⟨r0, r1, r2, r3, -, -, -, e20, -⟩ := h'
  have ne : ∀ j, (t = 92 → k ≠ j) → zp_set G b k v a j = G a j := fun j hj => zp_set_ne (by
    by_cases e : t = 92
    · exact Or.inr (fun z => hj e z.symm)
    · exact Or.inl (zp_pne r0 hb (fun z => e z.symm)))
  have f4' : ∀ j, j = 19 ∨ j = 20 ∨ j = 23 ∨ j = 24 ∨ j = 25 ∨ j = 56 ∨ j = 57 → t = 92 → k ≠ j := fun j hj e => by
    rcases f4 with f4 | f4
    · exact absurd e f4
    rcases f5 with f5 | f5
    · exact absurd e f5
    · omega
  exact zo_ru_keep h (fun _ _ z => z) (ne 19 (f4' _ (by omega))) ((ne 20 (f4' _ (by omega))).trans e20) (ne 23 (f4' _ (by omega))) (ne 24 (f4' _ (by omega))) (ne 25 (f4' _ (by omega))) (ne 56 (f4' _ (by omega))) (ne 57 (f4' _ (by omega))) (fun k => zp_set_ne (Or.inl (zp_pne r1 hb (fun z => f1 z.symm)))) (fun k => zp_set_ne (Or.inl (zp_pne r2 hb (fun z => f2 z.symm)))) (fun k => zp_set_ne (Or.inl (zp_pne r3 hb (fun z => f3 z.symm))))
section ZP7B
variable {p : Program} {l : Launch} {e : Env} {R : Room} {s : State} {m : MethodId} {args : Array Value} {below : List Frame} {meth : Method} {c : Code} {Q : State → Prop}
variable {cc : ByteArray} {w : zk_W} {u : zk_M} {Ts : List Jvm.Cond} {own : String}
variable {pc : Nat} {L : List (Nat × Nat × Int)} {S : List (Nat × Int)} {P : Nat → Option Nat} {G : Nat → Nat → Int}
/-- fewer locals are looked at -/
theorem zp_drop {L' : List (Nat × Nat × Int)} (hs : ∀ q ∈ L', q ∈ L) (kk : zp_J p l e R s m args below meth c Q w u [] pc L' S P G) : zp_J p l e R s m args below meth c Q w u [] pc L S P G := by
  intro F H locs ls hF hI hL hkL hkS
  refine kk F H locs ls hF hI ⟨hL.1, hL.2.1, fun q h => ?_⟩ (fun q h => hkL q (hs q h)) hkS
  obtain ⟨r, h1, rfl⟩ := List.mem_map.mp h
  exact hL.2.2 _ (List.mem_map.mpr ⟨r, hs r h1, rfl⟩)
end ZP7B
def zK_ro1 : zk_K := (zt_mn 290, prog_14_method_111_code, 6, (Option.some Jvm.ClassFile.FieldType.int), 1, 12, [(2, 92, 0, 0), (0, 0, 0, 88)], [(some (0, 0, (-2147483648), 2147483647), [])], [(62, 1001, 0), (63, 1002, 0), (92, 8, 0), (81, 1002, 0), (82, 1002, 0), (78, 1002, 0), (75, 1002, 0), (92, 34, 0), (92, 40, 0), (92, 38, 0), (92, 39, 0), (77, 1001, 0), (79, 1002, 0), (83, 1002, 0), (80, 1002, 0), (80, 1001, 0), (59, 4318, 0), (13, 8, 0), (13, 34, 0), (13, 40, 0), (13, 38, 0), (13, 39, 0), (92, 20, 0), (92, 60, 0), (92, 57, 0), (92, 58, 0), (76, 1001, 0)], (25, 1130, 0, 0))
def zφ_ro1 : (Nat → Option Nat) → (Nat → Nat → Int) → List Int → Prop := fun P G ps => (∃ b24 b25 b56, zo_ru (zp_0 ps) b24 b25 b56 (ps.getD 1 0).toNat (G (zp_0 ps) 57) P G) ∧ 0 ≤ G (zp_0 ps) 57 ∧ G (zp_0 ps) 57 ≤ 100000
def zψ_ro1 : (Nat → Option Nat) → (Nat → Nat → Int) → List Int → (Nat → Option Nat) → (Nat → Nat → Int) → Int → Prop := fun P G ps P' G' rn => G' (zp_0 ps) 20 = 0 ∧ 0 ≤ G' (zp_0 ps) 57 ∧ G' (zp_0 ps) 57 ≤ G (zp_0 ps) 57 + 1
theorem zX_ro1 {l : Launch} {w : zk_W} (hW : zh_W w) : zk_metX l w zt_dv zt_TB zK_ro1 (zp_A zφ_ro1) (zp_B zψ_ro1) ∧ zk_cok w zt_TB zK_ro1 := by
  refine zp_meth hW (pl := 2021) rfl (by decide +kernel) (fun p e R s m args below meth c Q u hx hb hE hQ hU5 heff hnL hok hφ => ?_)
  have hw := hW.1
  obtain ⟨p0, p1, hps, k0, k1⟩ := zp_ps2 hok
  obtain ⟨a, rfl, hp⟩ := zp_this k0
  have hrm : zk_Kr (zk_ev (zp_E zK_ro1)) = zk_Kr zK_ro1 := rfl
  rw [hps] at hφ ⊢
  have hi1 := zp_int k1
  have hφ : (∃ b24 b25 b56, zo_ru a b24 b25 b56 p1.toNat (zp_n u.2.1 a 57) u.1 (zp_n u.2.1)) ∧ 0 ≤ zp_n u.2.1 a 57 ∧ zp_n u.2.1 a 57 ≤ 100000 := hφ
  obtain ⟨⟨b24, b25, b56, hru⟩, hd0, hd1⟩ := hφ
  obtain ⟨dn, hdn⟩ : ∃ dn : Int, zp_n u.2.1 a 57 = dn := ⟨_, rfl⟩
  rw [hdn] at hru hd0 hd1
  obtain ⟨c0, rfl⟩ := zp_nat hi1.1
  rw [Int.toNat_natCast] at hru
  show zp_J p l e R s m args below meth c Q w u [] 0 [(0, 2, (a : Int)), (1, 0, (c0 : Int))] [] u.1 (zp_n u.2.1)
  have h187 : ∀ (op r : Int) (P : Nat → Option Nat) (G : Nat → Nat → Int), -3 ≤ r → r ≤ 9999 → zo_ru a b24 b25 b56 c0 dn P G → zp_J p l e R s m args below meth c Q w u [] 187 [(4, 0, op), (0, 2, (a : Int))] [(0, r)] P G := by
    intro op r P G hr1 hr2 hru
    have hru1 := hru
    obtain ⟨r0, r1, r2, r3, e24, e25, e56, e20, e19, pr1, pr3, pr5, e57⟩ := hru1
    refine zp_kn (k := 58) (a := a) (G := G) hw (show zp_fd 92 58 = some (12, 0, 0, (-2147483648), 2147483647) from rfl) rfl r0 (fun hk58 => ?_)
    have hx58 := zp_int hk58
    refine zp_store (L' := [(5, 0, r), (4, 0, op), (0, 2, (a : Int))]) (pc := 187) hx hb hnL (zd_X12_runOne (187, .istore 5, 2, 0, []) (List.mem_of_getElem? (i := 113) rfl)) rfl rfl rfl ?_
    refine zp_load (pc := 189) hx hb (zd_X12_runOne (189, .iload 5, 2, 0, []) (List.mem_of_getElem? (i := 114) rfl)) rfl (j := 0) rfl ?_
    refine zp_if (pc := 191) (tgt := 197) hx hb (zd_X12_runOne (191, .ifCond .ge 6, 3, 0, []) (List.mem_of_getElem? (i := 115) rfl)) rfl (fun (hc185 : 0 ≤ r) => ?_) (fun (hc185 : ¬ (0 ≤ r)) => ?_)
    · refine zp_load (pc := 197) hx hb (zd_X12_runOne (197, .aload_n 0, 1, 0, []) (List.mem_of_getElem? (i := 118) rfl)) rfl (j := 2) rfl ?_
      refine zp_load (pc := 198) hx hb (zd_X12_runOne (198, .iload 4, 2, 0, []) (List.mem_of_getElem? (i := 119) rfl)) rfl (j := 1) rfl ?_
      refine zp_const (pc := 200) hx hb (zd_X12_runOne (200, .iconst 2, 1, 0, []) (List.mem_of_getElem? (i := 120) rfl)) rfl rfl ?_
      refine zp_icmp (pc := 201) (tgt := 209) hx hb (zd_X12_runOne (201, .if_icmp .ne 8, 3, 0, []) (List.mem_of_getElem? (i := 121) rfl)) rfl (fun (hc186 : ¬ op = 2) => ?_) (fun (hc186 : ¬ (¬ op = 2)) => ?_)
      · refine zp_load (pc := 209) hx hb (zd_X12_runOne (209, .aload_n 0, 1, 0, []) (List.mem_of_getElem? (i := 124) rfl)) rfl (j := 2) rfl ?_
        refine zp_getf (n := (G a 58)) (pc := 210) hx hb hE hw (zd_X12_runOne (210, .getfield 543, 3, 0, []) (List.mem_of_getElem? (i := 125) rfl)) (j := 76) rfl rfl rfl r0 rfl ?_
        refine zp_putf (pc := 213) hx hb hE hw heff (zd_X12_runOne (213, .putfield 543, 3, 0, []) (List.mem_of_getElem? (i := 126) rfl)) (j := 76) rfl rfl rfl r0 (zp_o0 (by omega) (by omega) (by omega) (by omega)) ?_
        refine zp_load (pc := 216) hx hb (zd_X12_runOne (216, .aload_n 0, 1, 0, []) (List.mem_of_getElem? (i := 127) rfl)) rfl (j := 2) rfl ?_
        refine zp_dup (pc := 217) hx hb (zd_X12_runOne (217, .dup, 1, 0, []) (List.mem_of_getElem? (i := 128) rfl)) (show (2 : Nat) ≠ 1 by decide) ?_
        refine zp_getf (n := dn) (pc := 218) hx hb hE hw (zd_X12_runOne (218, .getfield 540, 3, 0, []) (List.mem_of_getElem? (i := 129) rfl)) (j := 75) rfl rfl rfl r0 ((zp_set_ne (Or.inr (by decide))).trans (e57)) ?_
        refine zp_const (pc := 221) hx hb (zd_X12_runOne (221, .iconst 1, 1, 0, []) (List.mem_of_getElem? (i := 130) rfl)) rfl rfl ?_
        refine zp_add (n := (dn + 1)) (pc := 222) hx hb (zd_X12_runOne (222, .iadd, 1, 0, []) (List.mem_of_getElem? (i := 131) rfl)) (by omega) (zp_r0 (by omega) (by omega)) ?_
        refine zp_putf (pc := 223) hx hb hE hw heff (zd_X12_runOne (223, .putfield 540, 3, 0, []) (List.mem_of_getElem? (i := 132) rfl)) (j := 75) rfl rfl rfl r0 (zp_o0 (by omega) (by omega) (by omega) (by omega)) ?_
        refine zp_const (pc := 226) hx hb (zd_X12_runOne (226, .iconst 0, 1, 0, []) (List.mem_of_getElem? (i := 133) rfl)) rfl rfl ?_
        refine zp_iret (pc := 227) (n := 0) hx hb hE hQ hU5 rfl (by decide) (zd_X12_runOne (227, .ireturn, 1, 0, []) (List.mem_of_getElem? (i := 134) rfl)) (j := 0) rfl (zp_o0 (by omega) (by omega) (by omega) (by omega)) ?_
        rw [hps]
        refine (show (zp_set (zp_set G a 58 (G a 58)) a 57 (dn + 1)) a 20 = 0 ∧ 0 ≤ (zp_set (zp_set G a 58 (G a 58)) a 57 (dn + 1)) a 57 ∧ (zp_set (zp_set G a 58 (G a 58)) a 57 (dn + 1)) a 57 ≤ zp_n u.2.1 a 57 + 1 from ⟨((zp_set_ne (Or.inr (by decide))).trans ((zp_set_ne (Or.inr (by decide))).trans (e20))), ?_⟩)
        rw [hdn, (show (zp_set (zp_set G a 58 (G a 58)) a 57 (dn + 1)) a 57 = (dn + 1) from zp_set_self)]
        omega
      · refine zp_load (pc := 204) hx hb (zd_X12_runOne (204, .iload 5, 2, 0, []) (List.mem_of_getElem? (i := 122) rfl)) rfl (j := 0) rfl ?_
        refine zp_goto (tgt := 213) (pc := 206) hx hb (zd_X12_runOne (206, .goto 7, 3, 0, []) (List.mem_of_getElem? (i := 123) rfl)) rfl ?_
        refine zp_putf (pc := 213) hx hb hE hw heff (zd_X12_runOne (213, .putfield 543, 3, 0, []) (List.mem_of_getElem? (i := 126) rfl)) (j := 76) rfl rfl rfl r0 (zp_o0 (by omega) (by omega) (by omega) (by omega)) ?_
        refine zp_load (pc := 216) hx hb (zd_X12_runOne (216, .aload_n 0, 1, 0, []) (List.mem_of_getElem? (i := 127) rfl)) rfl (j := 2) rfl ?_
        refine zp_dup (pc := 217) hx hb (zd_X12_runOne (217, .dup, 1, 0, []) (List.mem_of_getElem? (i := 128) rfl)) (show (2 : Nat) ≠ 1 by decide) ?_
        refine zp_getf (n := dn) (pc := 218) hx hb hE hw (zd_X12_runOne (218, .getfield 540, 3, 0, []) (List.mem_of_getElem? (i := 129) rfl)) (j := 75) rfl rfl rfl r0 ((zp_set_ne (Or.inr (by decide))).trans (e57)) ?_
        refine zp_const (pc := 221) hx hb (zd_X12_runOne (221, .iconst 1, 1, 0, []) (List.mem_of_getElem? (i := 130) rfl)) rfl rfl ?_
        refine zp_add (n := (dn + 1)) (pc := 222) hx hb (zd_X12_runOne (222, .iadd, 1, 0, []) (List.mem_of_getElem? (i := 131) rfl)) (by omega) (zp_r0 (by omega) (by omega)) ?_
        refine zp_putf (pc := 223) hx hb hE hw heff (zd_X12_runOne (223, .putfield 540, 3, 0, []) (List.mem_of_getElem? (i := 132) rfl)) (j := 75) rfl rfl rfl r0 (zp_o0 (by omega) (by omega) (by omega) (by omega)) ?_
        refine zp_const (pc := 226) hx hb (zd_X12_runOne (226, .iconst 0, 1, 0, []) (List.mem_of_getElem? (i := 133) rfl)) rfl rfl ?_
        refine zp_iret (pc := 227) (n := 0) hx hb hE hQ hU5 rfl (by decide) (zd_X12_runOne (227, .ireturn, 1, 0, []) (List.mem_of_getElem? (i := 134) rfl)) (j := 0) rfl (zp_o0 (by omega) (by omega) (by omega) (by omega)) ?_
        rw [hps]
        refine (show (zp_set (zp_set G a 58 r) a 57 (dn + 1)) a 20 = 0 ∧ 0 ≤ (zp_set (zp_set G a 58 r) a 57 (dn + 1)) a 57 ∧ (zp_set (zp_set G a 58 r) a 57 (dn + 1)) a 57 ≤ zp_n u.2.1 a 57 + 1 from ⟨((zp_set_ne (Or.inr (by decide))).trans ((zp_set_ne (Or.inr (by decide))).trans (e20))), ?_⟩)
        rw [hdn, (show (zp_set (zp_set G a 58 r) a 57 (dn + 1)) a 57 = (dn + 1) from zp_set_self)]
        omega
    · refine zp_const (pc := 194) hx hb (zd_X12_runOne (194, .bipush (-3), 2, 0, []) (List.mem_of_getElem? (i := 116) rfl)) rfl rfl ?_
      refine zp_iret (pc := 196) (n := (-3)) hx hb hE hQ hU5 rfl (by decide) (zd_X12_runOne (196, .ireturn, 1, 0, []) (List.mem_of_getElem? (i := 117) rfl)) (j := 0) rfl (zp_o0 (by omega) (by omega) (by omega) (by omega)) ?_
      rw [hps]
      refine (show G a 20 = 0 ∧ 0 ≤ G a 57 ∧ G a 57 ≤ zp_n u.2.1 a 57 + 1 from ⟨e20, ?_⟩)
      rw [hdn, (show G a 57 = dn from e57)]
      omega
  have h133 : ∀ (v2 v3 : Int) (P : Nat → Option Nat) (G : Nat → Nat → Int), -2147483648 ≤ v2 → v2 ≤ 2147483647 → -2147483648 ≤ v3 → v3 ≤ 2147483647 → zo_ru a b24 b25 b56 c0 dn P G → zp_J p l e R s m args below meth c Q w u [] 133 [(3, 0, v3), (2, 0, v2), (0, 2, (a : Int)), (1, 0, (c0 : Int))] [] P G := by
    intro v2 v3 P G h21 h22 h31 h32 hru
    have hru1 := hru
    obtain ⟨r0, r1, r2, r3, e24, e25, e56, e20, e19, pr1, pr3, pr5, e57⟩ := hru1
    refine zp_load (pc := 133) hx hb (zd_X12_runOne (133, .aload_n 0, 1, 0, []) (List.mem_of_getElem? (i := 85) rfl)) rfl (j := 2) rfl ?_
    refine zp_getf (n := (b56 : Int)) (pc := 134) hx hb hE hw (zd_X12_runOne (134, .getfield 149, 3, 0, []) (List.mem_of_getElem? (i := 86) rfl)) (j := 74) rfl rfl rfl r0 e56 ?_
    refine zp_load (pc := 137) hx hb (zd_X12_runOne (137, .iload_n 1, 1, 0, []) (List.mem_of_getElem? (i := 87) rfl)) rfl (j := 3) rfl ?_
    refine zp_iald (j := c0) (v := (G b56 (2000 + c0))) (pc := 138) hx hb hw (zd_X12_runOne (138, .iaload, 1, 0, []) (List.mem_of_getElem? (i := 88) rfl)) (show zp_ia 1 90 = some (96, 0, 0, (-2147483648), 2147483647) from rfl) r3 (by omega) (by omega) rfl (fun hk187 => ?_)
    have hk187b := zp_int hk187
    refine zp_store (L' := [(4, 0, (G b56 (2000 + c0))), (3, 0, v3), (2, 0, v2), (0, 2, (a : Int)), (1, 0, (c0 : Int))]) (pc := 139) hx hb hnL (zd_X12_runOne (139, .istore 4, 2, 0, []) (List.mem_of_getElem? (i := 89) rfl)) rfl rfl rfl ?_
    refine zp_load (pc := 141) hx hb (zd_X12_runOne (141, .iload 4, 2, 0, []) (List.mem_of_getElem? (i := 90) rfl)) rfl (j := 0) rfl ?_
    refine zp_if (pc := 143) (tgt := 154) hx hb (zd_X12_runOne (143, .ifCond .ne 11, 3, 0, []) (List.mem_of_getElem? (i := 91) rfl)) rfl (fun (hc188 : ¬ (G b56 (2000 + c0)) = 0) => ?_) (fun (hc188 : ¬ (¬ (G b56 (2000 + c0)) = 0)) => ?_)
    · refine zp_load (pc := 154) hx hb (zd_X12_runOne (154, .iload 4, 2, 0, []) (List.mem_of_getElem? (i := 96) rfl)) rfl (j := 0) rfl ?_
      refine zp_const (pc := 156) hx hb (zd_X12_runOne (156, .iconst 1, 1, 0, []) (List.mem_of_getElem? (i := 97) rfl)) rfl rfl ?_
      refine zp_icmp (pc := 157) (tgt := 169) hx hb (zd_X12_runOne (157, .if_icmp .ne 12, 3, 0, []) (List.mem_of_getElem? (i := 98) rfl)) rfl (fun (hc189 : ¬ (G b56 (2000 + c0)) = 1) => ?_) (fun (hc189 : ¬ (¬ (G b56 (2000 + c0)) = 1)) => ?_)
      · refine zp_load (pc := 169) hx hb (zd_X12_runOne (169, .iload 4, 2, 0, []) (List.mem_of_getElem? (i := 104) rfl)) rfl (j := 0) rfl ?_
        refine zp_const (pc := 171) hx hb (zd_X12_runOne (171, .iconst 2, 1, 0, []) (List.mem_of_getElem? (i := 105) rfl)) rfl rfl ?_
        refine zp_icmp (pc := 172) (tgt := 182) hx hb (zd_X12_runOne (172, .if_icmp .ne 10, 3, 0, []) (List.mem_of_getElem? (i := 106) rfl)) rfl (fun (hc190 : ¬ (G b56 (2000 + c0)) = 2) => ?_) (fun (hc190 : ¬ (¬ (G b56 (2000 + c0)) = 2)) => ?_)
        · refine zp_load (pc := 182) hx hb (zd_X12_runOne (182, .aload_n 0, 1, 0, []) (List.mem_of_getElem? (i := 110) rfl)) rfl (j := 3) rfl ?_
          refine zp_load (pc := 183) hx hb (zd_X12_runOne (183, .iload_n 2, 1, 0, []) (List.mem_of_getElem? (i := 111) rfl)) rfl (j := 2) rfl ?_
          refine zp_call (pc := 184) (how := 0) (idx := 519) (mi := 286) (S := []) hx hb hE hw heff hrm (zp_sw13 hW (zq_1129 hW) (by decide +kernel) (by decide +kernel)) rfl (j := 68) rfl rfl (by decide +kernel) (zd_X12_runOne (184, .invokevirtual 519, 3, 0, []) (List.mem_of_getElem? (i := 112) rfl)) [(a : Int), v2] rfl ⟨zp_o2 r0, zp_o0 (by omega) (by omega) (by omega) (by omega), trivial⟩ (Nat.le_of_ble_eq_true rfl) (show G (zp_0 [(a : Int), v2]) 20 = 0 from e20) (fun al hal rnq Pq Gq hextq hfrq hokq hcsq hpsiq => ?_)
          have hzq : Gq a 20 = 0 := hpsiq
          have hruq := zo_ru_fr hru hextq hfrq (by decide +kernel) hzq
          rcases List.mem_cons.mp hal with rfl | hal
          · have hrq := zp_int (hokq _ rfl).1
            refine zp_drop (L' := [(4, 0, (G b56 (2000 + c0))), (0, 2, (a : Int))]) (by simp) ?_
            exact h187 (G b56 (2000 + c0)) rnq Pq Gq (by omega) (by omega) hruq
          · obtain rfl := List.mem_singleton.mp hal
            have hrq := zp_int (hokq _ rfl).1
            refine zp_drop (L' := [(4, 0, (G b56 (2000 + c0))), (0, 2, (a : Int))]) (by simp) ?_
            exact h187 (G b56 (2000 + c0)) rnq Pq Gq (by omega) (by omega) hruq
        · refine zp_load (pc := 175) hx hb (zd_X12_runOne (175, .aload_n 0, 1, 0, []) (List.mem_of_getElem? (i := 107) rfl)) rfl (j := 3) rfl ?_
          refine zp_call (pc := 176) (how := 0) (idx := 514) (mi := 283) (S := []) hx hb hE hw heff hrm (zp_sw13 hW (zq_1126 hW) (by decide +kernel) (by decide +kernel)) rfl (j := 66) rfl rfl (by decide +kernel) (zd_X12_runOne (176, .invokevirtual 514, 3, 0, []) (List.mem_of_getElem? (i := 108) rfl)) [(a : Int)] rfl ⟨zp_o2 r0, trivial⟩ (Nat.le_of_ble_eq_true rfl) (show G (zp_0 [(a : Int)]) 20 = 0 from e20) (fun al hal rnq Pq Gq hextq hfrq hokq hcsq hpsiq => ?_)
          have hzq : Gq a 20 = 0 := hpsiq
          have hruq := zo_ru_fr hru hextq hfrq (by decide +kernel) hzq
          obtain rfl := List.mem_singleton.mp hal
          have hrq := zp_int (hokq _ rfl).1
          refine zp_drop (L' := [(4, 0, (G b56 (2000 + c0))), (0, 2, (a : Int))]) (by simp) ?_
          refine zp_goto (tgt := 187) (pc := 179) hx hb (zd_X12_runOne (179, .goto 8, 3, 0, []) (List.mem_of_getElem? (i := 109) rfl)) rfl ?_
          exact h187 (G b56 (2000 + c0)) rnq Pq Gq (by omega) (by omega) hruq
      · refine zp_load (pc := 160) hx hb (zd_X12_runOne (160, .aload_n 0, 1, 0, []) (List.mem_of_getElem? (i := 99) rfl)) rfl (j := 3) rfl ?_
        refine zp_load (pc := 161) hx hb (zd_X12_runOne (161, .iload_n 2, 1, 0, []) (List.mem_of_getElem? (i := 100) rfl)) rfl (j := 2) rfl ?_
        refine zp_load (pc := 162) hx hb (zd_X12_runOne (162, .iload_n 3, 1, 0, []) (List.mem_of_getElem? (i := 101) rfl)) rfl (j := 1) rfl ?_
        refine zp_call (pc := 163) (how := 0) (idx := 508) (mi := 280) (S := []) hx hb hE hw heff hrm (zp_sw13 hW (zq_1123 hW) (by decide +kernel) (by decide +kernel)) rfl (j := 64) rfl rfl (by decide +kernel) (zd_X12_runOne (163, .invokevirtual 508, 3, 0, []) (List.mem_of_getElem? (i := 102) rfl)) [(a : Int), v2, v3] rfl ⟨zp_o2 r0, zp_o0 (by omega) (by omega) (by omega) (by omega), zp_o0 (by omega) (by omega) (by omega) (by omega), trivial⟩ (Nat.le_of_ble_eq_true rfl) (show G (zp_0 [(a : Int), v2, v3]) 20 = 0 from e20) (fun al hal rnq Pq Gq hextq hfrq hokq hcsq hpsiq => ?_)
        have hzq : Gq a 20 = 0 := hpsiq
        have hruq := zo_ru_fr hru hextq hfrq (by decide +kernel) hzq
        rcases List.mem_cons.mp hal with rfl | hal
        · have hrq := zp_int (hokq _ rfl).1
          refine zp_drop (L' := [(4, 0, (G b56 (2000 + c0))), (0, 2, (a : Int))]) (by simp) ?_
          refine zp_goto (tgt := 187) (pc := 166) hx hb (zd_X12_runOne (166, .goto 21, 3, 0, []) (List.mem_of_getElem? (i := 103) rfl)) rfl ?_
          exact h187 (G b56 (2000 + c0)) rnq Pq Gq (by omega) (by omega) hruq
        · obtain rfl := List.mem_singleton.mp hal
          have hrq := zp_int (hokq _ rfl).1
          refine zp_drop (L' := [(4, 0, (G b56 (2000 + c0))), (0, 2, (a : Int))]) (by simp) ?_
          refine zp_goto (tgt := 187) (pc := 166) hx hb (zd_X12_runOne (166, .goto 21, 3, 0, []) (List.mem_of_getElem? (i := 103) rfl)) rfl ?_
          exact h187 (G b56 (2000 + c0)) rnq Pq Gq (by omega) (by omega) hruq
    · refine zp_load (pc := 146) hx hb (zd_X12_runOne (146, .aload_n 0, 1, 0, []) (List.mem_of_getElem? (i := 92) rfl)) rfl (j := 3) rfl ?_
      refine zp_load (pc := 147) hx hb (zd_X12_runOne (147, .iload_n 2, 1, 0, []) (List.mem_of_getElem? (i := 93) rfl)) rfl (j := 2) rfl ?_
      refine zp_call (pc := 148) (how := 0) (idx := 502) (mi := 276) (S := []) hx hb hE hw heff hrm (zp_sw13 hW (zq_1120 hW) (by decide +kernel) (by decide +kernel)) rfl (j := 61) rfl rfl (by decide +kernel) (zd_X12_runOne (148, .invokevirtual 502, 3, 0, []) (List.mem_of_getElem? (i := 94) rfl)) [(a : Int), v2] rfl ⟨zp_o2 r0, zp_o0 (by omega) (by omega) (by omega) (by omega), trivial⟩ (Nat.le_of_ble_eq_true rfl) (show G (zp_0 [(a : Int), v2]) 20 = 0 from e20) (fun al hal rnq Pq Gq hextq hfrq hokq hcsq hpsiq => ?_)
      have hzq : Gq a 20 = 0 := hpsiq
      have hruq := zo_ru_fr hru hextq hfrq (by decide +kernel) hzq
      rcases List.mem_cons.mp hal with rfl | hal
      · have hrq := zp_int (hokq _ rfl).1
        refine zp_drop (L' := [(4, 0, (G b56 (2000 + c0))), (0, 2, (a : Int))]) (by simp) ?_
        refine zp_goto (tgt := 187) (pc := 151) hx hb (zd_X12_runOne (151, .goto 36, 3, 0, []) (List.mem_of_getElem? (i := 95) rfl)) rfl ?_
        exact h187 (G b56 (2000 + c0)) rnq Pq Gq (by omega) (by omega) hruq
      · obtain rfl := List.mem_singleton.mp hal
        have hrq := zp_int (hokq _ rfl).1
        refine zp_drop (L' := [(4, 0, (G b56 (2000 + c0))), (0, 2, (a : Int))]) (by simp) ?_
        refine zp_goto (tgt := 187) (pc := 151) hx hb (zd_X12_runOne (151, .goto 36, 3, 0, []) (List.mem_of_getElem? (i := 95) rfl)) rfl ?_
        exact h187 (G b56 (2000 + c0)) rnq Pq Gq (by omega) (by omega) hruq
  have h107 : ∀ (P : Nat → Option Nat) (G : Nat → Nat → Int), zo_ru a b24 b25 b56 c0 dn P G → zp_J p l e R s m args below meth c Q w u [] 107 [(0, 2, (a : Int)), (1, 0, (c0 : Int))] [] P G := by
    intro P G hru
    have hru1 := hru
    obtain ⟨r0, r1, r2, r3, e24, e25, e56, e20, e19, pr1, pr3, pr5, e57⟩ := hru1
    refine zp_load (pc := 107) hx hb (zd_X12_runOne (107, .aload_n 0, 1, 0, []) (List.mem_of_getElem? (i := 68) rfl)) rfl (j := 0) rfl ?_
    refine zp_load (pc := 108) hx hb (zd_X12_runOne (108, .iload_n 1, 1, 0, []) (List.mem_of_getElem? (i := 69) rfl)) rfl (j := 1) rfl ?_
    refine zp_const (pc := 109) hx hb (zd_X12_runOne (109, .iconst 1, 1, 0, []) (List.mem_of_getElem? (i := 70) rfl)) rfl rfl ?_
    refine zp_add (n := ((c0 : Int) + 1)) (pc := 110) hx hb (zd_X12_runOne (110, .iadd, 1, 0, []) (List.mem_of_getElem? (i := 71) rfl)) (by omega) (zp_r0 (by omega) (by omega)) ?_
    have hcax : (((c0 : Int) + 1)).toNat = c0 + 1 := by omega
    refine zp_call (pc := 111) (how := 0) (idx := 546) (mi := 291) (S := []) hx hb hE hw heff hrm (zX_so hW) rfl (j := 72) rfl rfl (by decide +kernel) (zd_X12_runOne (111, .invokevirtual 546, 3, 0, []) (List.mem_of_getElem? (i := 72) rfl)) [(a : Int), ((c0 : Int) + 1)] rfl ⟨zp_o2 r0, zp_o0 (by omega) (by omega) (by omega) (by omega), trivial⟩ (Nat.le_of_ble_eq_true rfl) (show G a 20 = 0 ∧ G a 19 = 0 ∧ zo_pr a G (((c0 : Int) + 1)).toNat from ⟨e20, e19, by rw [hcax]; exact pr1⟩) (fun al hal rnx Px Gx hextx hfrx hokx hcsx hpsix => ?_)
    obtain rfl := List.mem_singleton.mp hal
    have hrx := zp_int (hokx _ rfl).1
    have hzx : Gx a 20 = 0 := hpsix
    have rux := zo_ru_fr hru hextx hfrx (by decide +kernel) hzx
    refine zp_kn (k := 60) (a := a) (G := Gx) hw (show zp_fd 92 60 = some (12, 0, 0, 0, 1) from rfl) rfl rux.1 (fun hk60x => ?_)
    have hx60x := zp_int hk60x
    refine zp_store (L' := [(2, 0, rnx), (0, 2, (a : Int)), (1, 0, (c0 : Int))]) (pc := 114) hx hb hnL (zd_X12_runOne (114, .istore_n 2, 1, 0, []) (List.mem_of_getElem? (i := 73) rfl)) rfl rfl rfl ?_
    refine zp_load (pc := 115) hx hb (zd_X12_runOne (115, .aload_n 0, 1, 0, []) (List.mem_of_getElem? (i := 74) rfl)) rfl (j := 1) rfl ?_
    refine zp_load (pc := 116) hx hb (zd_X12_runOne (116, .iload_n 1, 1, 0, []) (List.mem_of_getElem? (i := 75) rfl)) rfl (j := 2) rfl ?_
    refine zp_const (pc := 117) hx hb (zd_X12_runOne (117, .iconst 3, 1, 0, []) (List.mem_of_getElem? (i := 76) rfl)) rfl rfl ?_
    refine zp_add (n := ((c0 : Int) + 3)) (pc := 118) hx hb (zd_X12_runOne (118, .iadd, 1, 0, []) (List.mem_of_getElem? (i := 77) rfl)) (by omega) (zp_r0 (by omega) (by omega)) ?_
    have hcay : (((c0 : Int) + 3)).toNat = c0 + 3 := by omega
    refine zp_call (pc := 119) (how := 0) (idx := 546) (mi := 291) (S := []) hx hb hE hw heff hrm (zX_so hW) rfl (j := 72) rfl rfl (by decide +kernel) (zd_X12_runOne (119, .invokevirtual 546, 3, 0, []) (List.mem_of_getElem? (i := 78) rfl)) [(a : Int), ((c0 : Int) + 3)] rfl ⟨zp_o2 rux.1, zp_o0 (by omega) (by omega) (by omega) (by omega), trivial⟩ (Nat.le_of_ble_eq_true rfl) (show Gx a 20 = 0 ∧ Gx a 19 = 0 ∧ zo_pr a Gx (((c0 : Int) + 3)).toNat from ⟨hzx, rux.2.2.2.2.2.2.2.2.1, by rw [hcay]; exact rux.2.2.2.2.2.2.2.2.2.2.1⟩) (fun al hal rny Py Gy hexty hfry hoky hcsy hpsiy => ?_)
    obtain rfl := List.mem_singleton.mp hal
    have hry := zp_int (hoky _ rfl).1
    have hzy : Gy a 20 = 0 := hpsiy
    have ruy := zo_ru_fr rux hexty hfry (by decide +kernel) hzy
    refine zp_kn (k := 60) (a := a) (G := Gy) hw (show zp_fd 92 60 = some (12, 0, 0, 0, 1) from rfl) rfl ruy.1 (fun hk60y => ?_)
    have hx60y := zp_int hk60y
    refine zp_store (L' := [(3, 0, rny), (2, 0, rnx), (0, 2, (a : Int)), (1, 0, (c0 : Int))]) (pc := 122) hx hb hnL (zd_X12_runOne (122, .istore_n 3, 1, 0, []) (List.mem_of_getElem? (i := 79) rfl)) rfl rfl rfl ?_
    refine zp_load (pc := 123) hx hb (zd_X12_runOne (123, .aload_n 0, 1, 0, []) (List.mem_of_getElem? (i := 80) rfl)) rfl (j := 2) rfl ?_
    refine zp_getf (n := (Gy a 60)) (pc := 124) hx hb hE hw (zd_X12_runOne (124, .getfield 537, 3, 0, []) (List.mem_of_getElem? (i := 81) rfl)) (j := 78) rfl rfl rfl ruy.1 rfl ?_
    refine zp_if (pc := 127) (tgt := 133) hx hb (zd_X12_runOne (127, .ifCond .eq 6, 3, 0, []) (List.mem_of_getElem? (i := 82) rfl)) rfl (fun (hc191 : (Gy a 60) = 0) => ?_) (fun (hc191 : ¬ ((Gy a 60) = 0)) => ?_)
    · exact h133 rnx rny _ _ (by omega) (by omega) (by omega) (by omega) ruy
    · refine zp_const (pc := 130) hx hb (zd_X12_runOne (130, .bipush (-3), 2, 0, []) (List.mem_of_getElem? (i := 83) rfl)) rfl rfl ?_
      refine zp_iret (pc := 132) (n := (-3)) hx hb hE hQ hU5 rfl (by decide) (zd_X12_runOne (132, .ireturn, 1, 0, []) (List.mem_of_getElem? (i := 84) rfl)) (j := 0) rfl (zp_o0 (by omega) (by omega) (by omega) (by omega)) ?_
      rw [hps]
      refine (show Gy a 20 = 0 ∧ 0 ≤ Gy a 57 ∧ Gy a 57 ≤ zp_n u.2.1 a 57 + 1 from ⟨hzy, ?_⟩)
      rw [hdn, (show Gy a 57 = dn from ruy.2.2.2.2.2.2.2.2.2.2.2.2)]
      omega
  have h66 : ∀ (P : Nat → Option Nat) (G : Nat → Nat → Int), zo_ru a b24 b25 b56 c0 dn P G → zp_J p l e R s m args below meth c Q w u [] 66 [(0, 2, (a : Int)), (1, 0, (c0 : Int))] [] P G := by
    intro P G hru
    have hru1 := hru
    obtain ⟨r0, r1, r2, r3, e24, e25, e56, e20, e19, pr1, pr3, pr5, e57⟩ := hru1
    have pr5b := pr5
    obtain ⟨w1, w2, w3, w4, -⟩ := pr5b
    rw [zv_eq e56] at w1 w2 w3 w4
    refine zp_load (pc := 66) hx hb (zd_X12_runOne (66, .aload_n 0, 1, 0, []) (List.mem_of_getElem? (i := 42) rfl)) rfl (j := 0) rfl ?_
    refine zp_getf (n := (b56 : Int)) (pc := 67) hx hb hE hw (zd_X12_runOne (67, .getfield 149, 3, 0, []) (List.mem_of_getElem? (i := 43) rfl)) (j := 74) rfl rfl rfl r0 e56 ?_
    refine zp_load (pc := 70) hx hb (zd_X12_runOne (70, .iload_n 1, 1, 0, []) (List.mem_of_getElem? (i := 44) rfl)) rfl (j := 1) rfl ?_
    refine zp_const (pc := 71) hx hb (zd_X12_runOne (71, .iconst 5, 1, 0, []) (List.mem_of_getElem? (i := 45) rfl)) rfl rfl ?_
    refine zp_add (n := ((c0 : Int) + 5)) (pc := 72) hx hb (zd_X12_runOne (72, .iadd, 1, 0, []) (List.mem_of_getElem? (i := 46) rfl)) (by omega) (zp_r0 (by omega) (by omega)) ?_
    refine zp_iald (j := (c0 + 5)) (v := (G b56 (2000 + (c0 + 5)))) (pc := 73) hx hb hw (zd_X12_runOne (73, .iaload, 1, 0, []) (List.mem_of_getElem? (i := 47) rfl)) (show zp_ia 1 90 = some (96, 0, 0, (-2147483648), 2147483647) from rfl) r3 (by omega) (by omega) rfl (fun hk192 => ?_)
    have hk192b := zp_int hk192
    refine zp_load (pc := 74) hx hb (zd_X12_runOne (74, .aload_n 0, 1, 0, []) (List.mem_of_getElem? (i := 48) rfl)) rfl (j := 0) rfl ?_
    refine zp_getf (n := (b56 : Int)) (pc := 75) hx hb hE hw (zd_X12_runOne (75, .getfield 149, 3, 0, []) (List.mem_of_getElem? (i := 49) rfl)) (j := 74) rfl rfl rfl r0 e56 ?_
    refine zp_load (pc := 78) hx hb (zd_X12_runOne (78, .iload_n 1, 1, 0, []) (List.mem_of_getElem? (i := 50) rfl)) rfl (j := 1) rfl ?_
    refine zp_const (pc := 79) hx hb (zd_X12_runOne (79, .bipush 6, 2, 0, []) (List.mem_of_getElem? (i := 51) rfl)) rfl rfl ?_
    refine zp_add (n := ((c0 : Int) + 6)) (pc := 81) hx hb (zd_X12_runOne (81, .iadd, 1, 0, []) (List.mem_of_getElem? (i := 52) rfl)) (by omega) (zp_r0 (by omega) (by omega)) ?_
    refine zp_iald (j := (c0 + 6)) (v := (G b56 (2000 + (c0 + 6)))) (pc := 82) hx hb hw (zd_X12_runOne (82, .iaload, 1, 0, []) (List.mem_of_getElem? (i := 53) rfl)) (show zp_ia 1 90 = some (96, 0, 0, (-2147483648), 2147483647) from rfl) r3 (by omega) (by omega) rfl (fun hk193 => ?_)
    have hk193b := zp_int hk193
    refine zp_icmp (pc := 83) (tgt := 107) hx hb (zd_X12_runOne (83, .if_icmp .ge 24, 3, 0, []) (List.mem_of_getElem? (i := 54) rfl)) rfl (fun (hc194 : (G b56 (2000 + (c0 + 6))) ≤ (G b56 (2000 + (c0 + 5)))) => ?_) (fun (hc194 : ¬ ((G b56 (2000 + (c0 + 6))) ≤ (G b56 (2000 + (c0 + 5))))) => ?_)
    · refine zp_drop (L' := [(0, 2, (a : Int)), (1, 0, (c0 : Int))]) (by simp) ?_
      exact h107 _ _ hru
    · refine zp_load (pc := 86) hx hb (zd_X12_runOne (86, .aload_n 0, 1, 0, []) (List.mem_of_getElem? (i := 55) rfl)) rfl (j := 0) rfl ?_
      refine zp_load (pc := 87) hx hb (zd_X12_runOne (87, .iload_n 1, 1, 0, []) (List.mem_of_getElem? (i := 56) rfl)) rfl (j := 1) rfl ?_
      refine zp_const (pc := 88) hx hb (zd_X12_runOne (88, .iconst 5, 1, 0, []) (List.mem_of_getElem? (i := 57) rfl)) rfl rfl ?_
      refine zp_add (n := ((c0 : Int) + 5)) (pc := 89) hx hb (zd_X12_runOne (89, .iadd, 1, 0, []) (List.mem_of_getElem? (i := 58) rfl)) (by omega) (zp_r0 (by omega) (by omega)) ?_
      have hcaz : (((c0 : Int) + 5)).toNat = c0 + 5 := by omega
      refine zp_call (pc := 90) (how := 0) (idx := 546) (mi := 291) (S := []) hx hb hE hw heff hrm (zX_so hW) rfl (j := 72) rfl rfl (by decide +kernel) (zd_X12_runOne (90, .invokevirtual 546, 3, 0, []) (List.mem_of_getElem? (i := 59) rfl)) [(a : Int), ((c0 : Int) + 5)] rfl ⟨zp_o2 r0, zp_o0 (by omega) (by omega) (by omega) (by omega), trivial⟩ (Nat.le_of_ble_eq_true rfl) (show G a 20 = 0 ∧ G a 19 = 0 ∧ zo_pr a G (((c0 : Int) + 5)).toNat from ⟨e20, e19, by rw [hcaz]; exact pr5⟩) (fun al hal rnz Pz Gz hextz hfrz hokz hcsz hpsiz => ?_)
      obtain rfl := List.mem_singleton.mp hal
      have hrz := zp_int (hokz _ rfl).1
      have hzz : Gz a 20 = 0 := hpsiz
      have ruz := zo_ru_fr hru hextz hfrz (by decide +kernel) hzz
      refine zp_kn (k := 60) (a := a) (G := Gz) hw (show zp_fd 92 60 = some (12, 0, 0, 0, 1) from rfl) rfl ruz.1 (fun hk60z => ?_)
      have hx60z := zp_int hk60z
      refine zp_store (L' := [(2, 0, rnz), (0, 2, (a : Int)), (1, 0, (c0 : Int))]) (pc := 93) hx hb hnL (zd_X12_runOne (93, .istore_n 2, 1, 0, []) (List.mem_of_getElem? (i := 60) rfl)) rfl rfl rfl ?_
      refine zp_load (pc := 94) hx hb (zd_X12_runOne (94, .aload_n 0, 1, 0, []) (List.mem_of_getElem? (i := 61) rfl)) rfl (j := 1) rfl ?_
      refine zp_getf (n := (Gz a 60)) (pc := 95) hx hb hE hw (zd_X12_runOne (95, .getfield 537, 3, 0, []) (List.mem_of_getElem? (i := 62) rfl)) (j := 78) rfl rfl rfl ruz.1 rfl ?_
      refine zp_if (pc := 98) (tgt := 105) hx hb (zd_X12_runOne (98, .ifCond .ne 7, 3, 0, []) (List.mem_of_getElem? (i := 63) rfl)) rfl (fun (hc195 : ¬ (Gz a 60) = 0) => ?_) (fun (hc195 : ¬ (¬ (Gz a 60) = 0)) => ?_)
      · refine zp_const (pc := 105) hx hb (zd_X12_runOne (105, .iconst 0, 1, 0, []) (List.mem_of_getElem? (i := 66) rfl)) rfl rfl ?_
        refine zp_iret (pc := 106) (n := 0) hx hb hE hQ hU5 rfl (by decide) (zd_X12_runOne (106, .ireturn, 1, 0, []) (List.mem_of_getElem? (i := 67) rfl)) (j := 0) rfl (zp_o0 (by omega) (by omega) (by omega) (by omega)) ?_
        rw [hps]
        refine (show Gz a 20 = 0 ∧ 0 ≤ Gz a 57 ∧ Gz a 57 ≤ zp_n u.2.1 a 57 + 1 from ⟨hzz, ?_⟩)
        rw [hdn, (show Gz a 57 = dn from ruz.2.2.2.2.2.2.2.2.2.2.2.2)]
        omega
      · refine zp_load (pc := 101) hx hb (zd_X12_runOne (101, .iload_n 2, 1, 0, []) (List.mem_of_getElem? (i := 64) rfl)) rfl (j := 0) rfl ?_
        refine zp_if (pc := 102) (tgt := 107) hx hb (zd_X12_runOne (102, .ifCond .ne 5, 3, 0, []) (List.mem_of_getElem? (i := 65) rfl)) rfl (fun (hc196 : ¬ rnz = 0) => ?_) (fun (hc196 : ¬ (¬ rnz = 0)) => ?_)
        · refine zp_drop (L' := [(0, 2, (a : Int)), (1, 0, (c0 : Int))]) (by simp) ?_
          exact h107 _ _ ruz
        · refine zp_const (pc := 105) hx hb (zd_X12_runOne (105, .iconst 0, 1, 0, []) (List.mem_of_getElem? (i := 66) rfl)) rfl rfl ?_
          refine zp_iret (pc := 106) (n := 0) hx hb hE hQ hU5 rfl (by decide) (zd_X12_runOne (106, .ireturn, 1, 0, []) (List.mem_of_getElem? (i := 67) rfl)) (j := 0) rfl (zp_o0 (by omega) (by omega) (by omega) (by omega)) ?_
          rw [hps]
          refine (show Gz a 20 = 0 ∧ 0 ≤ Gz a 57 ∧ Gz a 57 ≤ zp_n u.2.1 a 57 + 1 from ⟨hzz, ?_⟩)
          rw [hdn, (show Gz a 57 = dn from ruz.2.2.2.2.2.2.2.2.2.2.2.2)]
          omega
  have hru1 := hru
  obtain ⟨r0, r1, r2, r3, e24, e25, e56, e20, e19, pr1, pr3, pr5, e57⟩ := hru1
  refine zp_kn (k := 36) (a := a) hw (show zp_fd 92 36 = some (12, 2, 76, 0, 0) from rfl) rfl r0 (fun hk36 => ?_)
  obtain ⟨b36, hb36, hq36⟩ := zp_this hk36
  refine zp_kn (k := 3) (a := a) hw (show zp_fd 92 3 = some (12, 2, 59, 0, 0) from rfl) rfl r0 (fun hk3 => ?_)
  obtain ⟨b3, hb3, hq3⟩ := zp_this hk3
  refine zp_kaT hw hq3 zl_T59 rfl zl_kd (fun hka => ?_)
  have hka : ∀ j, j < 5580 → zk_ok u.1 (zk_fj zl_T j) (zp_n u.2.1 b3 (2000 + j)) := hka
  refine zp_kn (k := 58) (a := a) hw (show zp_fd 92 58 = some (12, 0, 0, (-2147483648), 2147483647) from rfl) rfl r0 (fun hk58 => ?_)
  have hxb := zp_int hk58
  have hx57 : -2147483648 ≤ dn ∧ dn ≤ 2147483647 := by omega
  refine zp_load (pc := 0) hx hb (zd_X12_runOne (0, .aload_n 0, 1, 0, []) (List.mem_of_getElem? (i := 0) rfl)) rfl (j := 0) rfl ?_
  refine zp_getf (n := (b36 : Int)) (pc := 1) hx hb hE hw (zd_X12_runOne (1, .getfield 104, 3, 0, []) (List.mem_of_getElem? (i := 1) rfl)) (j := 54) rfl rfl rfl r0 hb36 ?_
  refine zp_const (pc := 4) hx hb (zd_X12_runOne (4, .iconst 1, 1, 0, []) (List.mem_of_getElem? (i := 2) rfl)) rfl rfl ?_
  refine zp_load (pc := 5) hx hb (zd_X12_runOne (5, .aload_n 0, 1, 0, []) (List.mem_of_getElem? (i := 3) rfl)) rfl (j := 0) rfl ?_
  refine zp_call (pc := 6) (how := 0) (idx := 411) (mi := 241) (S := [(0, 1), (2, (b36 : Int))]) hx hb hE hw heff hrm (zp_sw13 hW (zq_1117 hW) (by decide +kernel) (by decide +kernel)) rfl (j := 41) rfl rfl (by decide +kernel) (zd_X12_runOne (6, .invokevirtual 411, 3, 0, []) (List.mem_of_getElem? (i := 4) rfl)) [(a : Int)] rfl ⟨zp_o2 r0, trivial⟩ (Nat.le_of_ble_eq_true rfl) (show zp_n u.2.1 (zp_0 [(a : Int)]) 20 = 0 from e20) (fun al hal rnt Pt Gt hextt hfrt hokt hcst hpsit => ?_)
  obtain rfl := List.mem_singleton.mp hal
  have hrt := zp_int (hokt _ rfl).1
  have hzt : Gt a 20 = 0 := hpsit
  have rut := zo_ru_fr hru hextt hfrt (by decide +kernel) hzt
  have hqt36 := hextt _ _ hq36
  have hqt3 := hextt _ _ hq3
  refine zp_i2l (pc := 9) hx hb (zd_X12_runOne (9, .i2l, 1, 0, []) (List.mem_of_getElem? (i := 5) rfl)) ?_
  refine zp_last (j := 1) (pc := 10) hx hb hw heff (zd_X12_runOne (10, .lastore, 1, 0, []) (List.mem_of_getElem? (i := 6) rfl)) (show zp_ia 2 76 = some (13, 1, 0, (-9223372036854775808), 9223372036854775807) from rfl) hqt36 (by omega) (by omega) rfl ?_
  refine zp_load (pc := 11) hx hb (zd_X12_runOne (11, .aload_n 0, 1, 0, []) (List.mem_of_getElem? (i := 7) rfl)) rfl (j := 0) rfl ?_
  refine zp_getf (n := (b36 : Int)) (pc := 12) hx hb hE hw (zd_X12_runOne (12, .getfield 104, 3, 0, []) (List.mem_of_getElem? (i := 8) rfl)) (j := 54) rfl rfl rfl rut.1 ((zp_set_ne (Or.inl (zp_pne rut.1 hqt36 (by decide)))).trans (((zp_nf hfrt r0 rfl).trans hb36))) ?_
  refine zp_const (pc := 15) hx hb (zd_X12_runOne (15, .iconst 2, 1, 0, []) (List.mem_of_getElem? (i := 9) rfl)) rfl rfl ?_
  refine zp_load (pc := 16) hx hb (zd_X12_runOne (16, .aload_n 0, 1, 0, []) (List.mem_of_getElem? (i := 10) rfl)) rfl (j := 0) rfl ?_
  refine zp_getf (n := (b3 : Int)) (pc := 17) hx hb hE hw (zd_X12_runOne (17, .getfield 13, 3, 0, []) (List.mem_of_getElem? (i := 11) rfl)) (j := 21) rfl rfl rfl rut.1 ((zp_set_ne (Or.inl (zp_pne rut.1 hqt36 (by decide)))).trans (((zp_nf hfrt r0 rfl).trans hb3))) ?_
  refine zp_const (pc := 20) hx hb (zd_X12_runOne (20, .bipush 10, 2, 0, []) (List.mem_of_getElem? (i := 12) rfl)) rfl rfl ?_
  refine zp_ialdT (j := 10) (v := ((zp_n u.2.1) b3 (2000 + 10))) (pc := 22) hx hb hw (zd_X12_runOne (22, .iaload, 1, 0, []) (List.mem_of_getElem? (i := 13) rfl)) zl_T59 rfl (zl_kd 10) hqt3 rfl (show 10 < 5580 by decide) ((zp_set_ne (Or.inl (zp_pne hqt3 hqt36 (by decide)))).trans ((zp_nc hfrt hq3 rfl (2000 + 10)))) (fun _ => ?_)
  refine zp_i2l (pc := 23) hx hb (zd_X12_runOne (23, .i2l, 1, 0, []) (List.mem_of_getElem? (i := 14) rfl)) ?_
  refine zp_last (j := 2) (pc := 24) hx hb hw heff (zd_X12_runOne (24, .lastore, 1, 0, []) (List.mem_of_getElem? (i := 15) rfl)) (show zp_ia 2 76 = some (13, 1, 0, (-9223372036854775808), 9223372036854775807) from rfl) hqt36 (by omega) (by omega) rfl ?_
  refine zp_load (pc := 25) hx hb (zd_X12_runOne (25, .aload_n 0, 1, 0, []) (List.mem_of_getElem? (i := 16) rfl)) rfl (j := 0) rfl ?_
  refine zp_getf (n := (b36 : Int)) (pc := 26) hx hb hE hw (zd_X12_runOne (26, .getfield 104, 3, 0, []) (List.mem_of_getElem? (i := 17) rfl)) (j := 54) rfl rfl rfl rut.1 ((zp_set_ne (Or.inl (zp_pne rut.1 hqt36 (by decide)))).trans ((zp_set_ne (Or.inl (zp_pne rut.1 hqt36 (by decide)))).trans (((zp_nf hfrt r0 rfl).trans hb36)))) ?_
  refine zp_const (pc := 29) hx hb (zd_X12_runOne (29, .iconst 3, 1, 0, []) (List.mem_of_getElem? (i := 18) rfl)) rfl rfl ?_
  refine zp_load (pc := 30) hx hb (zd_X12_runOne (30, .aload_n 0, 1, 0, []) (List.mem_of_getElem? (i := 19) rfl)) rfl (j := 0) rfl ?_
  refine zp_getf (n := (b3 : Int)) (pc := 31) hx hb hE hw (zd_X12_runOne (31, .getfield 13, 3, 0, []) (List.mem_of_getElem? (i := 20) rfl)) (j := 21) rfl rfl rfl rut.1 ((zp_set_ne (Or.inl (zp_pne rut.1 hqt36 (by decide)))).trans ((zp_set_ne (Or.inl (zp_pne rut.1 hqt36 (by decide)))).trans (((zp_nf hfrt r0 rfl).trans hb3)))) ?_
  refine zp_const (pc := 34) hx hb (zd_X12_runOne (34, .bipush 8, 2, 0, []) (List.mem_of_getElem? (i := 21) rfl)) rfl rfl ?_
  refine zp_ialdT (j := 8) (v := ((zp_n u.2.1) b3 (2000 + 8))) (pc := 36) hx hb hw (zd_X12_runOne (36, .iaload, 1, 0, []) (List.mem_of_getElem? (i := 22) rfl)) zl_T59 rfl (zl_kd 8) hqt3 rfl (show 8 < 5580 by decide) ((zp_set_ne (Or.inl (zp_pne hqt3 hqt36 (by decide)))).trans ((zp_set_ne (Or.inl (zp_pne hqt3 hqt36 (by decide)))).trans ((zp_nc hfrt hq3 rfl (2000 + 8))))) (fun _ => ?_)
  refine zp_i2l (pc := 37) hx hb (zd_X12_runOne (37, .i2l, 1, 0, []) (List.mem_of_getElem? (i := 23) rfl)) ?_
  refine zp_last (j := 3) (pc := 38) hx hb hw heff (zd_X12_runOne (38, .lastore, 1, 0, []) (List.mem_of_getElem? (i := 24) rfl)) (show zp_ia 2 76 = some (13, 1, 0, (-9223372036854775808), 9223372036854775807) from rfl) hqt36 (by omega) (by omega) rfl ?_
  refine zp_load (pc := 39) hx hb (zd_X12_runOne (39, .aload_n 0, 1, 0, []) (List.mem_of_getElem? (i := 25) rfl)) rfl (j := 0) rfl ?_
  refine zp_getf (n := (b36 : Int)) (pc := 40) hx hb hE hw (zd_X12_runOne (40, .getfield 104, 3, 0, []) (List.mem_of_getElem? (i := 26) rfl)) (j := 54) rfl rfl rfl rut.1 ((zp_set_ne (Or.inl (zp_pne rut.1 hqt36 (by decide)))).trans ((zp_set_ne (Or.inl (zp_pne rut.1 hqt36 (by decide)))).trans ((zp_set_ne (Or.inl (zp_pne rut.1 hqt36 (by decide)))).trans (((zp_nf hfrt r0 rfl).trans hb36))))) ?_
  refine zp_const (pc := 43) hx hb (zd_X12_runOne (43, .iconst 4, 1, 0, []) (List.mem_of_getElem? (i := 27) rfl)) rfl rfl ?_
  refine zp_load (pc := 44) hx hb (zd_X12_runOne (44, .aload_n 0, 1, 0, []) (List.mem_of_getElem? (i := 28) rfl)) rfl (j := 0) rfl ?_
  refine zp_getf (n := dn) (pc := 45) hx hb hE hw (zd_X12_runOne (45, .getfield 540, 3, 0, []) (List.mem_of_getElem? (i := 29) rfl)) (j := 75) rfl rfl rfl rut.1 ((zp_set_ne (Or.inl (zp_pne rut.1 hqt36 (by decide)))).trans ((zp_set_ne (Or.inl (zp_pne rut.1 hqt36 (by decide)))).trans ((zp_set_ne (Or.inl (zp_pne rut.1 hqt36 (by decide)))).trans (((zp_nf hfrt r0 rfl).trans e57))))) ?_
  refine zp_i2l (pc := 48) hx hb (zd_X12_runOne (48, .i2l, 1, 0, []) (List.mem_of_getElem? (i := 30) rfl)) ?_
  refine zp_last (j := 4) (pc := 49) hx hb hw heff (zd_X12_runOne (49, .lastore, 1, 0, []) (List.mem_of_getElem? (i := 31) rfl)) (show zp_ia 2 76 = some (13, 1, 0, (-9223372036854775808), 9223372036854775807) from rfl) hqt36 (by omega) (by omega) rfl ?_
  refine zp_load (pc := 50) hx hb (zd_X12_runOne (50, .aload_n 0, 1, 0, []) (List.mem_of_getElem? (i := 32) rfl)) rfl (j := 0) rfl ?_
  refine zp_getf (n := (b36 : Int)) (pc := 51) hx hb hE hw (zd_X12_runOne (51, .getfield 104, 3, 0, []) (List.mem_of_getElem? (i := 33) rfl)) (j := 54) rfl rfl rfl rut.1 ((zp_set_ne (Or.inl (zp_pne rut.1 hqt36 (by decide)))).trans ((zp_set_ne (Or.inl (zp_pne rut.1 hqt36 (by decide)))).trans ((zp_set_ne (Or.inl (zp_pne rut.1 hqt36 (by decide)))).trans ((zp_set_ne (Or.inl (zp_pne rut.1 hqt36 (by decide)))).trans (((zp_nf hfrt r0 rfl).trans hb36)))))) ?_
  refine zp_const (pc := 54) hx hb (zd_X12_runOne (54, .iconst 5, 1, 0, []) (List.mem_of_getElem? (i := 34) rfl)) rfl rfl ?_
  refine zp_load (pc := 55) hx hb (zd_X12_runOne (55, .aload_n 0, 1, 0, []) (List.mem_of_getElem? (i := 35) rfl)) rfl (j := 0) rfl ?_
  refine zp_getf (n := ((zp_n u.2.1) a 58)) (pc := 56) hx hb hE hw (zd_X12_runOne (56, .getfield 543, 3, 0, []) (List.mem_of_getElem? (i := 36) rfl)) (j := 76) rfl rfl rfl rut.1 ((zp_set_ne (Or.inl (zp_pne rut.1 hqt36 (by decide)))).trans ((zp_set_ne (Or.inl (zp_pne rut.1 hqt36 (by decide)))).trans ((zp_set_ne (Or.inl (zp_pne rut.1 hqt36 (by decide)))).trans ((zp_set_ne (Or.inl (zp_pne rut.1 hqt36 (by decide)))).trans ((zp_nf hfrt r0 rfl)))))) ?_
  refine zp_i2l (pc := 59) hx hb (zd_X12_runOne (59, .i2l, 1, 0, []) (List.mem_of_getElem? (i := 37) rfl)) ?_
  refine zp_last (j := 5) (pc := 60) hx hb hw heff (zd_X12_runOne (60, .lastore, 1, 0, []) (List.mem_of_getElem? (i := 38) rfl)) (show zp_ia 2 76 = some (13, 1, 0, (-9223372036854775808), 9223372036854775807) from rfl) hqt36 (by omega) (by omega) rfl ?_
  refine zp_load (pc := 61) hx hb (zd_X12_runOne (61, .aload_n 0, 1, 0, []) (List.mem_of_getElem? (i := 39) rfl)) rfl (j := 0) rfl ?_
  refine zp_const (pc := 62) hx hb (zd_X12_runOne (62, .iconst 0, 1, 0, []) (List.mem_of_getElem? (i := 40) rfl)) rfl rfl ?_
  refine zp_putf (pc := 63) hx hb hE hw heff (zd_X12_runOne (63, .putfield 537, 3, 0, []) (List.mem_of_getElem? (i := 41) rfl)) (j := 78) rfl rfl rfl rut.1 (zp_o0 (by decide) (by decide) (by decide) (by decide)) ?_
  exact h66 _ _ (zo_ru_set (k := 60) (zo_ru_set (k := 2000 + 5) (zo_ru_set (k := 2000 + 4) (zo_ru_set (k := 2000 + 3) (zo_ru_set (k := 2000 + 2) (zo_ru_set (k := 2000 + 1) rut hqt36 rfl) hqt36 rfl) hqt36 rfl) hqt36 rfl) hqt36 rfl) rut.1 rfl)
