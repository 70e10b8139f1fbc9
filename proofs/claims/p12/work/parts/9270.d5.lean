/-! part d5: the class's reader: a law's clause, the text -/
theorem zU_nc {P : Nat → Option Nat} {x : Nat} {G G0 G' : Nat → Nat → Int} {bb : Nat → Nat} {cl : Nat} {E : List (Nat × Nat × Nat)} {ps : List Int} (h : zU P x G0 bb cl) (hfr : zp_fr E ps P G G') (i : Nat) (hi : i < 5) (he : zp_ncb E (30 + i) = true) (j : Nat) : G' (bb i) j = G (bb i) j := zp_nc hfr (h.2.2 i hi).2 he j
theorem zT_2 {P : Nat → Option Nat} {a t x b c : Nat} {G : Nat → Nat → Int} {B : Nat → Int} {ln tk nl sz : Nat} {C : Nat → Int} {ord : Bool} {v : Int} (h : zT P a t x b c G B ln tk nl C sz ord) : zT P a t x b c (zp_set G a 2 v) B ln tk nl C sz ord := by
  obtain ⟨⟨⟨pa, pt, px, pb, pc⟩, g1, g2, g3⟩, ⟨⟨t1, t2, t3, t4⟩, t5, t6⟩, ⟨r1, r2, r3⟩, x1, x2, x3⟩ := h
  have nt : t ≠ a := zp_pne pt pa (by decide)
  have nx : x ≠ a := zp_pne px pa (by decide)
  have nb : b ≠ a := zp_pne pb pa (by decide)
  have nc : c ≠ a := zp_pne pc pa (by decide)
  exact ⟨⟨⟨pa, pt, px, pb, pc⟩, (zp_set_ne (Or.inr (by decide))).trans g1, (zp_set_ne (Or.inr (by decide))).trans g2, (zp_set_ne (Or.inl nx)).trans g3⟩, ⟨⟨(zp_set_ne (Or.inl nt)).trans t1, (zp_set_ne (Or.inl nt)).trans t2, t3, fun j => (zp_set_ne (Or.inl nb)).trans (t4 j)⟩, t5, zy_tc_s t6 nt⟩, ⟨(zp_set_ne (Or.inr (by decide))).trans r1, (zp_set_ne (Or.inr (by decide))).trans r2, r3⟩, (zp_set_ne (Or.inl nx)).trans x1, x2, fun j => (zp_set_ne (Or.inl nc)).trans (x3 j)⟩
theorem zU_2 {P : Nat → Option Nat} {a x : Nat} {G : Nat → Nat → Int} {bb : Nat → Nat} {cl : Nat} {v : Int} (h : zU P x G bb cl) (px : P x = some 8) (pa : P a = some 5) : zU P x (zp_set G a 2 v) bb cl := by
  have nx : x ≠ a := zp_pne px pa (by decide)
  exact ⟨(zp_set_ne (Or.inl nx)).trans h.1, h.2.1, fun i hi => ⟨(zp_set_ne (Or.inl nx)).trans (h.2.2 i hi).1, (h.2.2 i hi).2⟩⟩
theorem yt_hl_r (so : Nat → Nat) (wo : Nat → Int) (p : Nat) : yt_hl so wo p = -1 ∨ (0 ≤ yt_hl so wo p ∧ yt_hl so wo p ≤ 4 ∧ so p = 1) := by
  rw [yt_hl_eq]
  by_cases h : so p = 1
  · rw [if_pos h]
    have := ych_r ywh 0 (wo p)
    have e : (ywh.length : Int) = 5 := rfl
    rcases this with z | z
    · exact Or.inl z
    · exact Or.inr ⟨by omega, by omega, h⟩
  · rw [if_neg h]
    exact Or.inl rfl
def zφ_lcl (t x b cd : Nat) (B : Nat → Int) (ln tk nl : Nat) (C : Nat → Int) (sz uu : Nat) (ord : Bool) (bb : Nat → Nat) (cl : Nat) : (Nat → Option Nat) → (Nat → Nat → Int) → List Int → Prop := fun P G ps => zT P (zp_0 ps) t x b cd G B ln tk nl C sz ord ∧ zU P x G bb cl ∧ sz + (uu + 4) ≤ 2 * zy_fr B ln tk + 72 ∧ cl < 12
def zψ_lcl (t x b cd : Nat) (B : Nat → Int) (ln tk nl : Nat) (C : Nat → Int) (sz uu : Nat) (ord : Bool) (bb : Nat → Nat) (cl : Nat) : (Nat → Option Nat) → (Nat → Nat → Int) → List Int → (Nat → Option Nat) → (Nat → Nat → Int) → Int → Prop := fun P G ps P' G' rn => P' = P ∧ ∃ s, yt_cl (zy_so B ln) (zy_wo B ln) (zy_to B ln) (ylf ord B ln) tk nl s ∧ ((∃ q, s = Sum.inl q ∧ rn = 0 ∧ ∃ (nl' : Nat) (C' : Nat → Int) (sz' : Nat), zT P (zp_0 ps) t x b cd G' B ln q nl' C' sz' ord) ∨ ∃ (p2 n2 : Nat) (K : yK) (C' : Nat → Int) (sz' : Nat), s = Sum.inr (p2, n2, K) ∧ rn = 1 ∧ zT P (zp_0 ps) t x b cd G' B ln p2 n2 C' sz' ord ∧ zU P x G' bb (cl + 1) ∧ sz' + uu ≤ 2 * zy_fr B ln p2 + 72 ∧ zy_fr B ln tk + 1 ≤ zy_fr B ln p2 ∧ sz ≤ sz' ∧ (∀ j, j < sz → C' j = C j) ∧ (∀ i j : Nat, i < 5 → j ≠ cl → G' (bb i) (2000 + j) = G (bb i) (2000 + j)) ∧ zXc (fun i j => G' (bb i) (2000 + j)) C' sz' ord cl K)
def zK_lcl : zk_K := (zt_mn 77, prog_7_method_3_code, 2, (Option.some Jvm.ClassFile.FieldType.boolean), 1, 5, [(2, 5, 0, 0)], [(some (0, 0, 0, 1), [])], [(5, 4, 0), (7, 3, 0), (7, 5, 0), (7, 2, 0), (7, 4, 0), (35, 1001, 0), (8, 7, 0), (30, 1001, 0), (31, 1001, 0), (32, 1001, 0), (33, 1001, 0), (34, 1001, 0), (8, 6, 0)], (49, 1126, 0, 0))
theorem zX_lcl {l : Launch} {w : zk_W} (hW : zh_W w) (t x b cd : Nat) (B : Nat → Int) (ln tk nl : Nat) (C : Nat → Int) (sz uu : Nat) (ord : Bool) (bb : Nat → Nat) (cl : Nat) : zk_metX l w zt_dv zt_TB zK_lcl (zp_A (zφ_lcl t x b cd B ln tk nl C sz uu ord bb cl)) (zp_B (zψ_lcl t x b cd B ln tk nl C sz uu ord bb cl)) ∧ zk_cok w zt_TB zK_lcl := by
  sorry
def zφ_rdl (t x b cd : Nat) (B : Nat → Int) (ln : Nat) (bb : Nat → Nat) : (Nat → Option Nat) → (Nat → Nat → Int) → List Int → Prop := fun P G ps => zTa P (zp_0 ps) t x b cd G ∧ ((G t 0 = (b : Int) ∧ G t 1 = (ln : Int) ∧ ln ≤ 400 ∧ ∀ j, G b (2000 + j) = B j) ∧ ∀ j, j < ln → 0 ≤ B j ∧ B j ≤ 255) ∧ (∀ i : Nat, i < 5 → G x i = (bb i : Int) ∧ P (bb i) = some (30 + i)) ∧ ps.getD 1 0 = 0
def zψ_rdl (t x b cd : Nat) (B : Nat → Int) (ln : Nat) (bb : Nat → Nat) : (Nat → Option Nat) → (Nat → Nat → Int) → List Int → (Nat → Option Nat) → (Nat → Nat → Int) → Int → Prop := fun P G ps P' G' rn => P' = P ∧ ∃ s, yT (zy_so B ln) (zy_wo B ln) (zy_to B ln) (yt_cl (zy_so B ln) (zy_wo B ln) (zy_to B ln) (ylf false B ln)) 12 0 0 s ∧ ((∃ q, s = Sum.inl q ∧ rn = 0 ∧ G' (zp_0 ps) 2 = (zy_fr B ln q : Int)) ∨ ∃ (M : List yK) (C' : Nat → Int) (sz' : Nat), s = Sum.inr M ∧ rn = 1 ∧ G' (zp_0 ps) 2 = -1 ∧ G' x 6 = (M.length : Int) ∧ M.length ≤ 12 ∧ G' x 7 = (sz' : Int) ∧ sz' ≤ 872 ∧ (∀ j, G' cd (2000 + j) = C' j) ∧ zXs (fun i j => G' (bb i) (2000 + j)) C' sz' false 0 M)
def zK_rdl : zk_K := (zt_mn 40, prog_7_method_2_code, 4, (Option.some Jvm.ClassFile.FieldType.boolean), 1, 5, [(2, 5, 0, 0), (0, 0, 0, 1)], [(some (0, 0, 0, 1), [])], [(5, 4, 0), (7, 3, 0), (7, 5, 0), (7, 2, 0), (7, 4, 0), (35, 1001, 0), (8, 7, 0), (30, 1001, 0), (31, 1001, 0), (32, 1001, 0), (33, 1001, 0), (34, 1001, 0), (8, 6, 0), (5, 2, 0), (5, 3, 0)], (50, 1147, 0, 0))
theorem zX_rdl {l : Launch} {w : zk_W} (hW : zh_W w) (t x b cd : Nat) (B : Nat → Int) (ln : Nat) (bb : Nat → Nat) : zk_metX l w zt_dv zt_TB zK_rdl (zp_A (zφ_rdl t x b cd B ln bb)) (zp_B (zψ_rdl t x b cd B ln bb)) ∧ zk_cok w zt_TB zK_rdl := by
  sorry