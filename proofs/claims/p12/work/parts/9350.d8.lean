/-! part d8: the class's reader: a clause of orders, the text -/
theorem yt_ho_eq {so : Nat → Nat} {wo : Nat → Int} {p : Nat} : yt_ho so wo p = if so p = 1 then ych [763332, 11449, 19118, 431556] 0 (wo p) else -1 := by
  unfold yt_ho
  by_cases h1 : so p = 1
  · have e : ∀ c, (yr_w so wo c p = true) = (wo p = c) := fun c => propext ⟨fun z => (yr_w_i.mp z).2, fun z => yr_w_i.mpr ⟨h1, z⟩⟩
    rw [if_pos h1]
    simp only [e]
    rfl
  · have e : ∀ c, ¬ (yr_w so wo c p = true) := fun c z => h1 (yr_w_i.mp z).1
    rw [if_neg h1, if_neg (e _), if_neg (e _), if_neg (e _), if_neg (e _)]
theorem yt_ho_r (so : Nat → Nat) (wo : Nat → Int) (p : Nat) : yt_ho so wo p = -1 ∨ (0 ≤ yt_ho so wo p ∧ yt_ho so wo p ≤ 3 ∧ so p = 1) := by
  rw [yt_ho_eq]
  by_cases h : so p = 1
  · rw [if_pos h]
    have := ych_r [763332, 11449, 19118, 431556] 0 (wo p)
    have e : (([763332, 11449, 19118, 431556] : List Int).length : Int) = 4 := rfl
    rcases this with z | z
    · exact Or.inl z
    · exact Or.inr ⟨by omega, by omega, h⟩
  · rw [if_neg h]
    exact Or.inl rfl
theorem yt_nu_i {so : Nat → Nat} {wo : Nat → Int} {lo hi : Int} {p : Nat} : yt_nu so wo lo hi p = true ↔ so p = 2 ∧ lo ≤ wo p ∧ wo p ≤ hi := by
  unfold yt_nu
  rw [Bool.and_eq_true, Bool.and_eq_true, decide_eq_true_eq, decide_eq_true_eq, decide_eq_true_eq]
def zφ_rep (t x b cd : Nat) (B : Nat → Int) (ln tk nl : Nat) (C : Nat → Int) (sz uu : Nat) (ord : Bool) (bb : Nat → Nat) (cl : Nat) : (Nat → Option Nat) → (Nat → Nat → Int) → List Int → Prop := fun P G ps => zT P (zp_0 ps) t x b cd G B ln tk nl C sz ord ∧ zU P x G bb (cl + 1) ∧ cl < 12 ∧ G (bb 3) (2000 + cl) = 1
def zψ_rep (t x b cd : Nat) (B : Nat → Int) (ln tk nl : Nat) (C : Nat → Int) (sz uu : Nat) (ord : Bool) (bb : Nat → Nat) (cl : Nat) : (Nat → Option Nat) → (Nat → Nat → Int) → List Int → (Nat → Option Nat) → (Nat → Nat → Int) → Int → Prop := fun P G ps P' G' rn => P' = P ∧ ∃ s, yt_ti (zy_so B ln) (zy_wo B ln) (zy_to B ln) tk s ∧ ((∃ q, s = Sum.inl q ∧ rn = 0 ∧ ∃ (nl' : Nat) (C' : Nat → Int) (sz' : Nat), zT P (zp_0 ps) t x b cd G' B ln q nl' C' sz' ord) ∨ ∃ (p1 : Nat) (m9 : Int), s = Sum.inr (p1, m9) ∧ rn = 1 ∧ zT P (zp_0 ps) t x b cd G' B ln p1 nl C sz ord ∧ zU P x G' bb (cl + 1) ∧ zy_fr B ln tk ≤ zy_fr B ln p1 ∧ (∀ j, j ≠ cl → G' (bb 3) (2000 + j) = G (bb 3) (2000 + j)) ∧ G' (bb 3) (2000 + cl) = m9)
def zK_rep : zk_K := (zt_mn 69, prog_7_method_5_code, 2, (Option.some Jvm.ClassFile.FieldType.boolean), 1, 5, [(2, 5, 0, 0)], [(some (0, 0, 0, 1), [])], [(7, 3, 0), (7, 5, 0), (7, 2, 0), (7, 4, 0), (33, 1001, 0)], (11, 267, 0, 0))
theorem zX_rep {l : Launch} {w : zk_W} (hW : zh_W w) (t x b cd : Nat) (B : Nat → Int) (ln tk nl : Nat) (C : Nat → Int) (sz uu : Nat) (ord : Bool) (bb : Nat → Nat) (cl : Nat) : zk_metX l w zt_dv zt_TB zK_rep (zp_A (zφ_rep t x b cd B ln tk nl C sz uu ord bb cl)) (zp_B (zψ_rep t x b cd B ln tk nl C sz uu ord bb cl)) ∧ zk_cok w zt_TB zK_rep := by
  sorry
def zφ_ocl (t x b cd : Nat) (B : Nat → Int) (ln tk nl : Nat) (C : Nat → Int) (sz uu : Nat) (ord : Bool) (bb : Nat → Nat) (cl : Nat) : (Nat → Option Nat) → (Nat → Nat → Int) → List Int → Prop := fun P G ps => zT P (zp_0 ps) t x b cd G B ln tk nl C sz ord ∧ zU P x G bb cl ∧ sz + (uu + 6) ≤ 2 * zy_fr B ln tk + 72 ∧ cl < 12
def zψ_ocl (t x b cd : Nat) (B : Nat → Int) (ln tk nl : Nat) (C : Nat → Int) (sz uu : Nat) (ord : Bool) (bb : Nat → Nat) (cl : Nat) : (Nat → Option Nat) → (Nat → Nat → Int) → List Int → (Nat → Option Nat) → (Nat → Nat → Int) → Int → Prop := fun P G ps P' G' rn => P' = P ∧ ∃ s, yt_co (zy_so B ln) (zy_wo B ln) (zy_to B ln) (ylf ord B ln) tk nl s ∧ ((∃ q, s = Sum.inl q ∧ rn = 0 ∧ ∃ (nl' : Nat) (C' : Nat → Int) (sz' : Nat), zT P (zp_0 ps) t x b cd G' B ln q nl' C' sz' ord) ∨ ∃ (p2 n2 : Nat) (K : yK) (C' : Nat → Int) (sz' : Nat), s = Sum.inr (p2, n2, K) ∧ rn = 1 ∧ zT P (zp_0 ps) t x b cd G' B ln p2 n2 C' sz' ord ∧ zU P x G' bb (cl + 1) ∧ sz' + uu ≤ 2 * zy_fr B ln p2 + 72 ∧ zy_fr B ln tk + 1 ≤ zy_fr B ln p2 ∧ sz ≤ sz' ∧ (∀ j, j < sz → C' j = C j) ∧ (∀ i j : Nat, i < 5 → j ≠ cl → G' (bb i) (2000 + j) = G (bb i) (2000 + j)) ∧ zXc (fun i j => G' (bb i) (2000 + j)) C' sz' ord cl K)
def zK_ocl : zk_K := (zt_mn 45, prog_7_method_4_code, 2, (Option.some Jvm.ClassFile.FieldType.boolean), 1, 5, [(2, 5, 0, 0)], [(some (0, 0, 0, 1), [])], [(5, 4, 0), (7, 3, 0), (7, 5, 0), (7, 2, 0), (7, 4, 0), (35, 1001, 0), (8, 7, 0), (30, 1001, 0), (31, 1001, 0), (32, 1001, 0), (33, 1001, 0), (34, 1001, 0), (8, 6, 0)], (49, 1126, 0, 0))
theorem zX_ocl {l : Launch} {w : zk_W} (hW : zh_W w) (t x b cd : Nat) (B : Nat → Int) (ln tk nl : Nat) (C : Nat → Int) (sz uu : Nat) (ord : Bool) (bb : Nat → Nat) (cl : Nat) : zk_metX l w zt_dv zt_TB zK_ocl (zp_A (zφ_ocl t x b cd B ln tk nl C sz uu ord bb cl)) (zp_B (zψ_ocl t x b cd B ln tk nl C sz uu ord bb cl)) ∧ zk_cok w zt_TB zK_ocl := by
  sorry
def zφ_rdo (t x b cd : Nat) (B : Nat → Int) (ln : Nat) (bb : Nat → Nat) : (Nat → Option Nat) → (Nat → Nat → Int) → List Int → Prop := fun P G ps => zTa P (zp_0 ps) t x b cd G ∧ ((G t 0 = (b : Int) ∧ G t 1 = (ln : Int) ∧ ln ≤ 400 ∧ ∀ j, G b (2000 + j) = B j) ∧ ∀ j, j < ln → 0 ≤ B j ∧ B j ≤ 255) ∧ (∀ i : Nat, i < 5 → G x i = (bb i : Int) ∧ P (bb i) = some (30 + i)) ∧ ps.getD 1 0 = 1
def zψ_rdo (t x b cd : Nat) (B : Nat → Int) (ln : Nat) (bb : Nat → Nat) : (Nat → Option Nat) → (Nat → Nat → Int) → List Int → (Nat → Option Nat) → (Nat → Nat → Int) → Int → Prop := fun P G ps P' G' rn => P' = P ∧ ∃ s, yT (zy_so B ln) (zy_wo B ln) (zy_to B ln) (yt_co (zy_so B ln) (zy_wo B ln) (zy_to B ln) (ylf true B ln)) 12 0 0 s ∧ ((∃ q, s = Sum.inl q ∧ rn = 0 ∧ G' (zp_0 ps) 2 = (zy_fr B ln q : Int)) ∨ ∃ (M : List yK) (C' : Nat → Int) (sz' : Nat), s = Sum.inr M ∧ rn = 1 ∧ G' (zp_0 ps) 2 = -1 ∧ G' x 6 = (M.length : Int) ∧ M.length ≤ 12 ∧ G' x 7 = (sz' : Int) ∧ sz' ≤ 872 ∧ (∀ j, G' cd (2000 + j) = C' j) ∧ zXs (fun i j => G' (bb i) (2000 + j)) C' sz' true 0 M)
def zK_rdo : zk_K := (zt_mn 40, prog_7_method_2_code, 4, (Option.some Jvm.ClassFile.FieldType.boolean), 1, 5, [(2, 5, 0, 0), (0, 0, 0, 1)], [(some (0, 0, 0, 1), [])], [(5, 4, 0), (7, 3, 0), (7, 5, 0), (7, 2, 0), (7, 4, 0), (35, 1001, 0), (8, 7, 0), (30, 1001, 0), (31, 1001, 0), (32, 1001, 0), (33, 1001, 0), (34, 1001, 0), (8, 6, 0), (5, 2, 0), (5, 3, 0)], (50, 1147, 0, 0))
theorem zX_rdo {l : Launch} {w : zk_W} (hW : zh_W w) (t x b cd : Nat) (B : Nat → Int) (ln : Nat) (bb : Nat → Nat) : zk_metX l w zt_dv zt_TB zK_rdo (zp_A (zφ_rdo t x b cd B ln bb)) (zp_B (zψ_rdo t x b cd B ln bb)) ∧ zk_cok w zt_TB zK_rdo := by
  sorry