/-! part d4: the class's reader: clauses, the whole text -/
/-- a piece of code with its end: worth x -/
def zXp (C : Nat → Int) (N : Nat) (w : Bool) (s : Int) (x : yD) : Prop := ∃ (b e k f : Nat), s = (b : Int) ∧ e + 2 ≤ N ∧ k ≤ 50 ∧ yG w C f b e k x ∧ C e = 0
theorem zXp_c {C C' : Nat → Int} {N N' : Nat} {w : Bool} {s : Int} {x : yD} (h : zXp C N w s x) (hN : N ≤ N') (hc : ∀ j, j < N → C' j = C j) : zXp C' N' w s x := by
  obtain ⟨b, e, k, f, h1, h2, h3, h4, h5⟩ := h
  exact ⟨b, e, k, f, h1, by omega, h3, yG_c (fun j j1 j2 => hc j (by omega)) h4, (hc e (by omega)).trans h5⟩
theorem zXp_m {w : Bool} {b e k : Nat} {C0 C : Nat → Int} {v : Int} {x : yD} (h : yH w b C0 C e k x) (hk : k ≤ 50) : zXp (yh C e 0 v) (e + 2) w (b : Int) x := by
  obtain ⟨h1, f, h2⟩ := h
  exact ⟨b, e, k, f, rfl, Nat.le_refl _, hk, yG_c (fun j j1 j2 => yh_ne j2) h2, yh_0⟩
/-- a clause: kinds, sums, seconds, times, tests -/
def zXc (A : Nat → Nat → Int) (C : Nat → Int) (N : Nat) (w : Bool) (c : Nat) (K : yK) : Prop := (A 0 c = K.1 ∧ 0 ≤ K.1 ∧ K.1 ≤ 4) ∧ ((K.2.1 = none ∧ A 1 c = -1) ∨ ∃ x, K.2.1 = some x ∧ zXp C N w (A 1 c) x) ∧ ((K.2.2.1 = none ∧ A 2 c = -1) ∨ ∃ x, K.2.2.1 = some x ∧ zXp C N w (A 2 c) x) ∧ A 3 c = K.2.2.2.1 ∧ ((K.2.2.2.2 = none ∧ A 4 c = -1) ∨ ∃ x, K.2.2.2.2 = some x ∧ zXp C N w (A 4 c) x ∧ yd_T x)
theorem zXc_c {A A' : Nat → Nat → Int} {C C' : Nat → Int} {N N' : Nat} {w : Bool} {c : Nat} {K : yK} (h : zXc A C N w c K) (hA : ∀ i, i < 5 → A' i c = A i c) (hN : N ≤ N') (hc : ∀ j, j < N → C' j = C j) : zXc A' C' N' w c K := by
  sorry
def zXs (A : Nat → Nat → Int) (C : Nat → Int) (N : Nat) (w : Bool) : Nat → List yK → Prop
  | _, [] => True
  | c, K :: r => zXc A C N w c K ∧ zXs A C N w (c + 1) r
theorem zXs_c {A A' : Nat → Nat → Int} {C C' : Nat → Int} {N N' : Nat} {w : Bool} (hN : N ≤ N') (hc : ∀ j, j < N → C' j = C j) : ∀ {L : List yK} {c : Nat}, zXs A C N w c L → (∀ i j, i < 5 → c ≤ j → j < c + L.length → A' i j = A i j) → zXs A' C' N' w c L
  | [], _, _, _ => trivial
  | K :: r, c, h, hA => by
    have e : (K :: r).length = r.length + 1 := rfl
    exact ⟨zXc_c h.1 (fun i hi => hA i c hi (Nat.le_refl _) (by omega)) hN hc, zXs_c hN hc h.2 (fun i j hi j1 j2 => hA i j hi (by omega) (by omega))⟩
theorem zXs_app {A : Nat → Nat → Int} {C : Nat → Int} {N : Nat} {w : Bool} {K : yK} : ∀ {L : List yK} {c : Nat}, zXs A C N w c L → zXc A C N w (c + L.length) K → zXs A C N w c (L ++ [K])
  | [], c, _, h => ⟨h, trivial⟩
  | K' :: r, c, h, hK => by
    have e : (K' :: r).length = r.length + 1 := rfl
    refine ⟨h.1, zXs_app h.2 ?_⟩
    rw [show c + 1 + r.length = c + (K' :: r).length by omega]
    exact hK
/-- the clauses' arrays of the text x -/
def zU (P : Nat → Option Nat) (x : Nat) (G : Nat → Nat → Int) (bb : Nat → Nat) (cl : Nat) : Prop := G x 6 = (cl : Int) ∧ cl ≤ 12 ∧ ∀ i : Nat, i < 5 → G x i = (bb i : Int) ∧ P (bb i) = some (30 + i)
theorem zU_fr {P : Nat → Option Nat} {x : Nat} {G G' : Nat → Nat → Int} {bb : Nat → Nat} {cl cl' : Nat} {E : List (Nat × Nat × Nat)} {ps : List Int} (h : zU P x G bb cl) (px : P x = some 8) (hfr : zp_fr E ps P G G') (he : (zp_nfb E 8 0 && (zp_nfb E 8 1 && (zp_nfb E 8 2 && (zp_nfb E 8 3 && zp_nfb E 8 4)))) = true) (h6 : G' x 6 = (cl' : Int)) (hc : cl' ≤ 12) : zU P x G' bb cl' := by
  simp only [Bool.and_eq_true] at he
  obtain ⟨f0, f1, f2, f3, f4⟩ := he
  refine ⟨h6, hc, fun i hi => ⟨?_, (h.2.2 i hi).2⟩⟩
  have hi5 : i = 0 ∨ i = 1 ∨ i = 2 ∨ i = 3 ∨ i = 4 := by omega
  rcases hi5 with rfl | rfl | rfl | rfl | rfl
  · exact (zp_nf hfr px f0).trans (h.2.2 0 hi).1
  · exact (zp_nf hfr px f1).trans (h.2.2 1 hi).1
  · exact (zp_nf hfr px f2).trans (h.2.2 2 hi).1
  · exact (zp_nf hfr px f3).trans (h.2.2 3 hi).1
  · exact (zp_nf hfr px f4).trans (h.2.2 4 hi).1
def zφ_ws1 (t x b cd : Nat) (B : Nat → Int) (ln tk nl : Nat) (C : Nat → Int) (sz uu : Nat) (ord : Bool) (bb : Nat → Nat) (cl : Nat) : (Nat → Option Nat) → (Nat → Nat → Int) → List Int → Prop := fun P G ps => zT P (zp_0 ps) t x b cd G B ln tk nl C sz ord ∧ zU P x G bb (cl + 1) ∧ sz + (uu + 2) ≤ 2 * zy_fr B ln tk + 72 ∧ ps.getD 1 0 = (bb 1 : Int)
def zψ_ws1 (t x b cd : Nat) (B : Nat → Int) (ln tk nl : Nat) (C : Nat → Int) (sz uu : Nat) (ord : Bool) (bb : Nat → Nat) (cl : Nat) : (Nat → Option Nat) → (Nat → Nat → Int) → List Int → (Nat → Option Nat) → (Nat → Nat → Int) → Int → Prop := fun P G ps P' G' rn => P' = P ∧ ∃ s, yt_su (zy_so B ln) (zy_wo B ln) (zy_to B ln) (ylf ord B ln) tk nl s ∧ ((∃ q, s = Sum.inl q ∧ rn = 0 ∧ ∃ (nl' : Nat) (C' : Nat → Int) (sz' : Nat), zT P (zp_0 ps) t x b cd G' B ln q nl' C' sz' ord) ∨ ∃ (p1 n1 : Nat) (y : yD) (C' : Nat → Int) (sz' : Nat), s = Sum.inr (p1, n1, some y) ∧ rn = 1 ∧ zT P (zp_0 ps) t x b cd G' B ln p1 n1 C' sz' ord ∧ zU P x G' bb (cl + 1) ∧ sz' + uu ≤ 2 * zy_fr B ln p1 + 72 ∧ zy_fr B ln tk + 1 ≤ zy_fr B ln p1 ∧ sz ≤ sz' ∧ (∀ j, j < sz → C' j = C j) ∧ (∀ j, j ≠ cl → G' (bb 1) (2000 + j) = G (bb 1) (2000 + j)) ∧ zXp C' sz' ord (G' (bb 1) (2000 + cl)) y)
def zK_ws1 : zk_K := (zt_mn 59, prog_7_method_7_code, 2, (Option.some Jvm.ClassFile.FieldType.boolean), 1, 5, [(2, 5, 0, 0), (2, 31, 0, 0)], [(some (0, 0, 0, 1), [])], [(5, 4, 0), (7, 3, 0), (7, 5, 0), (7, 2, 0), (7, 4, 0), (35, 1001, 0), (8, 7, 0), (31, 1001, 0)], (37, 885, 0, 0))
theorem zX_ws1 {l : Launch} {w : zk_W} (hW : zh_W w) (t x b cd : Nat) (B : Nat → Int) (ln tk nl : Nat) (C : Nat → Int) (sz uu : Nat) (ord : Bool) (bb : Nat → Nat) (cl : Nat) : zk_metX l w zt_dv zt_TB zK_ws1 (zp_A (zφ_ws1 t x b cd B ln tk nl C sz uu ord bb cl)) (zp_B (zψ_ws1 t x b cd B ln tk nl C sz uu ord bb cl)) ∧ zk_cok w zt_TB zK_ws1 := by
  sorry
def zφ_ws2 (t x b cd : Nat) (B : Nat → Int) (ln tk nl : Nat) (C : Nat → Int) (sz uu : Nat) (ord : Bool) (bb : Nat → Nat) (cl : Nat) : (Nat → Option Nat) → (Nat → Nat → Int) → List Int → Prop := fun P G ps => zT P (zp_0 ps) t x b cd G B ln tk nl C sz ord ∧ zU P x G bb (cl + 1) ∧ sz + (uu + 2) ≤ 2 * zy_fr B ln tk + 72 ∧ ps.getD 1 0 = (bb 2 : Int)
def zψ_ws2 (t x b cd : Nat) (B : Nat → Int) (ln tk nl : Nat) (C : Nat → Int) (sz uu : Nat) (ord : Bool) (bb : Nat → Nat) (cl : Nat) : (Nat → Option Nat) → (Nat → Nat → Int) → List Int → (Nat → Option Nat) → (Nat → Nat → Int) → Int → Prop := fun P G ps P' G' rn => P' = P ∧ ∃ s, yt_su (zy_so B ln) (zy_wo B ln) (zy_to B ln) (ylf ord B ln) tk nl s ∧ ((∃ q, s = Sum.inl q ∧ rn = 0 ∧ ∃ (nl' : Nat) (C' : Nat → Int) (sz' : Nat), zT P (zp_0 ps) t x b cd G' B ln q nl' C' sz' ord) ∨ ∃ (p1 n1 : Nat) (y : yD) (C' : Nat → Int) (sz' : Nat), s = Sum.inr (p1, n1, some y) ∧ rn = 1 ∧ zT P (zp_0 ps) t x b cd G' B ln p1 n1 C' sz' ord ∧ zU P x G' bb (cl + 1) ∧ sz' + uu ≤ 2 * zy_fr B ln p1 + 72 ∧ zy_fr B ln tk + 1 ≤ zy_fr B ln p1 ∧ sz ≤ sz' ∧ (∀ j, j < sz → C' j = C j) ∧ (∀ j, j ≠ cl → G' (bb 2) (2000 + j) = G (bb 2) (2000 + j)) ∧ zXp C' sz' ord (G' (bb 2) (2000 + cl)) y)
def zK_ws2 : zk_K := (zt_mn 59, prog_7_method_7_code, 2, (Option.some Jvm.ClassFile.FieldType.boolean), 1, 5, [(2, 5, 0, 0), (2, 32, 0, 0)], [(some (0, 0, 0, 1), [])], [(5, 4, 0), (7, 3, 0), (7, 5, 0), (7, 2, 0), (7, 4, 0), (35, 1001, 0), (8, 7, 0), (32, 1001, 0)], (37, 885, 0, 0))
theorem zX_ws2 {l : Launch} {w : zk_W} (hW : zh_W w) (t x b cd : Nat) (B : Nat → Int) (ln tk nl : Nat) (C : Nat → Int) (sz uu : Nat) (ord : Bool) (bb : Nat → Nat) (cl : Nat) : zk_metX l w zt_dv zt_TB zK_ws2 (zp_A (zφ_ws2 t x b cd B ln tk nl C sz uu ord bb cl)) (zp_B (zψ_ws2 t x b cd B ln tk nl C sz uu ord bb cl)) ∧ zk_cok w zt_TB zK_ws2 := by
  sorry
def zφ_cnd (t x b cd : Nat) (B : Nat → Int) (ln tk nl : Nat) (C : Nat → Int) (sz uu : Nat) (ord : Bool) (bb : Nat → Nat) (cl : Nat) : (Nat → Option Nat) → (Nat → Nat → Int) → List Int → Prop := fun P G ps => zT P (zp_0 ps) t x b cd G B ln tk nl C sz ord ∧ zU P x G bb (cl + 1) ∧ sz + (uu + 2) ≤ 2 * zy_fr B ln tk + 72
def zψ_cnd (t x b cd : Nat) (B : Nat → Int) (ln tk nl : Nat) (C : Nat → Int) (sz uu : Nat) (ord : Bool) (bb : Nat → Nat) (cl : Nat) : (Nat → Option Nat) → (Nat → Nat → Int) → List Int → (Nat → Option Nat) → (Nat → Nat → Int) → Int → Prop := fun P G ps P' G' rn => P' = P ∧ ∃ s, yt_if (zy_so B ln) (zy_wo B ln) (zy_to B ln) (ylf ord B ln) tk nl s ∧ ((∃ q, s = Sum.inl q ∧ rn = 0 ∧ ∃ (nl' : Nat) (C' : Nat → Int) (sz' : Nat), zT P (zp_0 ps) t x b cd G' B ln q nl' C' sz' ord) ∨ ∃ (p1 n1 : Nat) (oy : Option yD) (C' : Nat → Int) (sz' : Nat), s = Sum.inr (p1, n1, oy) ∧ rn = 1 ∧ zT P (zp_0 ps) t x b cd G' B ln p1 n1 C' sz' ord ∧ zU P x G' bb (cl + 1) ∧ sz' + uu ≤ 2 * zy_fr B ln p1 + 72 ∧ zy_fr B ln tk ≤ zy_fr B ln p1 ∧ sz ≤ sz' ∧ (∀ j, j < sz → C' j = C j) ∧ (∀ j, j ≠ cl → G' (bb 4) (2000 + j) = G (bb 4) (2000 + j)) ∧ ((oy = none ∧ G' (bb 4) (2000 + cl) = G (bb 4) (2000 + cl)) ∨ ∃ y, oy = some y ∧ zXp C' sz' ord (G' (bb 4) (2000 + cl)) y ∧ yd_T y))
def zK_cnd : zk_K := (zt_mn 70, prog_7_method_6_code, 1, (Option.some Jvm.ClassFile.FieldType.boolean), 1, 5, [(2, 5, 0, 0)], [(some (0, 0, 0, 1), [])], [(5, 4, 0), (7, 3, 0), (7, 5, 0), (7, 2, 0), (7, 4, 0), (35, 1001, 0), (8, 7, 0), (34, 1001, 0)], (48, 1106, 0, 0))
theorem zX_cnd {l : Launch} {w : zk_W} (hW : zh_W w) (t x b cd : Nat) (B : Nat → Int) (ln tk nl : Nat) (C : Nat → Int) (sz uu : Nat) (ord : Bool) (bb : Nat → Nat) (cl : Nat) : zk_metX l w zt_dv zt_TB zK_cnd (zp_A (zφ_cnd t x b cd B ln tk nl C sz uu ord bb cl)) (zp_B (zψ_cnd t x b cd B ln tk nl C sz uu ord bb cl)) ∧ zk_cok w zt_TB zK_cnd := by
  sorry