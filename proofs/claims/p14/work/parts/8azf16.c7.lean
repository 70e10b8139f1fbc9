/-! part c7: clauses of a text in memory (pure) -/
theorem zk_ops_c {d d' : Nat → Nat} {last last' q : Nat} {op arg : Int} (h : zk_ops d last q op arg) (hl : last ≤ last') (h0 : d' q = d q) (h1 : d' (q + 1) = d (q + 1)) (ha : ∀ j, q < j → j ≤ last → d' j = d j) : zk_ops d' last' q op arg := by
  obtain ⟨g0, g⟩ := h
  refine ⟨g0, ?_⟩
  rw [h0, h1]
  rcases g with g | g | g | ⟨g1, g2, g3, g4, g5, g6⟩
  · exact Or.inl g
  · exact Or.inr (Or.inl g)
  · exact Or.inr (Or.inr (Or.inl g))
  · exact Or.inr (Or.inr (Or.inr ⟨g1, g2, g3, g4, by omega, by rw [ha _ (by omega) (by omega)]; exact g6⟩))
/-- code that is worth something can be gone through with a stack -/
theorem yE_cr {op ar : Nat → Int} : ∀ {f b e k : Nat} {x : yD}, yE op ar f b e k x → ∀ D : Nat, ∃ d : Nat → Nat, d b = D ∧ d e = D + 1 ∧ ∀ q, b ≤ q → q < e → zk_ops d e q (op q) (ar q)
  | 0, b, e, k, x, h, _ => h.elim
  | f + 1, b, e, k, x, h, D => by
    rcases h with ⟨h1, h2, h3, h4, h5⟩ | ⟨m, e1, k1, k2, y, z, h1, h2, h3, h4, h5, h6, h7⟩ | ⟨e1, y, h1, h2, h3, h4, h5⟩ | ⟨m, k1, k2, y, z, h1, h2, h3, h4, h5, h6, h7⟩ | ⟨m, k1, k2, y, z, h1, h2, h3, h4, h5, h6, h7⟩
    · subst h1
      refine ⟨fun q => if q ≤ b then D else D + 1, if_pos (Nat.le_refl b), if_neg (by omega), fun q q1 q2 => ?_⟩
      obtain rfl : q = b := by omega
      refine ⟨h3, Or.inl ⟨by omega, h4, ?_⟩⟩
      show (if q + 1 ≤ q then D else D + 1) = (if q ≤ q then D else D + 1) + 1
      rw [if_neg (by omega), if_pos (Nat.le_refl q)]
    · subst h1
      have l1 := yE_lt h2
      have l2 := yE_lt h3
      obtain ⟨d1, a1, a2, a3⟩ := yE_cr h2 D
      obtain ⟨d2, b1, b2, b3⟩ := yE_cr h3 (D + 1)
      have e1' : ∀ q, q ≤ m → (fun q => if q ≤ m then d1 q else if q ≤ e1 then d2 q else D + 1) q = d1 q := fun q hq => if_pos hq
      have e2' : ∀ q, m ≤ q → q ≤ e1 → (fun q => if q ≤ m then d1 q else if q ≤ e1 then d2 q else D + 1) q = d2 q := fun q hq hq2 => by
        by_cases hm : q = m
        · subst hm
          exact (if_pos (Nat.le_refl q)).trans (a2.trans b1.symm)
        · exact (if_neg (by omega)).trans (if_pos hq2)
      have e3' : (fun q => if q ≤ m then d1 q else if q ≤ e1 then d2 q else D + 1) (e1 + 1) = D + 1 := (if_neg (by omega)).trans (if_neg (by omega))
      refine ⟨fun q => if q ≤ m then d1 q else if q ≤ e1 then d2 q else D + 1, (e1' b (by omega)).trans a1, e3', fun q q1 q2 => ?_⟩
      by_cases hqm : q < m
      · exact zk_ops_c (a3 q q1 hqm) (by omega) (e1' q (by omega)) (e1' (q + 1) (by omega)) (fun j j1 j2 => e1' j (by omega))
      · by_cases hqe : q < e1
        · exact zk_ops_c (b3 q (by omega) hqe) (by omega) (e2' q (by omega) (by omega)) (e2' (q + 1) (by omega) (by omega)) (fun j j1 j2 => e2' j (by omega) (by omega))
        · obtain rfl : q = e1 := by omega
          refine ⟨by omega, Or.inr (Or.inl ⟨h4, by omega, ?_, ?_⟩)⟩
          · rw [e2' q (by omega) (Nat.le_refl q), b2]
            omega
          · rw [e2' q (by omega) (Nat.le_refl q), b2, e3']
    · subst h1
      have l1 := yE_lt h2
      obtain ⟨d1, a1, a2, a3⟩ := yE_cr h2 D
      have e1' : ∀ q, q ≤ e1 → (fun q => if q ≤ e1 then d1 q else D + 1) q = d1 q := fun q hq => if_pos hq
      have e3' : (fun q => if q ≤ e1 then d1 q else D + 1) (e1 + 1) = D + 1 := if_neg (by omega)
      refine ⟨fun q => if q ≤ e1 then d1 q else D + 1, (e1' b (by omega)).trans a1, e3', fun q q1 q2 => ?_⟩
      by_cases hqe : q < e1
      · exact zk_ops_c (a3 q q1 hqe) (by omega) (e1' q (by omega)) (e1' (q + 1) (by omega)) (fun j j1 j2 => e1' j (by omega))
      · obtain rfl : q = e1 := by omega
        refine ⟨by omega, Or.inr (Or.inr (Or.inl ⟨h3, ?_, ?_⟩))⟩
        · rw [e1' q (Nat.le_refl q), a2]
          omega
        · rw [e1' q (Nat.le_refl q), a2, e3']
    · have l1 := yE_lt h1
      have l2 := yE_lt h4
      obtain ⟨d1, a1, a2, a3⟩ := yE_cr h1 D
      obtain ⟨d2, b1, b2, b3⟩ := yE_cr h4 D
      have e1' : ∀ q, q ≤ m → (fun q => if q ≤ m then d1 q else d2 q) q = d1 q := fun q hq => if_pos hq
      have e2' : ∀ q, m + 1 ≤ q → (fun q => if q ≤ m then d1 q else d2 q) q = d2 q := fun q hq => if_neg (by omega)
      refine ⟨fun q => if q ≤ m then d1 q else d2 q, (e1' b (by omega)).trans a1, (e2' e (by omega)).trans b2, fun q q1 q2 => ?_⟩
      by_cases hqm : q < m
      · exact zk_ops_c (a3 q q1 hqm) (by omega) (e1' q (by omega)) (e1' (q + 1) (by omega)) (fun j j1 j2 => e1' j (by omega))
      · by_cases hqe : q = m
        · subst hqe
          refine ⟨by omega, Or.inr (Or.inr (Or.inr ⟨by omega, ?_, ?_, by omega, by omega, ?_⟩))⟩
          · rw [e1' q (Nat.le_refl q), a2]
            omega
          · rw [e1' q (Nat.le_refl q), a2, e2' (q + 1) (Nat.le_refl _), b1]
          · rw [h3, Int.toNat_natCast, e2' e (by omega), b2, e1' q (Nat.le_refl q), a2]
        · exact zk_ops_c (b3 q (by omega) q2) (Nat.le_refl _) (e2' q (by omega)) (e2' (q + 1) (by omega)) (fun j j1 j2 => e2' j (by omega))
    · have l1 := yE_lt h1
      have l2 := yE_lt h4
      obtain ⟨d1, a1, a2, a3⟩ := yE_cr h1 D
      obtain ⟨d2, b1, b2, b3⟩ := yE_cr h4 D
      have e1' : ∀ q, q ≤ m → (fun q => if q ≤ m then d1 q else d2 q) q = d1 q := fun q hq => if_pos hq
      have e2' : ∀ q, m + 1 ≤ q → (fun q => if q ≤ m then d1 q else d2 q) q = d2 q := fun q hq => if_neg (by omega)
      refine ⟨fun q => if q ≤ m then d1 q else d2 q, (e1' b (by omega)).trans a1, (e2' e (by omega)).trans b2, fun q q1 q2 => ?_⟩
      by_cases hqm : q < m
      · exact zk_ops_c (a3 q q1 hqm) (by omega) (e1' q (by omega)) (e1' (q + 1) (by omega)) (fun j j1 j2 => e1' j (by omega))
      · by_cases hqe : q = m
        · subst hqe
          refine ⟨by omega, Or.inr (Or.inr (Or.inr ⟨by omega, ?_, ?_, by omega, by omega, ?_⟩))⟩
          · rw [e1' q (Nat.le_refl q), a2]
            omega
          · rw [e1' q (Nat.le_refl q), a2, e2' (q + 1) (Nat.le_refl _), b1]
          · rw [h3, Int.toNat_natCast, e2' e (by omega), b2, e1' q (Nat.le_refl q), a2]
        · exact zk_ops_c (b3 q (by omega) q2) (Nat.le_refl _) (e2' q (by omega)) (e2' (q + 1) (by omega)) (fun j j1 j2 => e2' j (by omega))
theorem yE_crk {op ar : Nat → Int} {f b e k : Nat} {x : yD} (h : yE op ar f b e k x) : zk_cr op ar b e := by
  obtain ⟨d, d1, -, d3⟩ := yE_cr h 0
  exact ⟨d, d1, d3⟩
/-- a part of a clause: code from b to e, all of it below N -/
noncomputable def zLp (op ar : Nat → Int) (N : Nat) (s e : Int) (x : yD) : Prop := ∃ (b e' k f : Nat), s = (b : Int) ∧ e = (e' : Int) ∧ e' ≤ N ∧ k ≤ 50 ∧ yE op ar f b e' k x
theorem zLp_c {op ar op' ar' : Nat → Int} {N N' : Nat} {s e : Int} {x : yD} (h : zLp op ar N s e x) (hN : N ≤ N') (hc : ∀ j, j < N → op' j = op j ∧ ar' j = ar j) : zLp op' ar' N' s e x := by
  obtain ⟨b, e', k, f, h1, h2, h3, h4, h5⟩ := h
  exact ⟨b, e', k, f, h1, h2, by omega, h4, yE_c (fun j j1 j2 => hc j (by omega)) h5⟩
theorem zLp_r {op ar : Nat → Int} {N : Nat} {s e : Int} {x : yD} (h : zLp op ar N s e x) : 0 ≤ s ∧ s < e ∧ e ≤ (N : Int) ∧ zk_cr op ar s.toNat e.toNat := by
  obtain ⟨b, e', k, f, h1, h2, h3, h4, h5⟩ := h
  have := yE_lt h5
  refine ⟨by omega, by omega, by omega, ?_⟩
  rw [h1, h2, Int.toNat_natCast, Int.toNat_natCast]
  exact yE_crk h5
/-- a clause of a law in a row of eights -/
noncomputable def zLc (C op ar : Nat → Int) (N c : Nat) (K : yK) : Prop := C (8 * c) = K.1 ∧ 0 ≤ K.1 ∧ K.1 ≤ 4 ∧ ((K.2.1 = none ∧ K.1 = 4) ∨ ∃ x, K.2.1 = some x ∧ ¬ K.1 = 4 ∧ zLp op ar N (C (8 * c + 3)) (C (8 * c + 4)) x) ∧ (0 ≤ C (8 * c + 3) ∧ C (8 * c + 3) ≤ (N : Int) ∧ 0 ≤ C (8 * c + 4) ∧ C (8 * c + 4) ≤ (N : Int)) ∧ ((K.2.2.2.2 = none ∧ C (8 * c + 5) = C (8 * c + 6) ∧ 0 ≤ C (8 * c + 5) ∧ C (8 * c + 5) ≤ (N : Int)) ∨ ∃ y, K.2.2.2.2 = some y ∧ zLp op ar N (C (8 * c + 5)) (C (8 * c + 6)) y ∧ yd_T y)
theorem zLc_c {C op ar C' op' ar' : Nat → Int} {N N' c c' : Nat} {K : yK} (h : zLc C op ar N c K) (hC : ∀ j, j < 8 → C' (8 * c' + j) = C (8 * c + j)) (hN : N ≤ N') (hc : ∀ j, j < N → op' j = op j ∧ ar' j = ar j) : zLc C' op' ar' N' c' K := by
  obtain ⟨h1, h2, h3, h4, h5, h6⟩ := h
  have e0 : C' (8 * c') = C (8 * c) := hC 0 (by decide)
  have e3 := hC 3 (by decide)
  have e4 := hC 4 (by decide)
  have e5 := hC 5 (by decide)
  have e6 := hC 6 (by decide)
  unfold zLc
  rw [e0, e3, e4, e5, e6]
  refine ⟨h1, h2, h3, ?_, by omega, ?_⟩
  · rcases h4 with h4 | ⟨x, g1, g2, g3⟩
    · exact Or.inl h4
    · exact Or.inr ⟨x, g1, g2, zLp_c g3 hN hc⟩
  · rcases h6 with ⟨g1, g2, g3, g4⟩ | ⟨y, g1, g2, g3⟩
    · exact Or.inl ⟨g1, g2, g3, by omega⟩
    · exact Or.inr ⟨y, g1, zLp_c g2 hN hc, g3⟩
/-- the clauses from c on -/
noncomputable def zLs (C op ar : Nat → Int) (N : Nat) : Nat → List yK → Prop
  | _, [] => True
  | c, K :: r => zLc C op ar N c K ∧ zLs C op ar N (c + 1) r
theorem zLs_c {C op ar C' op' ar' : Nat → Int} {N N' : Nat} (hN : N ≤ N') (hc : ∀ j, j < N → op' j = op j ∧ ar' j = ar j) : ∀ {L : List yK} {c : Nat}, zLs C op ar N c L → (∀ j, 8 * c ≤ j → j < 8 * (c + L.length) → C' j = C j) → zLs C' op' ar' N' c L
  | [], _, _, _ => trivial
  | K :: r, c, h, hC => by
    have e : (K :: r).length = r.length + 1 := rfl
    exact ⟨zLc_c h.1 (fun j hj => hC _ (by omega) (by omega)) hN hc, zLs_c hN hc h.2 (fun j j1 j2 => hC j (by omega) (by omega))⟩
theorem zLs_app {C op ar : Nat → Int} {N : Nat} {K : yK} : ∀ {L : List yK} {c : Nat}, zLs C op ar N c L → zLc C op ar N (c + L.length) K → zLs C op ar N c (L ++ [K])
  | [], c, _, h => ⟨h, trivial⟩
  | K' :: r, c, h, hK => by
    have e : (K' :: r).length = r.length + 1 := rfl
    refine ⟨h.1, zLs_app h.2 ?_⟩
    rw [show c + 1 + r.length = c + (K' :: r).length by omega]
    exact hK
theorem zLs_at {C op ar : Nat → Int} {N : Nat} : ∀ {L : List yK} {c i : Nat}, zLs C op ar N c L → i < L.length → ∃ K, L[i]? = some K ∧ zLc C op ar N (c + i) K
  | [], _, _, _, h => absurd h (Nat.not_lt_zero _)
  | K :: r, c, 0, h, _ => ⟨K, rfl, h.1⟩
  | K :: r, c, i + 1, h, hi => by
    obtain ⟨K', g1, g2⟩ := zLs_at h.2 (i := i) (Nat.lt_of_succ_lt_succ hi)
    refine ⟨K', g1, ?_⟩
    rw [show c + (i + 1) = c + 1 + i by omega]
    exact g2
theorem yt_hl_eq {so : Nat → Nat} {wo : Nat → Int} {p : Nat} : yt_hl so wo p = if so p = 1 then ych ywh 0 (wo p) else -1 := by
  unfold yt_hl
  by_cases h1 : so p = 1
  · have e : ∀ c, (yr_w so wo c p = true) = (wo p = c) := fun c => propext ⟨fun z => (yr_w_i.mp z).2, fun z => yr_w_i.mpr ⟨h1, z⟩⟩
    rw [if_pos h1]
    simp only [e]
    rfl
  · have e : ∀ c, ¬ (yr_w so wo c p = true) := fun c z => h1 (yr_w_i.mp z).1
    rw [if_neg h1, if_neg (e _), if_neg (e _), if_neg (e _), if_neg (e _), if_neg (e _)]
/-- a text, read on behind a clause -/
noncomputable def yTb (so : Nat → Nat) (wo : Nat → Int) (nx : Nat → Nat) (cl : Nat → Nat → Nat ⊕ (Nat × Nat × yK) → Prop) (r p1 n1 : Nat) (t : Nat ⊕ List yK) : Prop := if so p1 = 0 then t = Sum.inr [] else if yr_s so wo 59 p1 = true then yT so wo nx cl r (nx p1) n1 t else t = Sum.inl p1
noncomputable def yTg (L : List yK) : Nat ⊕ List yK → Nat ⊕ List yK
  | Sum.inl q => Sum.inl q
  | Sum.inr M => Sum.inr (L ++ M)
theorem yT_b {so : Nat → Nat} {wo : Nat → Int} {nx : Nat → Nat} {cl : Nat → Nat → Nat ⊕ (Nat × Nat × yK) → Prop} {r p n p1 n1 : Nat} {c : yK} {t : Nat ⊕ List yK} (h1 : cl p n (Sum.inr (p1, n1, c))) (h2 : yTb so wo nx cl r p1 n1 t) : yT so wo nx cl (r + 1) p n (yTg [c] t) := by
  refine ⟨_, h1, Or.inr ⟨p1, n1, c, rfl, ?_⟩⟩
  unfold yTb at h2
  by_cases e0 : so p1 = 0
  · rw [if_pos e0] at h2 ⊢
    rw [h2]
    rfl
  · rw [if_neg e0] at h2 ⊢
    by_cases e1 : yr_s so wo 59 p1 = true
    · rw [if_pos e1] at h2 ⊢
      refine ⟨t, h2, ?_⟩
      cases t with
      | inl q => exact Or.inl ⟨q, rfl, rfl⟩
      | inr M => exact Or.inr ⟨M, rfl, rfl⟩
    · rw [if_neg e1] at h2 ⊢
      rw [h2]
      rfl
theorem yTg_g {L M : List yK} {t : Nat ⊕ List yK} : yTg L (yTg M t) = yTg (L ++ M) t := by
  cases t with
  | inl q => rfl
  | inr N =>
    show Sum.inr (L ++ (M ++ N)) = Sum.inr (L ++ M ++ N)
    rw [List.append_assoc]
