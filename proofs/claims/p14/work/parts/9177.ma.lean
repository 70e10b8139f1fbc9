/-! part ma: laws on both sides; cells that come to be -/
/-- what a reference's cell holds -/
theorem zMVr_G {A : Nat → Nat} {V : Nat → Nat → Int} {P : Nat → Option Nat} {G : Nat → Nat → Int} (h : zMVr A V P G) {o t k : Nat} (ho : (o, t) ∈ zYr) (hn : zNs o k) : G (A o) k = V o k := by
  obtain ⟨M, m1, m2, -⟩ := h
  exact (zM_G m1 ho k).trans (m2 o k hn)
theorem zMVr_P {A : Nat → Nat} {V : Nat → Nat → Int} {P : Nat → Option Nat} {G : Nat → Nat → Int} (h : zMVr A V P G) {o t : Nat} (ho : (o, t) ∈ zYr) : P (A o) = some t := by
  obtain ⟨M, m1, -⟩ := h
  exact zM_P m1 ho
theorem zMVr_F {A : Nat → Nat} {V : Nat → Nat → Int} {P : Nat → Option Nat} {G : Nat → Nat → Int} (h : zMVr A V P G) {o k o' t : Nat} (ho : (o, t) ∈ zYr) (hr : (o, k, o') ∈ zFr) : G (A o) k = (A o' : Int) := by
  obtain ⟨M, m1, -⟩ := h
  exact (zM_G m1 ho k).trans (zM_F m1 hr)
theorem zMVr_v {A : Nat → Nat} {V : Nat → Nat → Int} {P : Nat → Option Nat} {G : Nat → Nat → Int} (h : zMVr A V P G) (j : Nat) : zv G (A 0) 3 j = V 3 (2000 + j) := by
  rw [zv_eq (zMVr_F h (o := 0) (t := 13) (List.mem_of_getElem? (i := 0) rfl) (k := 3) (o' := 3) (List.mem_of_getElem? (i := 1) rfl)) j]
  exact zMVr_G h (t := 59) (List.mem_of_getElem? (i := 2) rfl) (Or.inl (by decide))
/-- the law's words tell alike where the leaves' words are alike -/
theorem yG_9 {C : Nat → Int} {en en' : Int → Int → Int} (he : ∀ o a, 0 ≤ o → o ≤ 9 → en o a = en' o a) : ∀ {f b e k : Nat} {x : yD}, yG false C f b e k x → x en = x en'
  | 0, _, _, _, _, h => h.elim
  | f + 1, b, e, k, x, h => by
    rcases h with ⟨-, -, h3, h4⟩ | ⟨m, e1, k1, k2, y, z, -, h2, h3, -, -, -, h4⟩ | ⟨e1, y, -, h2, -, -, h4⟩ | ⟨m, k1, k2, y, z, h1, -, -, h2, -, -, h4⟩ | ⟨m, k1, k2, y, z, h1, -, -, h2, -, -, h4⟩
    · subst h4
      have hr : 0 ≤ yl_o false (C b) (C (b + 1)) ∧ yl_o false (C b) (C (b + 1)) ≤ 9 := by
        unfold yl_o
        rcases h3 with ⟨c1, -⟩ | ⟨c1, c2, c3⟩
        · rw [if_pos c1]
          omega
        · have c3 : C (b + 1) < 9 := c3
          rw [if_neg (by omega), if_neg (fun z => by cases z.1), if_neg (fun z => by cases z.1)]
          omega
      unfold yd_lf
      rw [he _ _ hr.1 hr.2]
    · subst h4
      unfold yd_op
      rw [yG_9 he h2, yG_9 he h3]
    · subst h4
      unfold yd_nt
      rw [yG_9 he h2]
    · subst h4
      unfold yd_ad
      rw [yG_9 he h1, yG_9 he h2]
    · subst h4
      unfold yd_or
      rw [yG_9 he h1, yG_9 he h2]
theorem zXc_9 {A : Nat → Nat → Int} {C : Nat → Int} {N c : Nat} {K : yK} {en en' : Int → Int → Int} (he : ∀ o a, 0 ≤ o → o ≤ 9 → en o a = en' o a) (h : zXc A C N false c K) : (∀ x, K.2.1 = some x → x en = x en') ∧ ∀ x, K.2.2.2.2 = some x → x en = x en' := by
  obtain ⟨-, h2, -, -, h5⟩ := h
  refine ⟨fun x hx => ?_, fun x hx => ?_⟩
  · rcases h2 with ⟨g, -⟩ | ⟨y, g, b, e, k, f, -, -, -, g2, -⟩
    · rw [g] at hx
      cases hx
    · rw [g] at hx
      cases hx
      exact yG_9 he g2
  · rcases h5 with ⟨g, -⟩ | ⟨y, g, ⟨b, e, k, f, -, -, -, g2, -⟩, -⟩
    · rw [g] at hx
      cases hx
    · rw [g] at hx
      cases hx
      exact yG_9 he g2
theorem yw_1_9 {K : yK} {en en' : Int → Int → Int} {h : Int} (h1 : ∀ x, K.2.1 = some x → x en = x en') (h2 : ∀ x, K.2.2.2.2 = some x → x en = x en') : yw_1 en h K = yw_1 en' h K := by
  have e1 : yw_s en K = yw_s en' K := by
    unfold yw_s
    cases hx : K.2.1 with
    | none => rfl
    | some x => exact h1 x hx
  have e2 : yw_tb en K = yw_tb en' K := by
    unfold yw_tb
    cases hx : K.2.2.2.2 with
    | none => rfl
    | some x =>
      dsimp only
      rw [h2 x hx]
  unfold yw_1
  rw [e1, e2]
theorem zXs_9 {A : Nat → Nat → Int} {C : Nat → Int} {N : Nat} {en en' : Int → Int → Int} (he : ∀ o a, 0 ≤ o → o ≤ 9 → en o a = en' o a) {h : Int} : ∀ {L : List yK} {c : Nat}, zXs A C N false c L → yw en h L = yw en' h L
  | [], _, _ => rfl
  | K :: r, c, hx => by
    obtain ⟨g1, g2⟩ := zXc_9 he hx.1
    show (match yw en h r with
      | some v => some v
      | none => yw_1 en h K) = (match yw en' h r with
      | some v => some v
      | none => yw_1 en' h K)
    rw [zXs_9 he hx.2, yw_1_9 g1 g2]
theorem zyL_x {A : Nat → Nat → Int} {C : Nat → Int} {N c : Nat} {L : List yK} (h : zXs A C N false c L) : zyL L := fun _ _ he _ => zXs_9 he h
theorem zyB_s {C op ar : Nat → Int} {N : Nat} : ∀ {L : List yK} {c : Nat}, zLs C op ar N c L → zyB L
  | [], _, _ => fun K hK => absurd hK List.not_mem_nil
  | K :: r, c, h => fun K' hK h4 => by
    rcases List.mem_cons.mp hK with rfl | hK
    · obtain ⟨-, -, -, g, -⟩ := h.1
      rcases g with ⟨g1, -⟩ | ⟨x, -, g2, -⟩
      · exact g1
      · exact absurd h4 g2
    · exact zyB_s h.2 K' hK h4
/-- the i-th text of a row is the law L -/
noncomputable def zTx (R : Nat → Int) (i : Nat) (L : List yK) : Prop := R ((900 * i + 180) + 1) = (L.length : Int) ∧ L.length ≤ 12 ∧ zLs (zg_cl R (900 * i + 180)) (zg_op R (900 * i + 180)) (zg_ar R (900 * i + 180)) 400 0 L
theorem zTx_e {R R' : Nat → Int} {i : Nat} {L : List yK} (hR : ∀ j, 180 ≤ j → j < 5580 → R' j = R j) (hi : i < 6) (h : zTx R i L) : zTx R' i L := by
  obtain ⟨h1, h2, h3⟩ := h
  refine ⟨(hR _ (by omega) (by omega)).trans h1, h2, zLs_c (Nat.le_refl _) (fun j hj => ⟨?_, ?_⟩) h3 (fun j _ hj => ?_)⟩
  · exact hR _ (by omega) (by omega)
  · exact hR _ (by omega) (by omega)
  · exact hR _ (by omega) (by omega)
theorem zTx_l {R : Nat → Int} {n : Nat} {L : List yK} (h : zRl R (180 + 900 * n) L) : zTx R n L := by
  obtain ⟨h1, h2, h3⟩ := h
  refine ⟨(congrArg R (by omega)).trans h2, h1, zLs_c (Nat.le_refl _) (fun j hj => ⟨?_, ?_⟩) h3 (fun j _ hj => ?_)⟩
  · exact congrArg R (by omega)
  · exact congrArg R (by omega)
  · exact congrArg R (by omega)
/-- laws agree: the class's at lc, the row's -/
noncomputable def zLaw (A : Nat → Nat) (Y : List (Nat × Nat)) (F : List (Nat × Nat × Nat)) (W : Nat → Nat → Int) (lc : Nat) (R : Nat → Int) : Prop := ∃ nl : Nat, R 3 = (nl : Int) ∧ nl ≤ 6 ∧ (-1 ≤ R 4 ∧ R 4 < (nl : Int)) ∧ ∀ i, i < nl → ∃ (L : List yK) (c : Nat), zTx R i L ∧ W lc (2000 + i) = (A c : Int) ∧ zLT Y F W c L
theorem zLaw_e {A : Nat → Nat} {Y : List (Nat × Nat)} {F : List (Nat × Nat × Nat)} {W W' : Nat → Nat → Int} {lc lc' : Nat} {R R' : Nat → Int} (h1 : ∀ i, i < 6 → W' lc' (2000 + i) = W lc (2000 + i)) (h2 : ∀ o k t, (o, t) ∈ Y → t ∈ [9, 36, 37, 40, 41] → 100 ≤ o → W' o k = W o k) (hR : ∀ j, (j = 3 ∨ j = 4 ∨ 180 ≤ j) → j < 5580 → R' j = R j) (h : zLaw A Y F W lc R) : zLaw A Y F W' lc' R' := by
  obtain ⟨nl, g1, g2, g3, g4⟩ := h
  refine ⟨nl, (hR 3 (by omega) (by omega)).trans g1, g2, ?_, fun i hi => ?_⟩
  · rw [hR 4 (by omega) (by omega)]
    exact g3
  · obtain ⟨L, c, q1, q2, q3⟩ := g4 i hi
    refine ⟨L, c, zTx_e (fun j a b => hR j (by omega) b) (by omega) q1, (h1 i (by omega)).trans q2, ?_⟩
    obtain ⟨e1, ⟨y0, y1, y2, y3, y4⟩, e3, N, n0, n1, n4, nc, A1, C1, a1, ⟨a2, a3, a4, a5⟩, ⟨b1, b2, b3, b4⟩, c1, c2⟩ := q3
    have w0 := fun k => h2 c k 9 y0 (by decide) e1
    have w1 := fun k => h2 (c + 1) k 36 y1 (by decide) (by omega)
    have w2 := fun k => h2 (c + 2) k 37 y2 (by decide) (by omega)
    have w3 := fun k => h2 (c + 3) k 40 y3 (by decide) (by omega)
    have w4 := fun k => h2 (c + 4) k 41 y4 (by decide) (by omega)
    exact ⟨e1, ⟨y0, y1, y2, y3, y4⟩, e3, N, n0, n1, n4, nc, A1, C1, (w0 _).trans a1, ⟨(w1 _).trans a2, (w2 _).trans a3, (w3 _).trans a4, (w4 _).trans a5⟩, ⟨fun j => (w1 _).trans (b1 j), fun j => (w2 _).trans (b2 j), fun j => (w3 _).trans (b3 j), fun j => (w4 _).trans (b4 j)⟩, c1, c2⟩
theorem zLT_9 {Y : List (Nat × Nat)} {F : List (Nat × Nat × Nat)} {W : Nat → Nat → Int} {c : Nat} {L : List yK} (h : zLT Y F W c L) : zyL L := by
  obtain ⟨-, -, -, N, n0, n1, n4, nc, A1, C1, -, -, -, -, c2⟩ := h
  exact zyL_x c2
/-- the law in force, on both sides -/
theorem zLaw_f {A : Nat → Nat} {Y : List (Nat × Nat)} {F : List (Nat × Nat × Nat)} {W : Nat → Nat → Int} {R : Nat → Int} (h14 : W 1 14 = R 3) (h15 : W 1 15 = R 4) (h : zLaw A Y F W 40 R) : ∃ Lw, zgLw R Lw ∧ zyL Lw ∧ zyB Lw ∧ zLF A Y F W Lw := by
  obtain ⟨nl, g1, g2, g3, g4⟩ := h
  by_cases c : R 4 = -1
  · exact ⟨[], Or.inl ⟨c, rfl⟩, fun _ _ _ _ => rfl, fun K hK => absurd hK List.not_mem_nil, Or.inl ⟨Or.inl (by omega), rfl⟩⟩
  · obtain ⟨i, hi⟩ : ∃ i : Nat, R 4 = (i : Int) := zp_nat (by omega)
    obtain ⟨L, cc, ⟨q1, q2, q3⟩, q4, q5⟩ := g4 i (by omega)
    exact ⟨L, Or.inr ⟨i, by omega, hi, q1, q2, q3⟩, zLT_9 q5, zyB_s q3, Or.inr ⟨i, cc, by omega, by omega, by omega, q4, q5⟩⟩
/-- more cells -/
noncomputable def zExt (A : Nat → Nat) (Y : List (Nat × Nat)) (F : List (Nat × Nat × Nat)) (A' : Nat → Nat) (Y' : List (Nat × Nat)) (F' : List (Nat × Nat × Nat)) : Prop := (∀ q ∈ Y, q ∈ Y') ∧ (∀ r ∈ F, r ∈ F') ∧ ∀ q ∈ Y, A' q.1 = A q.1
/-- a number beyond all cells -/
noncomputable def zFrY : List (Nat × Nat) → Nat
  | [] => 100
  | q :: r => max (q.1 + 1) (zFrY r)
noncomputable def zFrF : List (Nat × Nat × Nat) → Nat
  | [] => 100
  | q :: r => max (max (q.1 + 1) (q.2.2 + 1)) (zFrF r)
theorem zFrY_b : ∀ {Y : List (Nat × Nat)}, 100 ≤ zFrY Y ∧ ∀ q ∈ Y, q.1 < zFrY Y
  | [] => ⟨Nat.le_refl _, fun q hq => absurd hq List.not_mem_nil⟩
  | p :: r => by
    obtain ⟨h1, h2⟩ := zFrY_b (Y := r)
    have e : zFrY (p :: r) = max (p.1 + 1) (zFrY r) := rfl
    refine ⟨by omega, fun q hq => ?_⟩
    rcases List.mem_cons.mp hq with rfl | hq
    · omega
    · have := h2 q hq
      omega
theorem zFrF_b : ∀ {F : List (Nat × Nat × Nat)}, 100 ≤ zFrF F ∧ ∀ r ∈ F, r.1 < zFrF F ∧ r.2.2 < zFrF F
  | [] => ⟨Nat.le_refl _, fun q hq => absurd hq List.not_mem_nil⟩
  | p :: r => by
    obtain ⟨h1, h2⟩ := zFrF_b (F := r)
    have e : zFrF (p :: r) = max (max (p.1 + 1) (p.2.2 + 1)) (zFrF r) := rfl
    refine ⟨by omega, fun q hq => ?_⟩
    rcases List.mem_cons.mp hq with rfl | hq
    · omega
    · have := h2 q hq
      omega
/-- cells come to be: from c on, where B says, of the types of Y2 -/
theorem zN_ext {A B : Nat → Nat} {Y Y2 : List (Nat × Nat)} {F F2 : List (Nat × Nat × Nat)} {W : Nat → Nat → Int} {P P' : Nat → Option Nat} {G' : Nat → Nat → Int} {c : Nat} (hY : zMc Y F) (hc : 100 ≤ c ∧ (∀ q ∈ Y, q.1 < c) ∧ ∀ r ∈ F, r.1 < c ∧ r.2.2 < c) (hold : ∀ q ∈ Y, P (A q.1) = some q.2) (h : zMVc A Y F W P' G') (h2 : ∀ q ∈ Y2, c ≤ q.1 ∧ P (B q.1) = none ∧ P' (B q.1) = some q.2 ∧ q.2 ∈ zTY) (hi : ∀ q ∈ Y2, ∀ r ∈ Y2, q.2 = r.2 → q.1 = r.1) (hF : ∀ r ∈ F2, c ≤ r.1 ∧ c ≤ r.2.2 ∧ G' (B r.1) r.2.1 = (B r.2.2 : Int) ∧ r.2.1 < 1000 ∧ ∃ t, (r.1, t) ∈ Y2 ∧ (t, r.2.1) ∈ zTF) : ∃ A' W', zExt A Y F A' (Y ++ Y2) (F ++ F2) ∧ zMc (Y ++ Y2) (F ++ F2) ∧ zMVc A' (Y ++ Y2) (F ++ F2) W' P' G' ∧ (∀ o, o < c → A' o = A o ∧ ∀ k, W' o k = W o k) ∧ ∀ o, c ≤ o → A' o = B o ∧ ∀ k, W' o k = G' (B o) k := by
  obtain ⟨M, ⟨m1, m2, m3, m4⟩, hV, -⟩ := h
  obtain ⟨c0, c1, c2⟩ := hc
  have old : ∀ o, o < c → (if o < c then A o else B o) = A o := fun o ho => if_pos ho
  have new : ∀ o, c ≤ o → (if o < c then A o else B o) = B o := fun o ho => if_neg (by omega)
  refine ⟨fun o => if o < c then A o else B o, fun o k => if o < c then W o k else G' (B o) k, ⟨fun q hq => List.mem_append_left _ hq, fun r hr => List.mem_append_left _ hr, fun q hq => old _ (c1 q hq)⟩, ⟨fun q hq => List.mem_append_left _ (hY.1 q hq), fun r hr => List.mem_append_left _ (hY.2.1 r hr), fun r hr => ?_, fun q hq => ?_⟩, ⟨fun o k => if o < c then M o k else G' (B o) k, ⟨fun q hq => ?_, fun r hr => ?_, fun q hq r hr he => ?_, fun r hr => ?_⟩, fun o k hn => ?_, trivial⟩, fun o ho => ⟨old o ho, fun k => if_pos ho⟩, fun o ho => ⟨new o ho, fun k => if_neg (by omega)⟩⟩
  · rcases List.mem_append.mp hr with hr | hr
    · rcases hY.2.2.1 r hr with g | ⟨g1, t, g2, g3⟩
      · exact Or.inl g
      · exact Or.inr ⟨g1, t, List.mem_append_left _ g2, g3⟩
    · obtain ⟨g1, -, -, -, t, g2, g3⟩ := hF r hr
      exact Or.inr ⟨by omega, t, List.mem_append_right _ g2, g3⟩
  · rcases List.mem_append.mp hq with hq | hq
    · exact hY.2.2.2 q hq
    · obtain ⟨g1, -, -, g4⟩ := h2 q hq
      exact Or.inr ⟨by omega, g4⟩
  · rcases List.mem_append.mp hq with hq | hq
    · have h9 := c1 q hq
      dsimp only
      rw [if_pos h9]
      refine ⟨(m1 q hq).1, fun k => ?_⟩
      rw [if_pos h9]
      exact (m1 q hq).2 k
    · obtain ⟨g1, -, g3, -⟩ := h2 q hq
      have h9 : ¬ q.1 < c := by omega
      dsimp only
      rw [if_neg h9]
      refine ⟨g3, fun k => ?_⟩
      rw [if_neg h9]
  · rcases List.mem_append.mp hr with hr | hr
    · obtain ⟨a1, a2⟩ := c2 r hr
      dsimp only
      rw [if_pos a1, if_pos a2]
      exact m2 r hr
    · obtain ⟨a1, a2, a3, -⟩ := hF r hr
      dsimp only
      rw [if_neg (by omega), if_neg (by omega)]
      exact a3
  · rcases List.mem_append.mp hq with hq | hq <;> rcases List.mem_append.mp hr with hr | hr
    · have e1 := c1 q hq
      have e2 := c1 r hr
      dsimp only at he
      rw [if_pos e1, if_pos e2] at he
      exact m3 q hq r hr he
    · have e1 := c1 q hq
      obtain ⟨e2, g2, -⟩ := h2 r hr
      dsimp only at he
      rw [if_pos e1, if_neg (by omega)] at he
      have h9 := hold q hq
      rw [he, g2] at h9
      cases h9
    · have e2 := c1 r hr
      obtain ⟨e1, g2, -⟩ := h2 q hq
      dsimp only at he
      rw [if_neg (by omega), if_pos e2] at he
      have h9 := hold r hr
      rw [← he, g2] at h9
      cases h9
    · obtain ⟨e1, -, g3, -⟩ := h2 q hq
      obtain ⟨e2, -, k3, -⟩ := h2 r hr
      dsimp only at he
      rw [if_neg (by omega), if_neg (by omega)] at he
      rw [he, k3] at g3
      exact hi q hq r hr (Option.some.inj g3).symm
  · rcases List.mem_append.mp hr with hr | hr
    · exact m4 r hr
    · exact (hF r hr).2.2.2.1
  · dsimp only
    by_cases h9 : o < c
    · rw [if_pos h9, if_pos h9]
      exact hV o k hn
    · rw [if_neg h9, if_neg h9]
theorem zMVc_P {A : Nat → Nat} {Y : List (Nat × Nat)} {F : List (Nat × Nat × Nat)} {W : Nat → Nat → Int} {P : Nat → Option Nat} {G : Nat → Nat → Int} (h : zMVc A Y F W P G) : ∀ q ∈ Y, P (A q.1) = some q.2 := by
  obtain ⟨M, m1, -⟩ := h
  exact fun q hq => (m1.1 q hq).1
theorem zFr_c {Y : List (Nat × Nat)} {F : List (Nat × Nat × Nat)} : 100 ≤ max (zFrY Y) (zFrF F) ∧ (∀ q ∈ Y, q.1 < max (zFrY Y) (zFrF F)) ∧ ∀ r ∈ F, r.1 < max (zFrY Y) (zFrF F) ∧ r.2.2 < max (zFrY Y) (zFrF F) := by
  obtain ⟨h1, h2⟩ := zFrY_b (Y := Y)
  obtain ⟨h3, h4⟩ := zFrF_b (F := F)
  refine ⟨by omega, fun q hq => ?_, fun r hr => ?_⟩
  · have := h2 q hq
    omega
  · have := h4 r hr
    omega
/-- a new text, as cells -/
theorem zN_text {A : Nat → Nat} {Y : List (Nat × Nat)} {F : List (Nat × Nat × Nat)} {W : Nat → Nat → Int} {P P' : Nat → Option Nat} {G' : Nat → Nat → Int} {cp : Nat} {b : Nat → Nat} {L : List yK} (hY : zMc Y F) (hold : ∀ q ∈ Y, P (A q.1) = some q.2) (h : zMVc A Y F W P' G') (hN : zNT P P' G' cp b L) : ∃ A' Y' F' W' c, zExt A Y F A' Y' F' ∧ zMc Y' F' ∧ zMVc A' Y' F' W' P' G' ∧ (∀ o k, o < 100 → A' o = A o ∧ W' o k = W o k) ∧ (∀ q ∈ Y, ∀ k, W' q.1 k = W q.1 k) ∧ A' c = cp ∧ zLT Y' F' W' c L := by
  obtain ⟨⟨n1, n2⟩, n3, sz, n4, n5, n6, n7, n8⟩ := hN
  obtain ⟨c, hcd⟩ : ∃ c, c = max (zFrY Y) (zFrF F) := ⟨_, rfl⟩
  have hc := zFr_c (Y := Y) (F := F)
  rw [← hcd] at hc
  obtain ⟨B, hB⟩ : ∃ B : Nat → Nat, B = fun o => if o = c then cp else if o = c + 1 then b 0 else if o = c + 2 then b 1 else if o = c + 3 then b 4 else b 5 := ⟨_, rfl⟩
  have b0 : B c = cp := by rw [hB]; exact if_pos rfl
  have b1 : B (c + 1) = b 0 := by
    rw [hB]
    dsimp only
    rw [if_neg (by omega), if_pos rfl]
  have b2 : B (c + 2) = b 1 := by
    rw [hB]
    dsimp only
    rw [if_neg (by omega), if_neg (by omega), if_pos rfl]
  have b3 : B (c + 3) = b 4 := by
    rw [hB]
    dsimp only
    rw [if_neg (by omega), if_neg (by omega), if_neg (by omega), if_pos rfl]
  have b4 : B (c + 4) = b 5 := by
    rw [hB]
    dsimp only
    rw [if_neg (by omega), if_neg (by omega), if_neg (by omega), if_neg (by omega)]
  obtain ⟨A', W', e1, e2, e3, e4, e5⟩ := zN_ext (B := B) (Y2 := [(c, 9), (c + 1, 36), (c + 2, 37), (c + 3, 40), (c + 4, 41)]) (F2 := [(c, 0, c + 1), (c, 1, c + 2), (c, 4, c + 3), (c, 5, c + 4)]) hY hc hold h (fun q hq => by
    simp only [List.mem_cons, List.not_mem_nil, or_false] at hq
    rcases hq with rfl | rfl | rfl | rfl | rfl
    · refine ⟨Nat.le_refl _, ?_, ?_, show (9 : Nat) ∈ zTY by decide⟩
      · rw [b0]
        exact n1
      · rw [b0]
        exact n2
    · refine ⟨by omega, ?_, ?_, show (36 : Nat) ∈ zTY by decide⟩
      · rw [b1]
        exact (n3 0 (by decide)).2.2
      · rw [b1]
        exact (n3 0 (by decide)).2.1
    · refine ⟨by omega, ?_, ?_, show (37 : Nat) ∈ zTY by decide⟩
      · rw [b2]
        exact (n3 1 (by decide)).2.2
      · rw [b2]
        exact (n3 1 (by decide)).2.1
    · refine ⟨by omega, ?_, ?_, show (40 : Nat) ∈ zTY by decide⟩
      · rw [b3]
        exact (n3 4 (by decide)).2.2
      · rw [b3]
        exact (n3 4 (by decide)).2.1
    · refine ⟨by omega, ?_, ?_, show (41 : Nat) ∈ zTY by decide⟩
      · rw [b4]
        exact (n3 5 (by decide)).2.2
      · rw [b4]
        exact (n3 5 (by decide)).2.1) (fun q hq r hr he => by
    simp only [List.mem_cons, List.not_mem_nil, or_false] at hq hr
    rcases hq with rfl | rfl | rfl | rfl | rfl <;> rcases hr with rfl | rfl | rfl | rfl | rfl <;> first | rfl | simp at he) (fun r hr => by
    simp only [List.mem_cons, List.not_mem_nil, or_false] at hr
    rcases hr with rfl | rfl | rfl | rfl
    · refine ⟨Nat.le_refl _, Nat.le_add_right _ _, ?_, show (0 : Nat) < 1000 by decide, 9, by simp, show ((9, 0) : Nat × Nat) ∈ zTF by decide⟩
      rw [b0, b1]
      exact (n3 0 (by decide)).1
    · refine ⟨Nat.le_refl _, Nat.le_add_right _ _, ?_, show (1 : Nat) < 1000 by decide, 9, by simp, show ((9, 1) : Nat × Nat) ∈ zTF by decide⟩
      rw [b0, b2]
      exact (n3 1 (by decide)).1
    · refine ⟨Nat.le_refl _, Nat.le_add_right _ _, ?_, show (4 : Nat) < 1000 by decide, 9, by simp, show ((9, 4) : Nat × Nat) ∈ zTF by decide⟩
      rw [b0, b3]
      exact (n3 4 (by decide)).1
    · refine ⟨Nat.le_refl _, Nat.le_add_right _ _, ?_, show (5 : Nat) < 1000 by decide, 9, by simp, show ((9, 5) : Nat × Nat) ∈ zTF by decide⟩
      rw [b0, b4]
      exact (n3 5 (by decide)).1)
  have w0 : ∀ k, W' c k = G' cp k := fun k => by rw [(e5 c (Nat.le_refl _)).2, b0]
  have w1 : ∀ k, W' (c + 1) k = G' (b 0) k := fun k => by rw [(e5 (c + 1) (by omega)).2, b1]
  have w2 : ∀ k, W' (c + 2) k = G' (b 1) k := fun k => by rw [(e5 (c + 2) (by omega)).2, b2]
  have w3 : ∀ k, W' (c + 3) k = G' (b 4) k := fun k => by rw [(e5 (c + 3) (by omega)).2, b3]
  have w4 : ∀ k, W' (c + 4) k = G' (b 5) k := fun k => by rw [(e5 (c + 4) (by omega)).2, b4]
  refine ⟨A', _, _, W', c, e1, e2, e3, fun o k ho => ⟨(e4 o (by omega)).1, (e4 o (by omega)).2 k⟩, fun q hq k => (e4 q.1 (hc.2.1 q hq)).2 k, ?_, hc.1, ⟨?_, ?_, ?_, ?_, ?_⟩, ⟨?_, ?_, ?_, ?_⟩, sz, L.length, L.length, L.length, L.length, fun i j => G' (b i) (2000 + j), fun j => G' (b 5) (2000 + j), ?_, ⟨?_, ?_, ?_, ?_⟩, ⟨fun j => w1 _, fun j => w2 _, fun j => w3 _, fun j => w4 _⟩, ⟨Nat.le_refl _, Nat.le_refl _, Nat.le_refl _, n4, n5, rfl⟩, n8⟩
  · rw [(e5 c (Nat.le_refl _)).1, b0]
  · exact List.mem_append_right _ (by simp)
  · exact List.mem_append_right _ (by simp)
  · exact List.mem_append_right _ (by simp)
  · exact List.mem_append_right _ (by simp)
  · exact List.mem_append_right _ (by simp)
  · exact List.mem_append_right _ (by simp)
  · exact List.mem_append_right _ (by simp)
  · exact List.mem_append_right _ (by simp)
  · exact List.mem_append_right _ (by simp)
  · rw [w0]
    exact n6
  · rw [w1]
    exact n7 0 (by decide)
  · rw [w2]
    exact n7 1 (by decide)
  · rw [w3]
    exact n7 4 (by decide)
  · rw [w4]
    exact n7 5 (by decide)
