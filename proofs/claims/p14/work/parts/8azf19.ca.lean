/-! part ca: the reference: readSum, readOrder, exactly -/
/-- where the parser's arrays are -/
noncomputable def zDt (P : Nat → Option Nat) (a : Nat) (G : Nat → Nat → Int) : Prop := ∃ b12 b24 b25 b27 b28 : Nat, ((G a 12 = (b12 : Int) ∧ P b12 = some 66) ∧ (G a 24 = (b24 : Int) ∧ P b24 = some 68) ∧ (G a 25 = (b25 : Int) ∧ P b25 = some 69)) ∧ (G a 27 = (b27 : Int) ∧ P b27 = some 70) ∧ (G a 28 = (b28 : Int) ∧ P b28 = some 71)
theorem zDt_b {P : Nat → Option Nat} {a : Nat} {G : Nat → Nat → Int} (h : zDt P a G) (ha : P a = some 92) : ∃ b12 b24 b25 b27 b28 : Nat, zDb a G b12 b24 b25 b27 b28 ∧ ∀ b t, P b = some t → t ≠ 66 ∧ t ≠ 68 ∧ t ≠ 69 ∧ t ≠ 70 ∧ t ≠ 71 → b12 ≠ b ∧ b24 ≠ b ∧ b25 ≠ b ∧ b27 ≠ b ∧ b28 ≠ b := by
  obtain ⟨b12, b24, b25, b27, b28, ⟨⟨e12, p12⟩, ⟨e24, p24⟩, ⟨e25, p25⟩⟩, ⟨e27, p27⟩, ⟨e28, p28⟩⟩ := h
  refine ⟨b12, b24, b25, b27, b28, ⟨⟨e12, e24, e25, e27, e28⟩, ⟨zp_pne p24 ha (by decide), zp_pne p25 ha (by decide), zp_pne p27 ha (by decide), zp_pne p28 ha (by decide)⟩, ⟨zp_pne p12 p24 (by decide), zp_pne p12 p25 (by decide), zp_pne p12 p27 (by decide), zp_pne p12 p28 (by decide)⟩, zp_pne p24 p25 (by decide), zp_pne p24 p27 (by decide), zp_pne p24 p28 (by decide), zp_pne p25 p27 (by decide), zp_pne p25 p28 (by decide), zp_pne p27 p28 (by decide)⟩, fun b t hb ht => ?_⟩
  obtain ⟨t1, t2, t3, t4, t5⟩ := ht
  exact ⟨zp_pne p12 hb (fun e => t1 e.symm), zp_pne p24 hb (fun e => t2 e.symm), zp_pne p25 hb (fun e => t3 e.symm), zp_pne p27 hb (fun e => t4 e.symm), zp_pne p28 hb (fun e => t5 e.symm)⟩
theorem zD_o {P : Nat → Option Nat} {a b t i : Nat} {v : Int} {G : Nat → Nat → Int} {bad : Int} {B : Nat → Int} {ln tk nl od : Nat} {pi : List (Int × Int)} {cd : yC} (h : zD a G bad B ln tk nl od pi cd) (hT : zDt P a G) (ha : P a = some 92) (hb : P b = some t) (ht : t ≠ 92 ∧ t ≠ 66 ∧ t ≠ 68 ∧ t ≠ 69 ∧ t ≠ 70 ∧ t ≠ 71) : zD a (zp_set G b i v) bad B ln tk nl od pi cd := by
  obtain ⟨b12, b24, b25, b27, b28, hDb, hne⟩ := zDt_b hT ha
  obtain ⟨x1, x2, x3, x4, x5⟩ := hne b t hb ht.2
  exact zD_ow h hDb (zp_pne hb ha ht.1) x1 x2 x3 x4 x5
theorem zDt_o {P : Nat → Option Nat} {a b t i : Nat} {v : Int} {G : Nat → Nat → Int} (hT : zDt P a G) (ha : P a = some 92) (hb : P b = some t) (ht : t ≠ 92) : zDt P a (zp_set G b i v) := by
  obtain ⟨b12, b24, b25, b27, b28, ⟨⟨e12, p12⟩, ⟨e24, p24⟩, ⟨e25, p25⟩⟩, ⟨e27, p27⟩, ⟨e28, p28⟩⟩ := hT
  have hk : ∀ k, zp_set G b i v a k = G a k := fun k => zp_set_ne (Or.inl (zp_pne ha hb (fun e => ht e.symm)))
  exact ⟨b12, b24, b25, b27, b28, ⟨⟨(hk 12).trans e12, p12⟩, ⟨(hk 24).trans e24, p24⟩, ⟨(hk 25).trans e25, p25⟩⟩, ⟨(hk 27).trans e27, p27⟩, ⟨(hk 28).trans e28, p28⟩⟩
theorem zDt_f {P : Nat → Option Nat} {a k : Nat} {v : Int} {G : Nat → Nat → Int} (hT : zDt P a G) (hv : zDv k = false) : zDt P a (zp_set G a k v) := by
  obtain ⟨b12, b24, b25, b27, b28, ⟨⟨e12, p12⟩, ⟨e24, p24⟩, ⟨e25, p25⟩⟩, ⟨e27, p27⟩, ⟨e28, p28⟩⟩ := hT
  have hk : ∀ k', zDv k' = true → zp_set G a k v a k' = G a k' := fun k' hk' => zp_set_ne (Or.inr (fun e => by rw [e, hv] at hk'; cases hk'))
  exact ⟨b12, b24, b25, b27, b28, ⟨⟨(hk 12 rfl).trans e12, p12⟩, ⟨(hk 24 rfl).trans e24, p24⟩, ⟨(hk 25 rfl).trans e25, p25⟩⟩, ⟨(hk 27 rfl).trans e27, p27⟩, ⟨(hk 28 rfl).trans e28, p28⟩⟩
theorem zDt_fr {P : Nat → Option Nat} {a : Nat} {G G' : Nat → Nat → Int} {eff : List (Nat × Nat × Nat)} {ps : List Int} (hT : zDt P a G) (ha : P a = some 92) (hfr : zp_fr eff ps P G G') (he : (zp_nfb eff 92 12 && (zp_nfb eff 92 24 && (zp_nfb eff 92 25 && (zp_nfb eff 92 27 && zp_nfb eff 92 28)))) = true) : zDt P a G' := by
  simp only [Bool.and_eq_true] at he
  obtain ⟨f12, f24, f25, f27, f28⟩ := he
  obtain ⟨b12, b24, b25, b27, b28, ⟨⟨e12, p12⟩, ⟨e24, p24⟩, ⟨e25, p25⟩⟩, ⟨e27, p27⟩, ⟨e28, p28⟩⟩ := hT
  exact ⟨b12, b24, b25, b27, b28, ⟨⟨(zp_nf hfr ha f12).trans e12, p12⟩, ⟨(zp_nf hfr ha f24).trans e24, p24⟩, ⟨(zp_nf hfr ha f25).trans e25, p25⟩⟩, ⟨(zp_nf hfr ha f27).trans e27, p27⟩, ⟨(zp_nf hfr ha f28).trans e28, p28⟩⟩
/-- it can't go on -/
noncomputable def zBad (a : Nat) (G : Nat → Nat → Int) (B : Nat → Int) (ln : Nat) : Prop := ∃ (tk nl od : Nat) (pi : List (Int × Int)) (cd : yC), zD a G 1 B ln tk nl od pi cd
/-- a clause's eight numbers, those ahead of it as they were -/
noncomputable def zOw (G0 G : Nat → Nat → Int) (b n0 : Nat) (v : Nat → Int) : Prop := (∀ j, j < 8 * n0 → G b (2000 + j) = G0 b (2000 + j)) ∧ ∀ j, j < 8 → G b (2000 + (8 * n0 + j)) = v j
theorem zOw_s {G0 G : Nat → Nat → Int} {b n0 : Nat} {v : Nat → Int} (h : zOw G0 G b n0 v) (i : Nat) (x : Int) : zOw G0 (zp_set G b (2000 + (8 * n0 + i)) x) b n0 (yu v i x) := by
  refine ⟨fun j hj => (zp_set_ne (Or.inr (by omega))).trans (h.1 j hj), fun j hj => ?_⟩
  by_cases e : j = i
  · subst e
    rw [zp_set_self, yu_at]
  · rw [zp_set_ne (Or.inr (by omega)), yu_ne e]
    exact h.2 j hj
theorem zOw_fr {P : Nat → Option Nat} {G0 G G' : Nat → Nat → Int} {b n0 : Nat} {v : Nat → Int} {eff : List (Nat × Nat × Nat)} {ps : List Int} (h : zOw G0 G b n0 v) (hb : P b = some 90) (hfr : zp_fr eff ps P G G') (he : zp_ncb eff 90 = true) : zOw G0 G' b n0 v :=
  ⟨fun j hj => (zp_nc hfr hb he _).trans (h.1 j hj), fun j hj => (zp_nc hfr hb he _).trans (h.2 j hj)⟩
theorem zOw_rs {a : Nat} {G0 G G' : Nat → Nat → Int} {b n0 i : Nat} {v : Nat → Int} {e1 e2 : Int} (h : zOw G0 G b n0 v) (h1 : G a 56 = (b : Int)) (h2 : G' a 56 = (b : Int)) (ho : ∀ j, j ≠ 8 * n0 + i → j ≠ 8 * n0 + i + 1 → zv G' a 56 j = zv G a 56 j) (x1 : zv G' a 56 (8 * n0 + i) = e1) (x2 : zv G' a 56 (8 * n0 + i + 1) = e2) : zOw G0 G' b n0 (yu (yu v i e1) (i + 1) e2) := by
  have e : ∀ j, zv G' a 56 j = G' b (2000 + j) := fun j => zv_eq h2 j
  have f : ∀ j, zv G a 56 j = G b (2000 + j) := fun j => zv_eq h1 j
  refine ⟨fun j hj => ?_, fun j hj => ?_⟩
  · rw [← e, ho j (by omega) (by omega), f]
    exact h.1 j hj
  · by_cases j1 : j = i + 1
    · subst j1
      rw [yu_at, ← e]
      exact x2
    · rw [yu_ne j1]
      by_cases j2 : j = i
      · subst j2
        rw [yu_at, ← e]
        exact x1
      · rw [yu_ne j2, ← e, ho _ (by omega) (by omega), f]
        exact h.2 j hj
/-- a clause of orders in a row of eights -/
noncomputable def zOc (C op ar : Nat → Int) (N c : Nat) (K : yK) : Prop := (C (8 * c) = K.1 ∧ 0 ≤ K.1 ∧ K.1 ≤ 3) ∧ ((K.1 = 2 ∧ K.2.1 = none ∧ C (8 * c + 1) = 0 ∧ C (8 * c + 2) = 0) ∨ ∃ x, ¬ K.1 = 2 ∧ K.2.1 = some x ∧ zLp op ar N (C (8 * c + 1)) (C (8 * c + 2)) x) ∧ ((¬ K.1 = 1 ∧ K.2.2.1 = none ∧ C (8 * c + 3) = 0 ∧ C (8 * c + 4) = 0) ∨ ∃ x, K.1 = 1 ∧ K.2.2.1 = some x ∧ zLp op ar N (C (8 * c + 3)) (C (8 * c + 4)) x) ∧ (C (8 * c + 7) = K.2.2.2.1 ∧ 1 ≤ K.2.2.2.1 ∧ K.2.2.2.1 ≤ 20) ∧ ((K.2.2.2.2 = none ∧ C (8 * c + 5) = C (8 * c + 6) ∧ 0 ≤ C (8 * c + 5) ∧ C (8 * c + 5) ≤ (N : Int)) ∨ ∃ y, K.2.2.2.2 = some y ∧ zLp op ar N (C (8 * c + 5)) (C (8 * c + 6)) y ∧ yd_T y)
theorem zOc_c {C op ar C' op' ar' : Nat → Int} {N N' c c' : Nat} {K : yK} (h : zOc C op ar N c K) (hC : ∀ j, j < 8 → C' (8 * c' + j) = C (8 * c + j)) (hN : N ≤ N') (hc : ∀ j, j < N → op' j = op j ∧ ar' j = ar j) : zOc C' op' ar' N' c' K := by
  obtain ⟨h1, h2, h3, h4, h5⟩ := h
  have e0 : C' (8 * c') = C (8 * c) := hC 0 (by decide)
  have e1 := hC 1 (by decide)
  have e2 := hC 2 (by decide)
  have e3 := hC 3 (by decide)
  have e4 := hC 4 (by decide)
  have e5 := hC 5 (by decide)
  have e6 := hC 6 (by decide)
  have e7 := hC 7 (by decide)
  unfold zOc
  rw [e0, e1, e2, e3, e4, e5, e6, e7]
  refine ⟨h1, ?_, ?_, h4, ?_⟩
  · rcases h2 with h2 | ⟨x, g1, g2, g3⟩
    · exact Or.inl h2
    · exact Or.inr ⟨x, g1, g2, zLp_c g3 hN hc⟩
  · rcases h3 with h3 | ⟨x, g1, g2, g3⟩
    · exact Or.inl h3
    · exact Or.inr ⟨x, g1, g2, zLp_c g3 hN hc⟩
  · rcases h5 with ⟨g1, g2, g3, g4⟩ | ⟨y, g1, g2, g3⟩
    · exact Or.inl ⟨g1, g2, g3, by omega⟩
    · exact Or.inr ⟨y, g1, zLp_c g2 hN hc, g3⟩
noncomputable def zOs (C op ar : Nat → Int) (N : Nat) : Nat → List yK → Prop
  | _, [] => True
  | c, K :: r => zOc C op ar N c K ∧ zOs C op ar N (c + 1) r
theorem zOs_c {C op ar C' op' ar' : Nat → Int} {N N' : Nat} (hN : N ≤ N') (hc : ∀ j, j < N → op' j = op j ∧ ar' j = ar j) : ∀ {L : List yK} {c : Nat}, zOs C op ar N c L → (∀ j, 8 * c ≤ j → j < 8 * (c + L.length) → C' j = C j) → zOs C' op' ar' N' c L
  | [], _, _, _ => trivial
  | K :: r, c, h, hC => by
    have e : (K :: r).length = r.length + 1 := rfl
    exact ⟨zOc_c h.1 (fun j hj => hC _ (by omega) (by omega)) hN hc, zOs_c hN hc h.2 (fun j j1 j2 => hC j (by omega) (by omega))⟩
theorem zOs_app {C op ar : Nat → Int} {N : Nat} {K : yK} : ∀ {L : List yK} {c : Nat}, zOs C op ar N c L → zOc C op ar N (c + L.length) K → zOs C op ar N c (L ++ [K])
  | [], c, _, h => ⟨h, trivial⟩
  | K' :: r, c, h, hK => by
    have e : (K' :: r).length = r.length + 1 := rfl
    refine ⟨h.1, zOs_app h.2 ?_⟩
    rw [show c + 1 + r.length = c + (K' :: r).length by omega]
    exact hK
theorem zLp_F {cd cd' : yC} {k : Nat} {x : yD} {s e : Int} (h : yF cd.2.2 cd cd' k x) (hk : k ≤ 50) (hs : s = (cd.2.2 : Int)) (he : e = (cd'.2.2 : Int)) : zLp cd'.1 cd'.2.1 cd'.2.2 s e x := by
  obtain ⟨h1, f, h2⟩ := h
  exact ⟨cd.2.2, cd'.2.2, k, f, hs, he, Nat.le_refl _, hk, h2⟩
/-- a clause of orders from a place on -/
noncomputable def yo_4 (so : Nat → Nat) (wo : Nat → Int) (nx : Nat → Nat) (lf : Nat → Nat ⊕ (Nat × Int × Int)) (h : Int) (x y : Option yD) (m : Int) (p3 n2 : Nat) (s : Nat ⊕ (Nat × Nat × yK)) : Prop := ∃ z, yt_if so wo nx lf p3 n2 z ∧
          ((∃ q, z = Sum.inl q ∧ s = Sum.inl q) ∨ ∃ p4 n4 e, z = Sum.inr (p4, n4, e) ∧ s = Sum.inr (p4, n4, (h, x, y, m, e)))
noncomputable def yo_3 (so : Nat → Nat) (wo : Nat → Int) (nx : Nat → Nat) (lf : Nat → Nat ⊕ (Nat × Int × Int)) (h : Int) (x y : Option yD) (p2 n2 : Nat) (s : Nat ⊕ (Nat × Nat × yK)) : Prop := ∃ t, yt_ti so wo nx p2 t ∧
        ((∃ q, t = Sum.inl q ∧ s = Sum.inl q) ∨ ∃ p3 m, t = Sum.inr (p3, m) ∧ yo_4 so wo nx lf h x y m p3 n2 s)
noncomputable def yo_2 (so : Nat → Nat) (wo : Nat → Int) (nx : Nat → Nat) (lf : Nat → Nat ⊕ (Nat × Int × Int)) (h : Int) (x : Option yD) (p1 n1 : Nat) (s : Nat ⊕ (Nat × Nat × yK)) : Prop := ∃ v, (if h = 1 then (if yr_w so wo 89 p1 = true then yt_su so wo nx lf (nx p1) n1 v else v = Sum.inl p1) else v = Sum.inr (p1, n1, none)) ∧
      ((∃ q, v = Sum.inl q ∧ s = Sum.inl q) ∨ ∃ p2 n2 y, v = Sum.inr (p2, n2, y) ∧ yo_3 so wo nx lf h x y p2 n2 s)
theorem yo_bad {so : Nat → Nat} {wo : Nat → Int} {nx : Nat → Nat} {lf : Nat → Nat ⊕ (Nat × Int × Int)} {p n q : Nat} (h : ¬ yt_ho so wo p = -1) (hu : if yt_ho so wo p = 2 then (Sum.inl q : Nat ⊕ (Nat × Nat × Option yD)) = Sum.inr (nx p, n, none) else yt_su so wo nx lf (nx p) n (Sum.inl q)) : yt_co so wo nx lf p n (Sum.inl q) := by
  unfold yt_co
  rw [if_neg h]
  exact ⟨_, hu, Or.inl ⟨q, rfl, rfl⟩⟩
theorem yo_go {so : Nat → Nat} {wo : Nat → Int} {nx : Nat → Nat} {lf : Nat → Nat ⊕ (Nat × Int × Int)} {p n p1 n1 : Nat} {x : Option yD} {s : Nat ⊕ (Nat × Nat × yK)} (h : ¬ yt_ho so wo p = -1) (hu : if yt_ho so wo p = 2 then (Sum.inr (p1, n1, x) : Nat ⊕ (Nat × Nat × Option yD)) = Sum.inr (nx p, n, none) else yt_su so wo nx lf (nx p) n (Sum.inr (p1, n1, x))) (hs : yo_2 so wo nx lf (yt_ho so wo p) x p1 n1 s) : yt_co so wo nx lf p n s := by
  unfold yt_co
  rw [if_neg h]
  exact ⟨_, hu, Or.inr ⟨p1, n1, x, rfl, hs⟩⟩
theorem zO_hr (so : Nat → Nat) (wo : Nat → Int) (p : Nat) : yt_ho so wo p = -1 ∨ (0 ≤ yt_ho so wo p ∧ yt_ho so wo p ≤ 3 ∧ so p = 1) := by
  unfold yt_ho
  repeat' split
  · exact Or.inr ⟨by decide, by decide, (yr_w_i.mp (by assumption)).1⟩
  · exact Or.inr ⟨by decide, by decide, (yr_w_i.mp (by assumption)).1⟩
  · exact Or.inr ⟨by decide, by decide, (yr_w_i.mp (by assumption)).1⟩
  · exact Or.inr ⟨by decide, by decide, (yr_w_i.mp (by assumption)).1⟩
  · exact Or.inl rfl
/-- what comes of a clause of orders -/
noncomputable def zDrd (a : Nat) (G G' : Nat → Nat → Int) (B : Nat → Int) (ln tk nl n0 : Nat) (cd : yC) : Prop :=
  (n0 = 12 → zBad a G' B ln ∧ G' a 18 = (zy_fr B ln tk : Int)) ∧
  (n0 < 12 → ∃ s, yt_co (zy_so B ln) (zy_wo B ln) (zy_to B ln) (ylf true B ln) tk nl s ∧ ((∃ q, s = Sum.inl q ∧ zBad a G' B ln ∧ G' a 18 = (zy_fr B ln q : Int)) ∨ ∃ (p2 n2 : Nat) (K : yK) (od : Nat) (pi : List (Int × Int)) (cd' : yC), s = Sum.inr (p2, n2, K) ∧ zD a G' 0 B ln p2 n2 od pi cd' ∧ n2 ≤ 50 ∧ cd'.2.2 ≤ zy_fr B ln p2 ∧ cd.2.2 ≤ cd'.2.2 ∧ (∀ j, j < cd.2.2 → cd'.1 j = cd.1 j ∧ cd'.2.1 j = cd.2.1 j) ∧ G' a 21 = ((n0 + 1 : Nat) : Int) ∧ (∀ j, j < 8 * n0 → zv G' a 56 j = zv G a 56 j) ∧ zOc (zv G' a 56) cd'.1 cd'.2.1 cd'.2.2 n0 K ∧ zy_fr B ln tk < zy_fr B ln p2))
noncomputable def zφD_rb (i : Nat) (B : Nat → Int) (ln : Nat) : (Nat → Option Nat) → (Nat → Nat → Int) → List Int → Prop := fun P G ps => ps.getD 1 0 = (i : Int) ∧ zBad (zp_0 ps) G B ln ∧ zDt P (zp_0 ps) G
noncomputable def zψD_rb (i : Nat) (B : Nat → Int) (ln : Nat) : (Nat → Option Nat) → (Nat → Nat → Int) → List Int → (Nat → Option Nat) → (Nat → Nat → Int) → Int → Prop := fun P G ps P' G' rn => P' = P ∧ zBad (zp_0 ps) G' B ln ∧ G' (zp_0 ps) 18 = G (zp_0 ps) 18
set_option maxHeartbeats 8000000 in
theorem zY_rb {l : Launch} {w : zk_W} (hW : zh_W w) (i : Nat) (B : Nat → Int) (ln : Nat) : zk_metX l w zt_dv zt_TB zK_rs (zp_A (zφD_rb i B ln)) (zp_B (zψD_rb i B ln)) ∧ zk_cok w zt_TB zK_rs := by
  refine zp_meth hW (pl := 2015) rfl (by decide +kernel) (fun p e R s m args below meth c Q u hx hb hE hQ hU5 heff hnL hok hφ => ?_)
  have hw := hW.1
  obtain ⟨p0, p1, hps, k0, k1⟩ := zp_ps2 hok
  obtain ⟨a, rfl, hp⟩ := zp_this k0
  have hrm : zk_Kr (zk_ev (zp_E zK_rs)) = zk_Kr zK_rs := rfl
  rw [hps] at hφ ⊢
  have hi1 := zp_int k1
  have hφ : p1 = (i : Int) ∧ zBad a (zp_n u.2.1) B ln ∧ zDt u.1 a (zp_n u.2.1) := hφ
  obtain ⟨rfl, hbd, hT⟩ := hφ
  obtain ⟨tk, nl, od, pi, cd, hD⟩ := hbd
  have hD2 := hD
  obtain ⟨⟨d13, dl, dt, d12, dB⟩, ⟨d14, d15, d16, d17⟩, ⟨d19, d18⟩, ⟨d23, d24, d25⟩, d26, ⟨d29, dp⟩, d30⟩ := hD2
  show zp_J p l e R s m args below meth c Q w u [] 0 [(0, 2, (a : Int)), (1, 0, (i : Int))] [] u.1 (zp_n u.2.1)
  refine zp_kn (k := 56) (a := a) hw (show zp_fd 92 56 = some (12, 2, 90, 0, 0) from rfl) rfl hp (fun hk56 => ?_)
  obtain ⟨b56, hb56, hq56⟩ := zp_this hk56
  refine zp_kn (k := 23) (a := a) (G := (zp_n u.2.1)) hw (show zp_fd 92 23 = some (12, 0, 0, 0, 400) from rfl) rfl hp (fun hknc => ?_)
  obtain ⟨nc, hnc⟩ := zp_nat (zp_int hknc).1
  have hncb := zp_int hknc
  rw [hnc] at hncb
  refine zp_load (pc := 0) hx hb (zd_X12_readSum (0, .aload_n 0, 1, 0, []) (List.mem_of_getElem? (i := 0) rfl)) rfl (j := 0) rfl ?_
  refine zp_getf (n := (b56 : Int)) (pc := 1) hx hb hE hw (zd_X12_readSum (1, .getfield 149, 3, 0, []) (List.mem_of_getElem? (i := 1) rfl)) (j := 74) rfl rfl rfl hp hb56 ?_
  refine zp_load (pc := 4) hx hb (zd_X12_readSum (4, .iload_n 1, 1, 0, []) (List.mem_of_getElem? (i := 2) rfl)) rfl (j := 1) rfl ?_
  refine zp_load (pc := 5) hx hb (zd_X12_readSum (5, .aload_n 0, 1, 0, []) (List.mem_of_getElem? (i := 3) rfl)) rfl (j := 0) rfl ?_
  refine zp_getf (n := (nc : Int)) (pc := 6) hx hb hE hw (zd_X12_readSum (6, .getfield 279, 3, 0, []) (List.mem_of_getElem? (i := 4) rfl)) (j := 41) rfl rfl rfl hp hnc ?_
  refine zp_iast (j := i) (pc := 9) hx hb hw heff (zd_X12_readSum (9, .iastore, 1, 0, []) (List.mem_of_getElem? (i := 5) rfl)) (show zp_ia 1 90 = some (96, 0, 0, (-2147483648), 2147483647) from rfl) hq56 (by omega) (by omega) (zp_o0 (by omega) (by omega) (by omega) (by omega)) rfl ?_
  refine zp_load (pc := 10) hx hb (zd_X12_readSum (10, .aload_n 0, 1, 0, []) (List.mem_of_getElem? (i := 6) rfl)) rfl (j := 0) rfl ?_
  refine zp_getf (n := 1) (pc := 11) hx hb hE hw (zd_X12_readSum (11, .getfield 240, 3, 0, []) (List.mem_of_getElem? (i := 7) rfl)) (j := 37) rfl rfl rfl hp ((zp_set_ne (Or.inl (zp_pne hp hq56 (by decide)))).trans (d19)) ?_
  refine zp_if (pc := 14) (tgt := 22) hx hb (zd_X12_readSum (14, .ifCond .ne 8, 3, 0, []) (List.mem_of_getElem? (i := 8) rfl)) rfl (fun (hcq21 : ¬ 1 = 0) => ?_) (fun (hcq21 : ¬ (¬ 1 = 0)) => ?_)
  · refine zp_load (pc := 22) hx hb (zd_X12_readSum (22, .aload_n 0, 1, 0, []) (List.mem_of_getElem? (i := 12) rfl)) rfl (j := 0) rfl ?_
    refine zp_getf (n := (b56 : Int)) (pc := 23) hx hb hE hw (zd_X12_readSum (23, .getfield 149, 3, 0, []) (List.mem_of_getElem? (i := 13) rfl)) (j := 74) rfl rfl rfl hp ((zp_set_ne (Or.inl (zp_pne hp hq56 (by decide)))).trans (hb56)) ?_
    refine zp_load (pc := 26) hx hb (zd_X12_readSum (26, .iload_n 1, 1, 0, []) (List.mem_of_getElem? (i := 14) rfl)) rfl (j := 1) rfl ?_
    refine zp_const (pc := 27) hx hb (zd_X12_readSum (27, .iconst 1, 1, 0, []) (List.mem_of_getElem? (i := 15) rfl)) rfl rfl ?_
    refine zp_add (n := ((i : Int) + 1)) (pc := 28) hx hb (zd_X12_readSum (28, .iadd, 1, 0, []) (List.mem_of_getElem? (i := 16) rfl)) (by omega) (zp_r0 (by omega) (by omega)) ?_
    refine zp_load (pc := 29) hx hb (zd_X12_readSum (29, .aload_n 0, 1, 0, []) (List.mem_of_getElem? (i := 17) rfl)) rfl (j := 0) rfl ?_
    refine zp_getf (n := (nc : Int)) (pc := 30) hx hb hE hw (zd_X12_readSum (30, .getfield 279, 3, 0, []) (List.mem_of_getElem? (i := 18) rfl)) (j := 41) rfl rfl rfl hp ((zp_set_ne (Or.inl (zp_pne hp hq56 (by decide)))).trans (hnc)) ?_
    refine zp_iast (j := (i + 1)) (pc := 33) hx hb hw heff (zd_X12_readSum (33, .iastore, 1, 0, []) (List.mem_of_getElem? (i := 19) rfl)) (show zp_ia 1 90 = some (96, 0, 0, (-2147483648), 2147483647) from rfl) hq56 (by omega) (by omega) (zp_o0 (by omega) (by omega) (by omega) (by omega)) rfl ?_
    refine zp_vret (pc := 34) hx hb hE hQ hU5 rfl (by decide) (zd_X12_readSum (34, .return_, 1, 0, []) (List.mem_of_getElem? (i := 20) rfl)) (j := 0) rfl ?_
    rw [hps]
    exact ⟨rfl, ⟨_, _, _, _, _, (zD_o (t := 90) (zD_o (t := 90) hD hT hp hq56 (by decide)) (zDt_o (t := 90) hT hp hq56 (by decide)) hp hq56 (by decide))⟩, ((zp_set_ne (Or.inl (zp_pne hp hq56 (by decide)))).trans ((zp_set_ne (Or.inl (zp_pne hp hq56 (by decide))))))⟩
  · exfalso
    omega
noncomputable def zφD_rs (i : Nat) (B : Nat → Int) (ln tk nl od : Nat) (pi : List (Int × Int)) (cd : yC) : (Nat → Option Nat) → (Nat → Nat → Int) → List Int → Prop := fun P G ps => ps.getD 1 0 = (i : Int) ∧ zD (zp_0 ps) G 0 B ln tk nl od pi cd ∧ nl ≤ 50 ∧ cd.2.2 ≤ zy_fr B ln tk ∧ zDw P true (zp_0 ps) G ∧ zDt P (zp_0 ps) G
noncomputable def zψD_rs (i : Nat) (B : Nat → Int) (ln tk nl od : Nat) (pi : List (Int × Int)) (cd : yC) : (Nat → Option Nat) → (Nat → Nat → Int) → List Int → (Nat → Option Nat) → (Nat → Nat → Int) → Int → Prop := fun P G ps P' G' rn => P' = P ∧ ∃ s, yt_su (zy_so B ln) (zy_wo B ln) (zy_to B ln) (ylf true B ln) tk nl s ∧ ((∃ q, s = Sum.inl q ∧ zBad (zp_0 ps) G' B ln ∧ G' (zp_0 ps) 18 = (zy_fr B ln q : Int)) ∨ ∃ (p1 n1 : Nat) (y : yD) (k od : Nat) (cd' : yC), s = Sum.inr (p1, n1, some y) ∧ n1 ≤ 50 ∧ zD (zp_0 ps) G' 0 B ln p1 n1 od [] cd' ∧ yF cd.2.2 cd cd' k y ∧ k ≤ 50 ∧ cd'.2.2 ≤ zy_fr B ln p1 ∧ zy_fr B ln tk ≤ zy_fr B ln p1 ∧ (∀ j, j ≠ i → j ≠ i + 1 → zv G' (zp_0 ps) 56 j = zv G (zp_0 ps) 56 j) ∧ zv G' (zp_0 ps) 56 i = (cd.2.2 : Int) ∧ zv G' (zp_0 ps) 56 (i + 1) = (cd'.2.2 : Int))
set_option maxHeartbeats 8000000 in
theorem zY_rs {l : Launch} {w : zk_W} (hW : zh_W w) (i : Nat) (B : Nat → Int) (ln tk nl od : Nat) (pi : List (Int × Int)) (cd : yC) : zk_metX l w zt_dv zt_TB zK_rs (zp_A (zφD_rs i B ln tk nl od pi cd)) (zp_B (zψD_rs i B ln tk nl od pi cd)) ∧ zk_cok w zt_TB zK_rs := by
  refine zp_meth hW (pl := 2015) rfl (by decide +kernel) (fun p e R s m args below meth c Q u hx hb hE hQ hU5 heff hnL hok hφ => ?_)
  have hw := hW.1
  obtain ⟨p0, p1, hps, k0, k1⟩ := zp_ps2 hok
  obtain ⟨a, rfl, hp⟩ := zp_this k0
  have hrm : zk_Kr (zk_ev (zp_E zK_rs)) = zk_Kr zK_rs := rfl
  rw [hps] at hφ ⊢
  have hi1 := zp_int k1
  have hφ : p1 = (i : Int) ∧ zD a (zp_n u.2.1) 0 B ln tk nl od pi cd ∧ nl ≤ 50 ∧ cd.2.2 ≤ zy_fr B ln tk ∧ zDw u.1 true a (zp_n u.2.1) ∧ zDt u.1 a (zp_n u.2.1) := hφ
  obtain ⟨rfl, hD, hn5, hc5, hw0, hT⟩ := hφ
  have hD2 := hD
  obtain ⟨⟨d13, dl, dt, d12, dB⟩, ⟨d14, d15, d16, d17⟩, ⟨d19, d18⟩, ⟨d23, d24, d25⟩, d26, ⟨d29, dp⟩, d30⟩ := hD2
  show zp_J p l e R s m args below meth c Q w u [] 0 [(0, 2, (a : Int)), (1, 0, (i : Int))] [] u.1 (zp_n u.2.1)
  refine zp_kn (k := 56) (a := a) hw (show zp_fd 92 56 = some (12, 2, 90, 0, 0) from rfl) rfl hp (fun hk56 => ?_)
  obtain ⟨b56, hb56, hq56⟩ := zp_this hk56
  refine zp_kn (k := 23) (a := a) (G := (zp_n u.2.1)) hw (show zp_fd 92 23 = some (12, 0, 0, 0, 400) from rfl) rfl hp (fun hknc => ?_)
  obtain ⟨nc, hnc⟩ := zp_nat (zp_int hknc).1
  have hncb := zp_int hknc
  rw [hnc] at hncb
  refine zp_load (pc := 0) hx hb (zd_X12_readSum (0, .aload_n 0, 1, 0, []) (List.mem_of_getElem? (i := 0) rfl)) rfl (j := 0) rfl ?_
  refine zp_getf (n := (b56 : Int)) (pc := 1) hx hb hE hw (zd_X12_readSum (1, .getfield 149, 3, 0, []) (List.mem_of_getElem? (i := 1) rfl)) (j := 74) rfl rfl rfl hp hb56 ?_
  refine zp_load (pc := 4) hx hb (zd_X12_readSum (4, .iload_n 1, 1, 0, []) (List.mem_of_getElem? (i := 2) rfl)) rfl (j := 1) rfl ?_
  refine zp_load (pc := 5) hx hb (zd_X12_readSum (5, .aload_n 0, 1, 0, []) (List.mem_of_getElem? (i := 3) rfl)) rfl (j := 0) rfl ?_
  refine zp_getf (n := (nc : Int)) (pc := 6) hx hb hE hw (zd_X12_readSum (6, .getfield 279, 3, 0, []) (List.mem_of_getElem? (i := 4) rfl)) (j := 41) rfl rfl rfl hp hnc ?_
  refine zp_iast (j := i) (pc := 9) hx hb hw heff (zd_X12_readSum (9, .iastore, 1, 0, []) (List.mem_of_getElem? (i := 5) rfl)) (show zp_ia 1 90 = some (96, 0, 0, (-2147483648), 2147483647) from rfl) hq56 (by omega) (by omega) (zp_o0 (by omega) (by omega) (by omega) (by omega)) rfl ?_
  refine zp_load (pc := 10) hx hb (zd_X12_readSum (10, .aload_n 0, 1, 0, []) (List.mem_of_getElem? (i := 6) rfl)) rfl (j := 0) rfl ?_
  refine zp_getf (n := 0) (pc := 11) hx hb hE hw (zd_X12_readSum (11, .getfield 240, 3, 0, []) (List.mem_of_getElem? (i := 7) rfl)) (j := 37) rfl rfl rfl hp ((zp_set_ne (Or.inl (zp_pne hp hq56 (by decide)))).trans (d19)) ?_
  refine zp_if (pc := 14) (tgt := 22) hx hb (zd_X12_readSum (14, .ifCond .ne 8, 3, 0, []) (List.mem_of_getElem? (i := 8) rfl)) rfl (fun (hcq22 : ¬ 0 = 0) => ?_) (fun (hcq22 : ¬ (¬ 0 = 0)) => ?_)
  · exfalso
    omega
  · refine zp_load (pc := 17) hx hb (zd_X12_readSum (17, .aload_n 0, 1, 0, []) (List.mem_of_getElem? (i := 9) rfl)) rfl (j := 0) rfl ?_
    refine zp_const (pc := 18) hx hb (zd_X12_readSum (18, .iconst 0, 1, 0, []) (List.mem_of_getElem? (i := 10) rfl)) rfl rfl ?_
    have hste : zD a (zp_set (zp_n u.2.1) b56 (2000 + i) (nc : Int)) 0 B ln tk nl od pi cd := (zD_o (t := 90) hD hT hp hq56 (by decide))
    have hTe : zDt u.1 a (zp_set (zp_n u.2.1) b56 (2000 + i) (nc : Int)) := (zDt_o (t := 90) hT hp hq56 (by decide))
    have hwte : zDw u.1 true a (zp_set (zp_n u.2.1) b56 (2000 + i) (nc : Int)) := (zDw_o (t := 90) hw0 (zp_pne hq56 hp (by decide)) (by decide) hq56)
    refine zp_call (pc := 19) (how := 0) (idx := 374) (mi := 218) (S := []) hx hb hE hw heff hrm (zY_ex hW true B ln tk nl od pi cd) rfl (j := 20) rfl rfl (by decide +kernel) (zd_X12_readSum (19, .invokevirtual 374, 3, 0, []) (List.mem_of_getElem? (i := 11) rfl)) [(a : Int), 0] rfl ⟨zp_o2 hp, zp_o0 (by decide) (by decide) (by decide) (by decide), trivial⟩ (Nat.le_of_ble_eq_true rfl) ⟨hste, hn5, hc5, hwte⟩ (fun al hal rne Pe Ge hexte hfre hoke hcse hpsie => ?_)
    obtain rfl := List.mem_singleton.mp hal
    obtain ⟨rfl, hte⟩ := hpsie
    have hte : zDe_ true a Ge B ln tk nl cd (decide ((0 : Int) = 1)) := hte
    have hTf := zDt_fr hTe hp hfre rfl
    have hg56 : Ge a 56 = (b56 : Int) := ((zp_nf hfre hp rfl).trans ((zp_set_ne (Or.inl (zp_pne hp hq56 (by decide)))).trans (hb56)))
    refine zp_kn (k := 23) (a := a) (G := Ge) hw (show zp_fd 92 23 = some (12, 0, 0, 0, 400) from rfl) rfl hp (fun hknc1 => ?_)
    obtain ⟨nc1, hnc1⟩ := zp_nat (zp_int hknc1).1
    have hnc1b := zp_int hknc1
    rw [hnc1] at hnc1b
    obtain ⟨se, hse1, hse2⟩ := hte
    have hse1 : yZ (zy_so B ln) (zy_wo B ln) (zy_to B ln) (ylf true B ln) 3 0 nl tk yx0 se := hse1
    rcases hse2 with ⟨q9, hq9, ⟨tk9, nl9, od9, pi9, cd9, hB9⟩, h18⟩ | ⟨p1, n1, y1, kx, od1, cd1, hs9, hnn1, hn15, hD1, hF1, hc15, -⟩
    · subst hq9
      refine zp_load (pc := 22) hx hb (zd_X12_readSum (22, .aload_n 0, 1, 0, []) (List.mem_of_getElem? (i := 12) rfl)) rfl (j := 0) rfl ?_
      refine zp_getf (n := (b56 : Int)) (pc := 23) hx hb hE hw (zd_X12_readSum (23, .getfield 149, 3, 0, []) (List.mem_of_getElem? (i := 13) rfl)) (j := 74) rfl rfl rfl hp hg56 ?_
      refine zp_load (pc := 26) hx hb (zd_X12_readSum (26, .iload_n 1, 1, 0, []) (List.mem_of_getElem? (i := 14) rfl)) rfl (j := 1) rfl ?_
      refine zp_const (pc := 27) hx hb (zd_X12_readSum (27, .iconst 1, 1, 0, []) (List.mem_of_getElem? (i := 15) rfl)) rfl rfl ?_
      refine zp_add (n := ((i : Int) + 1)) (pc := 28) hx hb (zd_X12_readSum (28, .iadd, 1, 0, []) (List.mem_of_getElem? (i := 16) rfl)) (by omega) (zp_r0 (by omega) (by omega)) ?_
      refine zp_load (pc := 29) hx hb (zd_X12_readSum (29, .aload_n 0, 1, 0, []) (List.mem_of_getElem? (i := 17) rfl)) rfl (j := 0) rfl ?_
      refine zp_getf (n := (nc1 : Int)) (pc := 30) hx hb hE hw (zd_X12_readSum (30, .getfield 279, 3, 0, []) (List.mem_of_getElem? (i := 18) rfl)) (j := 41) rfl rfl rfl hp hnc1 ?_
      refine zp_iast (j := (i + 1)) (pc := 33) hx hb hw heff (zd_X12_readSum (33, .iastore, 1, 0, []) (List.mem_of_getElem? (i := 19) rfl)) (show zp_ia 1 90 = some (96, 0, 0, (-2147483648), 2147483647) from rfl) hq56 (by omega) (by omega) (zp_o0 (by omega) (by omega) (by omega) (by omega)) rfl ?_
      refine zp_vret (pc := 34) hx hb hE hQ hU5 rfl (by decide) (zd_X12_readSum (34, .return_, 1, 0, []) (List.mem_of_getElem? (i := 20) rfl)) (j := 0) rfl ?_
      rw [hps]
      exact ⟨rfl, Sum.inl q9, ⟨_, hse1, Or.inl ⟨q9, rfl, rfl⟩⟩, Or.inl ⟨q9, rfl, ⟨_, _, _, _, _, (zD_o (t := 90) hB9 hTf hp hq56 (by decide))⟩, (zp_set_ne (Or.inl (zp_pne hp hq56 (by decide)))).trans (h18)⟩⟩
    · subst hs9
      have hD12 := hD1
      obtain ⟨⟨y13, yl, yt, y12, yB⟩, ⟨y14, y15, y16, y17⟩, ⟨y19, y18⟩, ⟨y23, y24, y25⟩, y26, ⟨y29, yp⟩, y30⟩ := hD12
      refine zp_load (pc := 22) hx hb (zd_X12_readSum (22, .aload_n 0, 1, 0, []) (List.mem_of_getElem? (i := 12) rfl)) rfl (j := 0) rfl ?_
      refine zp_getf (n := (b56 : Int)) (pc := 23) hx hb hE hw (zd_X12_readSum (23, .getfield 149, 3, 0, []) (List.mem_of_getElem? (i := 13) rfl)) (j := 74) rfl rfl rfl hp hg56 ?_
      refine zp_load (pc := 26) hx hb (zd_X12_readSum (26, .iload_n 1, 1, 0, []) (List.mem_of_getElem? (i := 14) rfl)) rfl (j := 1) rfl ?_
      refine zp_const (pc := 27) hx hb (zd_X12_readSum (27, .iconst 1, 1, 0, []) (List.mem_of_getElem? (i := 15) rfl)) rfl rfl ?_
      refine zp_add (n := ((i : Int) + 1)) (pc := 28) hx hb (zd_X12_readSum (28, .iadd, 1, 0, []) (List.mem_of_getElem? (i := 16) rfl)) (by omega) (zp_r0 (by omega) (by omega)) ?_
      refine zp_load (pc := 29) hx hb (zd_X12_readSum (29, .aload_n 0, 1, 0, []) (List.mem_of_getElem? (i := 17) rfl)) rfl (j := 0) rfl ?_
      refine zp_getf (n := (nc1 : Int)) (pc := 30) hx hb hE hw (zd_X12_readSum (30, .getfield 279, 3, 0, []) (List.mem_of_getElem? (i := 18) rfl)) (j := 41) rfl rfl rfl hp hnc1 ?_
      refine zp_iast (j := (i + 1)) (pc := 33) hx hb hw heff (zd_X12_readSum (33, .iastore, 1, 0, []) (List.mem_of_getElem? (i := 19) rfl)) (show zp_ia 1 90 = some (96, 0, 0, (-2147483648), 2147483647) from rfl) hq56 (by omega) (by omega) (zp_o0 (by omega) (by omega) (by omega) (by omega)) rfl ?_
      refine zp_vret (pc := 34) hx hb hE hQ hU5 rfl (by decide) (zd_X12_readSum (34, .return_, 1, 0, []) (List.mem_of_getElem? (i := 20) rfl)) (j := 0) rfl ?_
      rw [hps]
      refine ⟨rfl, Sum.inr (p1, n1, some y1), ⟨_, hse1, Or.inr ⟨p1, n1, y1, rfl, rfl⟩⟩, Or.inr ⟨p1, n1, y1, kx, od1, cd1, rfl, hn15, (zD_o (t := 90) hD1 hTf hp hq56 (by decide)), hF1, by omega, hc15, yZ_fr true dt hse1 (Or.inl rfl), ?_, ?_, ?_⟩⟩
      · intro j j1 j2
        show zv (zp_set Ge b56 (2000 + (i + 1)) (nc1 : Int)) a 56 j = _
        exact (zv_eq (show (zp_set Ge b56 (2000 + (i + 1)) (nc1 : Int)) a 56 = (b56 : Int) from ((zp_set_ne (Or.inl (zp_pne hp hq56 (by decide)))).trans (hg56))) j).trans ((((zp_set_ne (Or.inr (by omega))).trans (((zp_nc hfre hq56 rfl (2000 + j)).trans ((zp_set_ne (Or.inr (by omega)))))))).trans (zv_eq hb56 j).symm)
      · show zv (zp_set Ge b56 (2000 + (i + 1)) (nc1 : Int)) a 56 i = _
        rw [zv_eq (show (zp_set Ge b56 (2000 + (i + 1)) (nc1 : Int)) a 56 = (b56 : Int) from ((zp_set_ne (Or.inl (zp_pne hp hq56 (by decide)))).trans (hg56)))]
        exact (((zp_set_ne (Or.inr (by omega))).trans (((zp_nc hfre hq56 rfl (2000 + i)).trans zp_set_self)))).trans (by omega)
      · show zv (zp_set Ge b56 (2000 + (i + 1)) (nc1 : Int)) a 56 (i + 1) = _
        rw [zv_eq (show (zp_set Ge b56 (2000 + (i + 1)) (nc1 : Int)) a 56 = (b56 : Int) from ((zp_set_ne (Or.inl (zp_pne hp hq56 (by decide)))).trans (hg56)))]
        exact (zp_set_self).trans (by omega)
noncomputable def zφD_ro (n0 : Nat) (B : Nat → Int) (ln tk nl od : Nat) (pi : List (Int × Int)) (cd : yC) : (Nat → Option Nat) → (Nat → Nat → Int) → List Int → Prop := fun P G ps => zD (zp_0 ps) G 0 B ln tk nl od pi cd ∧ nl ≤ 50 ∧ cd.2.2 ≤ zy_fr B ln tk ∧ zDw P true (zp_0 ps) G ∧ zDt P (zp_0 ps) G ∧ G (zp_0 ps) 21 = (n0 : Int) ∧ n0 ≤ 12
noncomputable def zψD_ro (n0 : Nat) (B : Nat → Int) (ln tk nl od : Nat) (pi : List (Int × Int)) (cd : yC) : (Nat → Option Nat) → (Nat → Nat → Int) → List Int → (Nat → Option Nat) → (Nat → Nat → Int) → Int → Prop := fun P G ps P' G' rn => P' = P ∧ zDrd (zp_0 ps) G G' B ln tk nl n0 cd
set_option maxHeartbeats 8000000 in
theorem zY_ro {l : Launch} {w : zk_W} (hW : zh_W w) (n0 : Nat) (B : Nat → Int) (ln tk nl od : Nat) (pi : List (Int × Int)) (cd : yC) : zk_metX l w zt_dv zt_TB zK_ro (zp_A (zφD_ro n0 B ln tk nl od pi cd)) (zp_B (zψD_ro n0 B ln tk nl od pi cd)) ∧ zk_cok w zt_TB zK_ro := by
  refine zp_meth hW (pl := 2007) rfl (by decide +kernel) (fun p e R s m args below meth c Q u hx hb hE hQ hU5 heff hnL hok hφ => ?_)
  have hw := hW.1
  obtain ⟨p0, hps, k0⟩ := zp_ps1 hok
  obtain ⟨a, rfl, hp⟩ := zp_this k0
  have hrm : zk_Kr (zk_ev (zp_E zK_ro)) = zk_Kr zK_ro := rfl
  rw [hps] at hφ ⊢
  have hφ : zD a (zp_n u.2.1) 0 B ln tk nl od pi cd ∧ nl ≤ 50 ∧ cd.2.2 ≤ zy_fr B ln tk ∧ zDw u.1 true a (zp_n u.2.1) ∧ zDt u.1 a (zp_n u.2.1) ∧ (zp_n u.2.1) a 21 = (n0 : Int) ∧ n0 ≤ 12 := hφ
  obtain ⟨hD, hn5, hc5, hw0, hT, h21, hn12⟩ := hφ
  have hD2 := hD
  obtain ⟨⟨d13, dl, dt, d12, dB⟩, ⟨d14, d15, d16, d17⟩, ⟨d19, d18⟩, ⟨d23, d24, d25⟩, d26, ⟨d29, dp⟩, d30⟩ := hD2
  show zp_J p l e R s m args below meth c Q w u [] 0 [(0, 2, (a : Int))] [] u.1 (zp_n u.2.1)
  refine zp_kn (k := 56) (a := a) hw (show zp_fd 92 56 = some (12, 2, 90, 0, 0) from rfl) rfl hp (fun hk56 => ?_)
  obtain ⟨b56, hb56, hq56⟩ := zp_this hk56
  have hA56 : zp_n u.2.1 a 56 = (b56 : Int) := hb56
  obtain ⟨so, hso⟩ : ∃ x : Nat, x = zy_so B ln tk := ⟨_, rfl⟩
  rw [← hso] at d16
  obtain ⟨wv, hwv⟩ : ∃ x : Int, x = zy_wo B ln tk := ⟨_, rfl⟩
  rw [← hwv] at d17
  have hft := zy_nx (B := B) dt
  have hfr2 := zy_fr_le (B := B) hft.1
  have hb265 : ∀ (q : Nat) (k3 its : Int) (G : Nat → Nat → Int), n0 < 12 → 0 ≤ its ∧ its ≤ 3 → zBad a G B ln → G a 18 = (zy_fr B ln q : Int) → zDt u.1 a G → G a 56 = (b56 : Int) → yt_co (zy_so B ln) (zy_wo B ln) (zy_to B ln) (ylf true B ln) tk nl (Sum.inl q) → zp_J p l e R s m args below meth c Q w u [] 265 [(3, 0, k3), (2, 0, (8 * (n0 : Int))), (1, 0, its), (0, 2, (a : Int))] [] u.1 G := by
    intro q k3 its G hn0 hir hbd g18 hTG g56 hres
    have hbd0 := hbd
    obtain ⟨tk9, nl9, od9, pi9, cd9, hD9⟩ := hbd
    have hD92 := hD9
    obtain ⟨⟨x13, xl, xt, x12, xB⟩, ⟨x14, x15, x16, x17⟩, ⟨x19, x18⟩, ⟨x23, x24, x25⟩, x26, ⟨x29, xp⟩, x30⟩ := hD92
    refine zp_kn (k := 23) (a := a) (G := G) hw (show zp_fd 92 23 = some (12, 0, 0, 0, 400) from rfl) rfl hp (fun hknc9 => ?_)
    obtain ⟨nc9, hnc9⟩ := zp_nat (zp_int hknc9).1
    have hnc9b := zp_int hknc9
    rw [hnc9] at hnc9b
    refine zp_load (pc := 265) hx hb (zd_X12_readOrder (265, .aload_n 0, 1, 0, []) (List.mem_of_getElem? (i := 142) rfl)) rfl (j := 3) rfl ?_
    refine zp_getf (n := (b56 : Int)) (pc := 266) hx hb hE hw (zd_X12_readOrder (266, .getfield 149, 3, 0, []) (List.mem_of_getElem? (i := 143) rfl)) (j := 74) rfl rfl rfl hp g56 ?_
    refine zp_load (pc := 269) hx hb (zd_X12_readOrder (269, .iload_n 2, 1, 0, []) (List.mem_of_getElem? (i := 144) rfl)) rfl (j := 1) rfl ?_
    refine zp_const (pc := 270) hx hb (zd_X12_readOrder (270, .bipush 6, 2, 0, []) (List.mem_of_getElem? (i := 145) rfl)) rfl rfl ?_
    refine zp_add (n := (8 * (n0 : Int) + 6)) (pc := 272) hx hb (zd_X12_readOrder (272, .iadd, 1, 0, []) (List.mem_of_getElem? (i := 146) rfl)) (by omega) (zp_r0 (by omega) (by omega)) ?_
    refine zp_load (pc := 273) hx hb (zd_X12_readOrder (273, .aload_n 0, 1, 0, []) (List.mem_of_getElem? (i := 147) rfl)) rfl (j := 3) rfl ?_
    refine zp_getf (n := (nc9 : Int)) (pc := 274) hx hb hE hw (zd_X12_readOrder (274, .getfield 279, 3, 0, []) (List.mem_of_getElem? (i := 148) rfl)) (j := 41) rfl rfl rfl hp hnc9 ?_
    refine zp_iast (j := (8 * n0 + 6)) (pc := 277) hx hb hw heff (zd_X12_readOrder (277, .iastore, 1, 0, []) (List.mem_of_getElem? (i := 149) rfl)) (show zp_ia 1 90 = some (96, 0, 0, (-2147483648), 2147483647) from rfl) hq56 (by omega) (by omega) (zp_o0 (by omega) (by omega) (by omega) (by omega)) rfl ?_
    refine zp_vret (pc := 278) hx hb hE hQ hU5 rfl (by decide) (zd_X12_readOrder (278, .return_, 1, 0, []) (List.mem_of_getElem? (i := 150) rfl)) (j := 0) rfl ?_
    rw [hps]
    refine ⟨rfl, fun z => by omega, fun _ => ⟨Sum.inl q, hres, Or.inl ⟨q, rfl, ⟨_, _, _, _, _, (zD_o (t := 90) hD9 hTG hp hq56 (by decide))⟩, ((zp_set_ne (Or.inl (zp_pne hp hq56 (by decide)))).trans (g18))⟩⟩⟩
  have hb227 : ∀ (q : Nat) (k3 its : Int) (G : Nat → Nat → Int), n0 < 12 → 0 ≤ its ∧ its ≤ 3 → zBad a G B ln → G a 18 = (zy_fr B ln q : Int) → zDt u.1 a G → G a 56 = (b56 : Int) → yt_co (zy_so B ln) (zy_wo B ln) (zy_to B ln) (ylf true B ln) tk nl (Sum.inl q) → zp_J p l e R s m args below meth c Q w u [] 227 [(3, 0, k3), (2, 0, (8 * (n0 : Int))), (1, 0, its), (0, 2, (a : Int))] [] u.1 G := by
    intro q k3 its G hn0 hir hbd g18 hTG g56 hres
    have hbd0 := hbd
    obtain ⟨tk9, nl9, od9, pi9, cd9, hD9⟩ := hbd
    have hD92 := hD9
    obtain ⟨⟨x13, xl, xt, x12, xB⟩, ⟨x14, x15, x16, x17⟩, ⟨x19, x18⟩, ⟨x23, x24, x25⟩, x26, ⟨x29, xp⟩, x30⟩ := hD92
    refine zp_kn (k := 23) (a := a) (G := G) hw (show zp_fd 92 23 = some (12, 0, 0, 0, 400) from rfl) rfl hp (fun hknc9 => ?_)
    obtain ⟨nc9, hnc9⟩ := zp_nat (zp_int hknc9).1
    have hnc9b := zp_int hknc9
    rw [hnc9] at hnc9b
    refine zp_load (pc := 227) hx hb (zd_X12_readOrder (227, .aload_n 0, 1, 0, []) (List.mem_of_getElem? (i := 122) rfl)) rfl (j := 3) rfl ?_
    refine zp_getf (n := (b56 : Int)) (pc := 228) hx hb hE hw (zd_X12_readOrder (228, .getfield 149, 3, 0, []) (List.mem_of_getElem? (i := 123) rfl)) (j := 74) rfl rfl rfl hp g56 ?_
    refine zp_load (pc := 231) hx hb (zd_X12_readOrder (231, .iload_n 2, 1, 0, []) (List.mem_of_getElem? (i := 124) rfl)) rfl (j := 1) rfl ?_
    refine zp_const (pc := 232) hx hb (zd_X12_readOrder (232, .iconst 5, 1, 0, []) (List.mem_of_getElem? (i := 125) rfl)) rfl rfl ?_
    refine zp_add (n := (8 * (n0 : Int) + 5)) (pc := 233) hx hb (zd_X12_readOrder (233, .iadd, 1, 0, []) (List.mem_of_getElem? (i := 126) rfl)) (by omega) (zp_r0 (by omega) (by omega)) ?_
    refine zp_load (pc := 234) hx hb (zd_X12_readOrder (234, .aload_n 0, 1, 0, []) (List.mem_of_getElem? (i := 127) rfl)) rfl (j := 3) rfl ?_
    refine zp_getf (n := (nc9 : Int)) (pc := 235) hx hb hE hw (zd_X12_readOrder (235, .getfield 279, 3, 0, []) (List.mem_of_getElem? (i := 128) rfl)) (j := 41) rfl rfl rfl hp hnc9 ?_
    refine zp_iast (j := (8 * n0 + 5)) (pc := 238) hx hb hw heff (zd_X12_readOrder (238, .iastore, 1, 0, []) (List.mem_of_getElem? (i := 129) rfl)) (show zp_ia 1 90 = some (96, 0, 0, (-2147483648), 2147483647) from rfl) hq56 (by omega) (by omega) (zp_o0 (by omega) (by omega) (by omega) (by omega)) rfl ?_
    refine zp_load (pc := 239) hx hb (zd_X12_readOrder (239, .aload_n 0, 1, 0, []) (List.mem_of_getElem? (i := 130) rfl)) rfl (j := 3) rfl ?_
    refine zp_getf (n := 1) (pc := 240) hx hb hE hw (zd_X12_readOrder (240, .getfield 240, 3, 0, []) (List.mem_of_getElem? (i := 131) rfl)) (j := 37) rfl rfl rfl hp ((zp_set_ne (Or.inl (zp_pne hp hq56 (by decide)))).trans (x19)) ?_
    refine zp_if (pc := 243) (tgt := 265) hx hb (zd_X12_readOrder (243, .ifCond .ne 22, 3, 0, []) (List.mem_of_getElem? (i := 132) rfl)) rfl (fun (hcq23 : ¬ 1 = 0) => ?_) (fun (hcq23 : ¬ (¬ 1 = 0)) => ?_)
    · exact hb265 q k3 its _ hn0 hir ⟨_, _, _, _, _, (zD_o (t := 90) hD9 hTG hp hq56 (by decide))⟩ (((zp_set_ne (Or.inl (zp_pne hp hq56 (by decide)))).trans (g18))) (zDt_o (t := 90) hTG hp hq56 (by decide)) (((zp_set_ne (Or.inl (zp_pne hp hq56 (by decide)))).trans (g56))) hres
    · exfalso
      omega
  have hb179 : ∀ (q : Nat) (k3 its : Int) (G : Nat → Nat → Int), n0 < 12 → 0 ≤ its ∧ its ≤ 3 → zBad a G B ln → G a 18 = (zy_fr B ln q : Int) → zDt u.1 a G → G a 56 = (b56 : Int) → yt_co (zy_so B ln) (zy_wo B ln) (zy_to B ln) (ylf true B ln) tk nl (Sum.inl q) → zp_J p l e R s m args below meth c Q w u [] 179 [(3, 0, k3), (2, 0, (8 * (n0 : Int))), (1, 0, its), (0, 2, (a : Int))] [] u.1 G := by
    clear hb265
    intro q k3 its G hn0 hir hbd g18 hTG g56 hres
    have hbd0 := hbd
    obtain ⟨tk9, nl9, od9, pi9, cd9, hD9⟩ := hbd
    have hD92 := hD9
    obtain ⟨⟨x13, xl, xt, x12, xB⟩, ⟨x14, x15, x16, x17⟩, ⟨x19, x18⟩, ⟨x23, x24, x25⟩, x26, ⟨x29, xp⟩, x30⟩ := hD92
    refine zp_kn (k := 23) (a := a) (G := G) hw (show zp_fd 92 23 = some (12, 0, 0, 0, 400) from rfl) rfl hp (fun hknc9 => ?_)
    obtain ⟨nc9, hnc9⟩ := zp_nat (zp_int hknc9).1
    have hnc9b := zp_int hknc9
    rw [hnc9] at hnc9b
    refine zp_load (pc := 179) hx hb (zd_X12_readOrder (179, .aload_n 0, 1, 0, []) (List.mem_of_getElem? (i := 96) rfl)) rfl (j := 3) rfl ?_
    refine zp_getf (n := (b56 : Int)) (pc := 180) hx hb hE hw (zd_X12_readOrder (180, .getfield 149, 3, 0, []) (List.mem_of_getElem? (i := 97) rfl)) (j := 74) rfl rfl rfl hp g56 ?_
    refine zp_load (pc := 183) hx hb (zd_X12_readOrder (183, .iload_n 2, 1, 0, []) (List.mem_of_getElem? (i := 98) rfl)) rfl (j := 1) rfl ?_
    refine zp_const (pc := 184) hx hb (zd_X12_readOrder (184, .bipush 7, 2, 0, []) (List.mem_of_getElem? (i := 99) rfl)) rfl rfl ?_
    refine zp_add (n := (8 * (n0 : Int) + 7)) (pc := 186) hx hb (zd_X12_readOrder (186, .iadd, 1, 0, []) (List.mem_of_getElem? (i := 100) rfl)) (by omega) (zp_r0 (by omega) (by omega)) ?_
    refine zp_const (pc := 187) hx hb (zd_X12_readOrder (187, .iconst 1, 1, 0, []) (List.mem_of_getElem? (i := 101) rfl)) rfl rfl ?_
    refine zp_iast (j := (8 * n0 + 7)) (pc := 188) hx hb hw heff (zd_X12_readOrder (188, .iastore, 1, 0, []) (List.mem_of_getElem? (i := 102) rfl)) (show zp_ia 1 90 = some (96, 0, 0, (-2147483648), 2147483647) from rfl) hq56 (by omega) (by omega) (zp_o0 (by omega) (by omega) (by omega) (by omega)) rfl ?_
    refine zp_load (pc := 189) hx hb (zd_X12_readOrder (189, .aload_n 0, 1, 0, []) (List.mem_of_getElem? (i := 103) rfl)) rfl (j := 3) rfl ?_
    refine zp_getf (n := 1) (pc := 190) hx hb hE hw (zd_X12_readOrder (190, .getfield 240, 3, 0, []) (List.mem_of_getElem? (i := 104) rfl)) (j := 37) rfl rfl rfl hp ((zp_set_ne (Or.inl (zp_pne hp hq56 (by decide)))).trans (x19)) ?_
    refine zp_if (pc := 193) (tgt := 227) hx hb (zd_X12_readOrder (193, .ifCond .ne 34, 3, 0, []) (List.mem_of_getElem? (i := 105) rfl)) rfl (fun (hcq24 : ¬ 1 = 0) => ?_) (fun (hcq24 : ¬ (¬ 1 = 0)) => ?_)
    · exact hb227 q k3 its _ hn0 hir ⟨_, _, _, _, _, (zD_o (t := 90) hD9 hTG hp hq56 (by decide))⟩ (((zp_set_ne (Or.inl (zp_pne hp hq56 (by decide)))).trans (g18))) (zDt_o (t := 90) hTG hp hq56 (by decide)) (((zp_set_ne (Or.inl (zp_pne hp hq56 (by decide)))).trans (g56))) hres
    · exfalso
      omega
  have hb172 : ∀ (q : Nat) (k3 its : Int) (G : Nat → Nat → Int), n0 < 12 → 0 ≤ its ∧ its ≤ 3 → zBad a G B ln → G a 18 = (zy_fr B ln q : Int) → zDt u.1 a G → G a 56 = (b56 : Int) → yt_co (zy_so B ln) (zy_wo B ln) (zy_to B ln) (ylf true B ln) tk nl (Sum.inl q) → zp_J p l e R s m args below meth c Q w u [] 172 [(3, 0, k3), (2, 0, (8 * (n0 : Int))), (1, 0, its), (0, 2, (a : Int))] [] u.1 G := by
    clear hb265 hb227
    intro q k3 its G hn0 hir hbd g18 hTG g56 hres
    have hbd0 := hbd
    obtain ⟨tk9, nl9, od9, pi9, cd9, hD9⟩ := hbd
    have hD92 := hD9
    obtain ⟨⟨x13, xl, xt, x12, xB⟩, ⟨x14, x15, x16, x17⟩, ⟨x19, x18⟩, ⟨x23, x24, x25⟩, x26, ⟨x29, xp⟩, x30⟩ := hD92
    refine zp_kn (k := 23) (a := a) (G := G) hw (show zp_fd 92 23 = some (12, 0, 0, 0, 400) from rfl) rfl hp (fun hknc9 => ?_)
    obtain ⟨nc9, hnc9⟩ := zp_nat (zp_int hknc9).1
    have hnc9b := zp_int hknc9
    rw [hnc9] at hnc9b
    refine zp_load (pc := 172) hx hb (zd_X12_readOrder (172, .aload_n 0, 1, 0, []) (List.mem_of_getElem? (i := 91) rfl)) rfl (j := 3) rfl ?_
    refine zp_load (pc := 173) hx hb (zd_X12_readOrder (173, .iload_n 2, 1, 0, []) (List.mem_of_getElem? (i := 92) rfl)) rfl (j := 1) rfl ?_
    refine zp_const (pc := 174) hx hb (zd_X12_readOrder (174, .iconst 3, 1, 0, []) (List.mem_of_getElem? (i := 93) rfl)) rfl rfl ?_
    refine zp_add (n := (8 * (n0 : Int) + 3)) (pc := 175) hx hb (zd_X12_readOrder (175, .iadd, 1, 0, []) (List.mem_of_getElem? (i := 94) rfl)) (by omega) (zp_r0 (by omega) (by omega)) ?_
    refine zp_call (pc := 176) (how := 0) (idx := 530) (mi := 289) (S := []) hx hb hE hw heff hrm (zY_rb hW (8 * n0 + 3) B ln) rfl (j := 70) rfl rfl (by decide +kernel) (zd_X12_readOrder (176, .invokevirtual 530, 3, 0, []) (List.mem_of_getElem? (i := 95) rfl)) [(a : Int), (8 * (n0 : Int) + 3)] rfl ⟨zp_o2 hp, zp_o0 (by omega) (by omega) (by omega) (by omega), trivial⟩ (Nat.le_of_ble_eq_true rfl) ⟨by show (8 * (n0 : Int) + 3) = (((8 * n0 + 3) : Nat) : Int); omega, hbd0, hTG⟩ (fun al hal rnb Pb Gb hextb hfrb hokb hcsb hpsib => ?_)
    obtain rfl := List.mem_singleton.mp hal
    obtain ⟨rfl, htb⟩ := hpsib
    obtain ⟨htb, ht18⟩ := htb
    exact hb179 q k3 its Gb hn0 hir htb (ht18.trans g18) (zDt_fr hTG hp hfrb rfl) ((zp_nf hfrb hp rfl).trans g56) hres
  have hb149 : ∀ (q : Nat) (k3 its : Int) (G : Nat → Nat → Int), n0 < 12 → 0 ≤ its ∧ its ≤ 3 → zBad a G B ln → G a 18 = (zy_fr B ln q : Int) → zDt u.1 a G → G a 56 = (b56 : Int) → yt_co (zy_so B ln) (zy_wo B ln) (zy_to B ln) (ylf true B ln) tk nl (Sum.inl q) → zp_J p l e R s m args below meth c Q w u [] 149 [(3, 0, k3), (2, 0, (8 * (n0 : Int))), (1, 0, its), (0, 2, (a : Int))] [] u.1 G := by
    clear hb265 hb227
    intro q k3 its G hn0 hir hbd g18 hTG g56 hres
    have hbd0 := hbd
    obtain ⟨tk9, nl9, od9, pi9, cd9, hD9⟩ := hbd
    have hD92 := hD9
    obtain ⟨⟨x13, xl, xt, x12, xB⟩, ⟨x14, x15, x16, x17⟩, ⟨x19, x18⟩, ⟨x23, x24, x25⟩, x26, ⟨x29, xp⟩, x30⟩ := hD92
    refine zp_kn (k := 23) (a := a) (G := G) hw (show zp_fd 92 23 = some (12, 0, 0, 0, 400) from rfl) rfl hp (fun hknc9 => ?_)
    obtain ⟨nc9, hnc9⟩ := zp_nat (zp_int hknc9).1
    have hnc9b := zp_int hknc9
    rw [hnc9] at hnc9b
    refine zp_load (pc := 149) hx hb (zd_X12_readOrder (149, .iload_n 1, 1, 0, []) (List.mem_of_getElem? (i := 80) rfl)) rfl (j := 2) rfl ?_
    refine zp_const (pc := 150) hx hb (zd_X12_readOrder (150, .iconst 1, 1, 0, []) (List.mem_of_getElem? (i := 81) rfl)) rfl rfl ?_
    refine zp_icmp (pc := 151) (tgt := 179) hx hb (zd_X12_readOrder (151, .if_icmp .ne 28, 3, 0, []) (List.mem_of_getElem? (i := 82) rfl)) rfl (fun (hcq25 : ¬ its = 1) => ?_) (fun (hcq25 : ¬ (¬ its = 1)) => ?_)
    · exact hb179 q k3 its G hn0 hir hbd0 g18 hTG g56 hres
    · refine zp_load (pc := 154) hx hb (zd_X12_readOrder (154, .aload_n 0, 1, 0, []) (List.mem_of_getElem? (i := 83) rfl)) rfl (j := 3) rfl ?_
      refine zp_getf (n := 1) (pc := 155) hx hb hE hw (zd_X12_readOrder (155, .getfield 240, 3, 0, []) (List.mem_of_getElem? (i := 84) rfl)) (j := 37) rfl rfl rfl hp x19 ?_
      refine zp_if (pc := 158) (tgt := 172) hx hb (zd_X12_readOrder (158, .ifCond .ne 14, 3, 0, []) (List.mem_of_getElem? (i := 85) rfl)) rfl (fun (hcq26 : ¬ 1 = 0) => ?_) (fun (hcq26 : ¬ (¬ 1 = 0)) => ?_)
      · exact hb172 q k3 its G hn0 hir hbd0 g18 hTG g56 hres
      · exfalso
        omega
  have h265 : ∀ (k3 its : Int) (G : Nat → Nat → Int) (p1 n1 od1 : Nat) (pi1 : List (Int × Int)) (cd1 : yC) (v : Nat → Int) (x y : Option yD) (mq : Int) (e9 : Option yD), n0 < 12 → 0 ≤ its ∧ its ≤ 3 → zD a G 0 B ln p1 n1 od1 pi1 cd1 → n1 ≤ 50 → cd1.2.2 ≤ zy_fr B ln p1 → zy_fr B ln tk < zy_fr B ln p1 → zDw u.1 true a G → zDt u.1 a G → G a 21 = (n0 : Int) + 1 → G a 56 = (b56 : Int) → zOw (zp_n u.2.1) G b56 n0 v → (cd.2.2 ≤ cd1.2.2 ∧ ∀ j, j < cd.2.2 → cd1.1 j = cd.1 j ∧ cd1.2.1 j = cd.2.1 j) → v 0 = its → ((its = 2 ∧ x = none ∧ v 1 = 0 ∧ v 2 = 0) ∨ ∃ xx, ¬ its = 2 ∧ x = some xx ∧ zLp cd1.1 cd1.2.1 cd1.2.2 (v 1) (v 2) xx) → ((¬ its = 1 ∧ y = none ∧ v 3 = 0 ∧ v 4 = 0) ∨ ∃ xx, its = 1 ∧ y = some xx ∧ zLp cd1.1 cd1.2.1 cd1.2.2 (v 3) (v 4) xx) → v 7 = mq → 1 ≤ mq ∧ mq ≤ 20 → ((e9 = none ∧ v 5 = (cd1.2.2 : Int)) ∨ ∃ yy, e9 = some yy ∧ zLp cd1.1 cd1.2.1 cd1.2.2 (v 5) (cd1.2.2 : Int) yy ∧ yd_T yy) → yt_co (zy_so B ln) (zy_wo B ln) (zy_to B ln) (ylf true B ln) tk nl (Sum.inr (p1, n1, (its, x, y, mq, e9))) → zp_J p l e R s m args below meth c Q w u [] 265 [(3, 0, k3), (2, 0, (8 * (n0 : Int))), (1, 0, its), (0, 2, (a : Int))] [] u.1 G := by
    clear hb265 hb227 hb179 hb172 hb149
    intro k3 its G p1 n1 od1 pi1 cd1 v x y mq e9 hn0 hir hDG hn15 hc15 hlt1 hwG hTG g21 g56 hO hcc hv0 s1 s2 hv7 hm s5 hres
    replace s1 : zHid _ := s1
    replace s2 : zHid _ := s2
    replace s5 : zHid _ := s5
    have hDG2 := hDG
    obtain ⟨⟨g13, gl, gt, g12, gB⟩, ⟨g14, g15, g16, g17⟩, ⟨g19, g18⟩, ⟨g23, g24, g25⟩, g26, ⟨g29, gp⟩, g30⟩ := hDG2
    have hf1 := zy_nx (B := B) gt
    refine zp_kn (k := 23) (a := a) (G := G) hw (show zp_fd 92 23 = some (12, 0, 0, 0, 400) from rfl) rfl hp (fun hknc9 => ?_)
    obtain ⟨nc9, hnc9⟩ := zp_nat (zp_int hknc9).1
    have hnc9b := zp_int hknc9
    rw [hnc9] at hnc9b
    refine zp_load (pc := 265) hx hb (zd_X12_readOrder (265, .aload_n 0, 1, 0, []) (List.mem_of_getElem? (i := 142) rfl)) rfl (j := 3) rfl ?_
    refine zp_getf (n := (b56 : Int)) (pc := 266) hx hb hE hw (zd_X12_readOrder (266, .getfield 149, 3, 0, []) (List.mem_of_getElem? (i := 143) rfl)) (j := 74) rfl rfl rfl hp g56 ?_
    refine zp_load (pc := 269) hx hb (zd_X12_readOrder (269, .iload_n 2, 1, 0, []) (List.mem_of_getElem? (i := 144) rfl)) rfl (j := 1) rfl ?_
    refine zp_const (pc := 270) hx hb (zd_X12_readOrder (270, .bipush 6, 2, 0, []) (List.mem_of_getElem? (i := 145) rfl)) rfl rfl ?_
    refine zp_add (n := (8 * (n0 : Int) + 6)) (pc := 272) hx hb (zd_X12_readOrder (272, .iadd, 1, 0, []) (List.mem_of_getElem? (i := 146) rfl)) (by omega) (zp_r0 (by omega) (by omega)) ?_
    refine zp_load (pc := 273) hx hb (zd_X12_readOrder (273, .aload_n 0, 1, 0, []) (List.mem_of_getElem? (i := 147) rfl)) rfl (j := 3) rfl ?_
    refine zp_getf (n := (nc9 : Int)) (pc := 274) hx hb hE hw (zd_X12_readOrder (274, .getfield 279, 3, 0, []) (List.mem_of_getElem? (i := 148) rfl)) (j := 41) rfl rfl rfl hp hnc9 ?_
    refine zp_iast (j := (8 * n0 + 6)) (pc := 277) hx hb hw heff (zd_X12_readOrder (277, .iastore, 1, 0, []) (List.mem_of_getElem? (i := 149) rfl)) (show zp_ia 1 90 = some (96, 0, 0, (-2147483648), 2147483647) from rfl) hq56 (by omega) (by omega) (zp_o0 (by omega) (by omega) (by omega) (by omega)) rfl ?_
    refine zp_vret (pc := 278) hx hb hE hQ hU5 rfl (by decide) (zd_X12_readOrder (278, .return_, 1, 0, []) (List.mem_of_getElem? (i := 150) rfl)) (j := 0) rfl ?_
    rw [hps]
    refine ⟨rfl, fun z => by omega, fun _ => ⟨Sum.inr (p1, n1, (its, x, y, mq, e9)), hres, Or.inr ⟨p1, n1, (its, x, y, mq, e9), od1, pi1, cd1, rfl, (zD_o (t := 90) hDG hTG hp hq56 (by decide)), hn15, hc15, hcc.1, hcc.2, ?_, ?_, ?_, hlt1⟩⟩⟩
    · exact (((zp_set_ne (Or.inl (zp_pne hp hq56 (by decide)))).trans (g21))).trans (by omega)
    · intro j hj
      exact (zv_eq (show (zp_set G b56 (2000 + (8 * n0 + 6)) (nc9 : Int)) a 56 = (b56 : Int) from ((zp_set_ne (Or.inl (zp_pne hp hq56 (by decide)))).trans (g56))) j).trans (((zOw_s hO 6 (nc9 : Int)).1 j hj).trans (zv_eq hA56 j).symm)
    · have hO9 := (zOw_s hO 6 (nc9 : Int))
      have e9x : ∀ j, j < 8 → zv (zp_set G b56 (2000 + (8 * n0 + 6)) (nc9 : Int)) a 56 (8 * n0 + j) = (yu v 6 (nc9 : Int)) j := fun j hj => by rw [zv_eq (show (zp_set G b56 (2000 + (8 * n0 + 6)) (nc9 : Int)) a 56 = (b56 : Int) from ((zp_set_ne (Or.inl (zp_pne hp hq56 (by decide)))).trans (g56)))]; exact hO9.2 j hj
      have q0 : zv (zp_set G b56 (2000 + (8 * n0 + 6)) (nc9 : Int)) a 56 (8 * n0) = v 0 := e9x 0 (by decide)
      have q1 : zv (zp_set G b56 (2000 + (8 * n0 + 6)) (nc9 : Int)) a 56 (8 * n0 + 1) = v 1 := e9x 1 (by decide)
      have q2 : zv (zp_set G b56 (2000 + (8 * n0 + 6)) (nc9 : Int)) a 56 (8 * n0 + 2) = v 2 := e9x 2 (by decide)
      have q3 : zv (zp_set G b56 (2000 + (8 * n0 + 6)) (nc9 : Int)) a 56 (8 * n0 + 3) = v 3 := e9x 3 (by decide)
      have q4 : zv (zp_set G b56 (2000 + (8 * n0 + 6)) (nc9 : Int)) a 56 (8 * n0 + 4) = v 4 := e9x 4 (by decide)
      have q5 : zv (zp_set G b56 (2000 + (8 * n0 + 6)) (nc9 : Int)) a 56 (8 * n0 + 5) = v 5 := e9x 5 (by decide)
      have q7 : zv (zp_set G b56 (2000 + (8 * n0 + 6)) (nc9 : Int)) a 56 (8 * n0 + 7) = v 7 := e9x 7 (by decide)
      have q6 : zv (zp_set G b56 (2000 + (8 * n0 + 6)) (nc9 : Int)) a 56 (8 * n0 + 6) = (nc9 : Int) := e9x 6 (by decide)
      have hnc : (nc9 : Int) = (cd1.2.2 : Int) := by omega
      unfold zOc
      rw [show zp_0 [(a : Int)] = a from rfl, q0, q1, q2, q3, q4, q5, q6, q7]
      refine ⟨⟨hv0, hir.1, hir.2⟩, s1, s2, ⟨hv7, hm.1, hm.2⟩, ?_⟩
      rcases s5 with ⟨z1, z2⟩ | ⟨yy, z1, z2, z3⟩
      · exact Or.inl ⟨z1, by omega, by omega, by omega⟩
      · exact Or.inr ⟨yy, z1, by rw [hnc]; exact z2, z3⟩
  have h227 : ∀ (k3 its : Int) (G : Nat → Nat → Int) (p1 n1 od1 : Nat) (pi1 : List (Int × Int)) (cd1 : yC) (v : Nat → Int) (x y : Option yD) (mq : Int), n0 < 12 → 0 ≤ its ∧ its ≤ 3 → zD a G 0 B ln p1 n1 od1 pi1 cd1 → n1 ≤ 50 → cd1.2.2 ≤ zy_fr B ln p1 → zy_fr B ln tk < zy_fr B ln p1 → zDw u.1 true a G → zDt u.1 a G → G a 21 = (n0 : Int) + 1 → G a 56 = (b56 : Int) → zOw (zp_n u.2.1) G b56 n0 v → (cd.2.2 ≤ cd1.2.2 ∧ ∀ j, j < cd.2.2 → cd1.1 j = cd.1 j ∧ cd1.2.1 j = cd.2.1 j) → v 0 = its → ((its = 2 ∧ x = none ∧ v 1 = 0 ∧ v 2 = 0) ∨ ∃ xx, ¬ its = 2 ∧ x = some xx ∧ zLp cd1.1 cd1.2.1 cd1.2.2 (v 1) (v 2) xx) → ((¬ its = 1 ∧ y = none ∧ v 3 = 0 ∧ v 4 = 0) ∨ ∃ xx, its = 1 ∧ y = some xx ∧ zLp cd1.1 cd1.2.1 cd1.2.2 (v 3) (v 4) xx) → v 7 = mq → 1 ≤ mq ∧ mq ≤ 20 → (∀ s, yo_4 (zy_so B ln) (zy_wo B ln) (zy_to B ln) (ylf true B ln) its x y mq p1 n1 s → yt_co (zy_so B ln) (zy_wo B ln) (zy_to B ln) (ylf true B ln) tk nl s) → zp_J p l e R s m args below meth c Q w u [] 227 [(3, 0, k3), (2, 0, (8 * (n0 : Int))), (1, 0, its), (0, 2, (a : Int))] [] u.1 G := by
    clear hb227 hb179 hb172 hb149
    intro k3 its G p1 n1 od1 pi1 cd1 v x y mq hn0 hir hDG hn15 hc15 hlt1 hwG hTG g21 g56 hO hcc hv0 s1 s2 hv7 hm hk
    replace s1 : zHid _ := s1
    replace s2 : zHid _ := s2
    have hDG2 := hDG
    obtain ⟨⟨g13, gl, gt, g12, gB⟩, ⟨g14, g15, g16, g17⟩, ⟨g19, g18⟩, ⟨g23, g24, g25⟩, g26, ⟨g29, gp⟩, g30⟩ := hDG2
    have hf1 := zy_nx (B := B) gt
    refine zp_kn (k := 23) (a := a) (G := G) hw (show zp_fd 92 23 = some (12, 0, 0, 0, 400) from rfl) rfl hp (fun hknc9 => ?_)
    obtain ⟨nc9, hnc9⟩ := zp_nat (zp_int hknc9).1
    have hnc9b := zp_int hknc9
    rw [hnc9] at hnc9b
    refine zp_load (pc := 227) hx hb (zd_X12_readOrder (227, .aload_n 0, 1, 0, []) (List.mem_of_getElem? (i := 122) rfl)) rfl (j := 3) rfl ?_
    refine zp_getf (n := (b56 : Int)) (pc := 228) hx hb hE hw (zd_X12_readOrder (228, .getfield 149, 3, 0, []) (List.mem_of_getElem? (i := 123) rfl)) (j := 74) rfl rfl rfl hp g56 ?_
    refine zp_load (pc := 231) hx hb (zd_X12_readOrder (231, .iload_n 2, 1, 0, []) (List.mem_of_getElem? (i := 124) rfl)) rfl (j := 1) rfl ?_
    refine zp_const (pc := 232) hx hb (zd_X12_readOrder (232, .iconst 5, 1, 0, []) (List.mem_of_getElem? (i := 125) rfl)) rfl rfl ?_
    refine zp_add (n := (8 * (n0 : Int) + 5)) (pc := 233) hx hb (zd_X12_readOrder (233, .iadd, 1, 0, []) (List.mem_of_getElem? (i := 126) rfl)) (by omega) (zp_r0 (by omega) (by omega)) ?_
    refine zp_load (pc := 234) hx hb (zd_X12_readOrder (234, .aload_n 0, 1, 0, []) (List.mem_of_getElem? (i := 127) rfl)) rfl (j := 3) rfl ?_
    refine zp_getf (n := (nc9 : Int)) (pc := 235) hx hb hE hw (zd_X12_readOrder (235, .getfield 279, 3, 0, []) (List.mem_of_getElem? (i := 128) rfl)) (j := 41) rfl rfl rfl hp hnc9 ?_
    refine zp_iast (j := (8 * n0 + 5)) (pc := 238) hx hb hw heff (zd_X12_readOrder (238, .iastore, 1, 0, []) (List.mem_of_getElem? (i := 129) rfl)) (show zp_ia 1 90 = some (96, 0, 0, (-2147483648), 2147483647) from rfl) hq56 (by omega) (by omega) (zp_o0 (by omega) (by omega) (by omega) (by omega)) rfl ?_
    refine zp_load (pc := 239) hx hb (zd_X12_readOrder (239, .aload_n 0, 1, 0, []) (List.mem_of_getElem? (i := 130) rfl)) rfl (j := 3) rfl ?_
    refine zp_getf (n := 0) (pc := 240) hx hb hE hw (zd_X12_readOrder (240, .getfield 240, 3, 0, []) (List.mem_of_getElem? (i := 131) rfl)) (j := 37) rfl rfl rfl hp ((zp_set_ne (Or.inl (zp_pne hp hq56 (by decide)))).trans (g19)) ?_
    refine zp_if (pc := 243) (tgt := 265) hx hb (zd_X12_readOrder (243, .ifCond .ne 22, 3, 0, []) (List.mem_of_getElem? (i := 132) rfl)) rfl (fun (hcq27 : ¬ 0 = 0) => ?_) (fun (hcq27 : ¬ (¬ 0 = 0)) => ?_)
    · exfalso
      omega
    · refine zp_load (pc := 246) hx hb (zd_X12_readOrder (246, .aload_n 0, 1, 0, []) (List.mem_of_getElem? (i := 133) rfl)) rfl (j := 3) rfl ?_
      refine zp_ldc2 (pc := 247) hx hb hE (zd_X12_readOrder (247, .ldc2_w 377, 3, 0, []) (List.mem_of_getElem? (i := 134) rfl)) (j := 104) rfl ?_
      have i16 : (zp_set G b56 (2000 + (8 * n0 + 5)) (nc9 : Int)) a 16 = G a 16 := ((zp_set_ne (Or.inl (zp_pne hp hq56 (by decide)))))
      have i17 : (zp_set G b56 (2000 + (8 * n0 + 5)) (nc9 : Int)) a 17 = G a 17 := ((zp_set_ne (Or.inl (zp_pne hp hq56 (by decide)))))
      refine zp_call (pc := 250) (how := 0) (idx := 300) (mi := 216) (S := []) hx hb hE hw heff hrm (zY_wo hW) rfl (j := 18) rfl rfl (by decide +kernel) (zd_X12_readOrder (250, .invokevirtual 300, 3, 0, []) (List.mem_of_getElem? (i := 135) rfl)) [(a : Int), 294] rfl ⟨zp_o2 hp, zp_o1 ⟨by decide, by decide⟩, trivial⟩ (Nat.le_of_ble_eq_true rfl) trivial (fun al hal rnw Pw Gw hextw hfrw hokw hcsw hpsiw => ?_)
      obtain rfl := List.mem_singleton.mp hal
      have hrw := zp_int (hokw _ rfl).1
      obtain ⟨hPew, hGew, htw⟩ := hpsiw
      rw [hPew, hGew]
      have htw : rnw = 1 ↔ (zp_set G b56 (2000 + (8 * n0 + 5)) (nc9 : Int)) a 16 = 1 ∧ (zp_set G b56 (2000 + (8 * n0 + 5)) (nc9 : Int)) a 17 = 294 := htw
      rw [i16, i17, g16, g17] at htw
      refine zp_if (pc := 253) (tgt := 265) hx hb (zd_X12_readOrder (253, .ifCond .eq 12, 3, 0, []) (List.mem_of_getElem? (i := 136) rfl)) rfl (fun (hcq28 : rnw = 0) => ?_) (fun (hcq28 : ¬ (rnw = 0)) => ?_)
      · have hnc : (nc9 : Int) = (cd1.2.2 : Int) := by omega
        exact h265 k3 its _ p1 n1 od1 pi1 cd1 (yu v 5 (nc9 : Int)) x y mq none hn0 hir (zD_o (t := 90) hDG hTG hp hq56 (by decide)) hn15 hc15 hlt1 (zDw_o (t := 90) hwG (zp_pne hq56 hp (by decide)) (by decide) hq56) (zDt_o (t := 90) hTG hp hq56 (by decide)) (((zp_set_ne (Or.inl (zp_pne hp hq56 (by decide)))).trans (g21))) (((zp_set_ne (Or.inl (zp_pne hp hq56 (by decide)))).trans (g56))) (zOw_s hO 5 (nc9 : Int)) hcc hv0 s1 s2 hv7 hm (Or.inl ⟨rfl, hnc⟩) (hk _ ⟨Sum.inr (p1, n1, none), by unfold yt_if; rw [if_neg (fun z => by have := yr_w_i.mp z; omega)], Or.inr ⟨p1, n1, none, rfl, rfl⟩⟩)
      · refine zp_load (pc := 256) hx hb (zd_X12_readOrder (256, .aload_n 0, 1, 0, []) (List.mem_of_getElem? (i := 137) rfl)) rfl (j := 3) rfl ?_
        have hs9 : zy_so B ln p1 ≠ 0 := by omega
        have hst6 : zD a (zp_set G b56 (2000 + (8 * n0 + 5)) (nc9 : Int)) 0 B ln p1 n1 od1 pi1 cd1 := (zD_o (t := 90) hDG hTG hp hq56 (by decide))
        have hT6 : zDt u.1 a (zp_set G b56 (2000 + (8 * n0 + 5)) (nc9 : Int)) := (zDt_o (t := 90) hTG hp hq56 (by decide))
        have hw6 : zDw u.1 true a (zp_set G b56 (2000 + (8 * n0 + 5)) (nc9 : Int)) := (zDw_o (t := 90) hwG (zp_pne hq56 hp (by decide)) (by decide) hq56)
        have hO6 : zOw (zp_n u.2.1) (zp_set G b56 (2000 + (8 * n0 + 5)) (nc9 : Int)) b56 n0 (yu v 5 (nc9 : Int)) := (zOw_s hO 5 (nc9 : Int))
        refine zp_call (pc := 257) (how := 0) (idx := 244) (mi := 212) (S := []) hx hb hE hw heff hrm (zY_nx hW B ln (zy_to B ln p1)) rfl (j := 14) rfl rfl (by decide +kernel) (zd_X12_readOrder (257, .invokevirtual 244, 3, 0, []) (List.mem_of_getElem? (i := 138) rfl)) [(a : Int)] rfl ⟨zp_o2 hp, trivial⟩ (Nat.le_of_ble_eq_true rfl) (zD_y hst6) (fun al hal rnn Pn Gn hextn hfrn hokn hcsn hpsin => ?_)
        obtain rfl := List.mem_singleton.mp hal
        obtain ⟨rfl, htn⟩ := hpsin
        have hstn := zD_nx hst6 htn
        have hwn := zDw_fr hw6 hp hfrn rfl
        have hTn := zDt_fr hT6 hp hfrn rfl
        have hOn := zOw_fr hO6 hq56 hfrn rfl
        have n56 : Gn a 56 = (b56 : Int) := ((zp_nf hfrn hp rfl).trans ((zp_set_ne (Or.inl (zp_pne hp hq56 (by decide)))).trans (g56)))
        have n21 : Gn a 21 = (n0 : Int) + 1 := ((zp_nf hfrn hp rfl).trans ((zp_set_ne (Or.inl (zp_pne hp hq56 (by decide)))).trans (g21)))
        have hf9 := hf1.2.2 hs9
        refine zp_load (pc := 260) hx hb (zd_X12_readOrder (260, .aload_n 0, 1, 0, []) (List.mem_of_getElem? (i := 139) rfl)) rfl (j := 3) rfl ?_
        refine zp_const (pc := 261) hx hb (zd_X12_readOrder (261, .iconst 1, 1, 0, []) (List.mem_of_getElem? (i := 140) rfl)) rfl rfl ?_
        refine zp_call (pc := 262) (how := 0) (idx := 374) (mi := 218) (S := []) hx hb hE hw heff hrm (zY_ex hW true B ln (zy_to B ln p1) n1 od1 pi1 cd1) rfl (j := 20) rfl rfl (by decide +kernel) (zd_X12_readOrder (262, .invokevirtual 374, 3, 0, []) (List.mem_of_getElem? (i := 141) rfl)) [(a : Int), 1] rfl ⟨zp_o2 hp, zp_o0 (by decide) (by decide) (by decide) (by decide), trivial⟩ (Nat.le_of_ble_eq_true rfl) ⟨hstn, hn15, by omega, hwn⟩ (fun al hal rny Py Gy hexty hfry hoky hcsy hpsiy => ?_)
        obtain rfl := List.mem_singleton.mp hal
        obtain ⟨rfl, hty⟩ := hpsiy
        have hty : zDe_ true a Gy B ln (zy_to B ln p1) n1 cd1 (decide ((1 : Int) = 1)) := hty
        have hTy := zDt_fr hTn hp hfry rfl
        have y56 : Gy a 56 = (b56 : Int) := ((zp_nf hfry hp rfl).trans n56)
        have y21 : Gy a 21 = (n0 : Int) + 1 := ((zp_nf hfry hp rfl).trans n21)
        have hwo9 : yr_w (zy_so B ln) (zy_wo B ln) 294 p1 = true := yr_w_i.mpr ⟨by omega, by omega⟩
        obtain ⟨sy, hsy1, hsy2⟩ := hty
        have hsy1 : yZ (zy_so B ln) (zy_wo B ln) (zy_to B ln) (ylf true B ln) 8 0 n1 (zy_to B ln p1) yx0 sy := hsy1
        rcases hsy2 with ⟨q9, hq9, hB9, h18⟩ | ⟨p2, n2, y2, ky, od2, cd2, hs8, hnn2, hn25, hD2, hF2, hc25, hT2⟩
        · subst hq9
          have hres := hk (Sum.inl q9) ⟨Sum.inl q9, by unfold yt_if; rw [if_pos hwo9]; exact ⟨_, hsy1, Or.inl ⟨q9, rfl, rfl⟩⟩, Or.inl ⟨q9, rfl, rfl⟩⟩
          exact hb265 q9 k3 its Gy hn0 hir hB9 h18 hTy y56 hres
        · subst hs8
          have hyt := hT2 (by decide)
          have hl2 := yF_lt hF2
          have hz2 := yZ_fr true hf1.1 hsy1 (Or.inr rfl)
          have hnc : (nc9 : Int) = (cd1.2.2 : Int) := by omega
          refine h265 k3 its Gy p2 n2 od2 [] cd2 (yu v 5 (nc9 : Int)) x y mq (some y2) hn0 hir hD2 hn25 hc25 (by omega) (zDw_fr hwn hp hfry rfl) hTy y21 y56 (zOw_fr hOn hq56 hfry rfl) ⟨by omega, fun j hj => ?_⟩ hv0 ?_ ?_ hv7 hm (Or.inr ⟨y2, rfl, zLp_F hF2 (by omega) hnc rfl, hyt⟩) (hk _ ⟨Sum.inr (p2, n2, some y2), by unfold yt_if; rw [if_pos hwo9]; exact ⟨_, hsy1, Or.inr ⟨p2, n2, y2, rfl, rfl⟩⟩, Or.inr ⟨p2, n2, some y2, rfl, rfl⟩⟩)
          · have z1 := hcc.2 j hj
            have z2 := hF2.1 j (by omega)
            exact ⟨z2.1.trans z1.1, z2.2.trans z1.2⟩
          · rcases s1 with z | ⟨xx, z1, z2, z3⟩
            · exact Or.inl z
            · exact Or.inr ⟨xx, z1, z2, zLp_c z3 (by omega) (fun j hj => hF2.1 j hj)⟩
          · rcases s2 with z | ⟨xx, z1, z2, z3⟩
            · exact Or.inl z
            · exact Or.inr ⟨xx, z1, z2, zLp_c z3 (by omega) (fun j hj => hF2.1 j hj)⟩
  have h179 : ∀ (k3 its : Int) (G : Nat → Nat → Int) (p1 n1 od1 : Nat) (pi1 : List (Int × Int)) (cd1 : yC) (v : Nat → Int) (x y : Option yD), n0 < 12 → 0 ≤ its ∧ its ≤ 3 → zD a G 0 B ln p1 n1 od1 pi1 cd1 → n1 ≤ 50 → cd1.2.2 ≤ zy_fr B ln p1 → zy_fr B ln tk < zy_fr B ln p1 → zDw u.1 true a G → zDt u.1 a G → G a 21 = (n0 : Int) + 1 → G a 56 = (b56 : Int) → zOw (zp_n u.2.1) G b56 n0 v → (cd.2.2 ≤ cd1.2.2 ∧ ∀ j, j < cd.2.2 → cd1.1 j = cd.1 j ∧ cd1.2.1 j = cd.2.1 j) → v 0 = its → ((its = 2 ∧ x = none ∧ v 1 = 0 ∧ v 2 = 0) ∨ ∃ xx, ¬ its = 2 ∧ x = some xx ∧ zLp cd1.1 cd1.2.1 cd1.2.2 (v 1) (v 2) xx) → ((¬ its = 1 ∧ y = none ∧ v 3 = 0 ∧ v 4 = 0) ∨ ∃ xx, its = 1 ∧ y = some xx ∧ zLp cd1.1 cd1.2.1 cd1.2.2 (v 3) (v 4) xx) → (∀ s, yo_3 (zy_so B ln) (zy_wo B ln) (zy_to B ln) (ylf true B ln) its x y p1 n1 s → yt_co (zy_so B ln) (zy_wo B ln) (zy_to B ln) (ylf true B ln) tk nl s) → zp_J p l e R s m args below meth c Q w u [] 179 [(3, 0, k3), (2, 0, (8 * (n0 : Int))), (1, 0, its), (0, 2, (a : Int))] [] u.1 G := by
    clear hb265 hb179 hb172 hb149 h265
    intro k3 its G p1 n1 od1 pi1 cd1 v x y hn0 hir hDG hn15 hc15 hlt1 hwG hTG g21 g56 hO hcc hv0 s1 s2 hk
    replace s1 : zHid _ := s1
    replace s2 : zHid _ := s2
    have hDG2 := hDG
    obtain ⟨⟨g13, gl, gt, g12, gB⟩, ⟨g14, g15, g16, g17⟩, ⟨g19, g18⟩, ⟨g23, g24, g25⟩, g26, ⟨g29, gp⟩, g30⟩ := hDG2
    have hf1 := zy_nx (B := B) gt
    refine zp_load (pc := 179) hx hb (zd_X12_readOrder (179, .aload_n 0, 1, 0, []) (List.mem_of_getElem? (i := 96) rfl)) rfl (j := 3) rfl ?_
    refine zp_getf (n := (b56 : Int)) (pc := 180) hx hb hE hw (zd_X12_readOrder (180, .getfield 149, 3, 0, []) (List.mem_of_getElem? (i := 97) rfl)) (j := 74) rfl rfl rfl hp g56 ?_
    refine zp_load (pc := 183) hx hb (zd_X12_readOrder (183, .iload_n 2, 1, 0, []) (List.mem_of_getElem? (i := 98) rfl)) rfl (j := 1) rfl ?_
    refine zp_const (pc := 184) hx hb (zd_X12_readOrder (184, .bipush 7, 2, 0, []) (List.mem_of_getElem? (i := 99) rfl)) rfl rfl ?_
    refine zp_add (n := (8 * (n0 : Int) + 7)) (pc := 186) hx hb (zd_X12_readOrder (186, .iadd, 1, 0, []) (List.mem_of_getElem? (i := 100) rfl)) (by omega) (zp_r0 (by omega) (by omega)) ?_
    refine zp_const (pc := 187) hx hb (zd_X12_readOrder (187, .iconst 1, 1, 0, []) (List.mem_of_getElem? (i := 101) rfl)) rfl rfl ?_
    refine zp_iast (j := (8 * n0 + 7)) (pc := 188) hx hb hw heff (zd_X12_readOrder (188, .iastore, 1, 0, []) (List.mem_of_getElem? (i := 102) rfl)) (show zp_ia 1 90 = some (96, 0, 0, (-2147483648), 2147483647) from rfl) hq56 (by omega) (by omega) (zp_o0 (by omega) (by omega) (by omega) (by omega)) rfl ?_
    refine zp_load (pc := 189) hx hb (zd_X12_readOrder (189, .aload_n 0, 1, 0, []) (List.mem_of_getElem? (i := 103) rfl)) rfl (j := 3) rfl ?_
    refine zp_getf (n := 0) (pc := 190) hx hb hE hw (zd_X12_readOrder (190, .getfield 240, 3, 0, []) (List.mem_of_getElem? (i := 104) rfl)) (j := 37) rfl rfl rfl hp ((zp_set_ne (Or.inl (zp_pne hp hq56 (by decide)))).trans (g19)) ?_
    refine zp_if (pc := 193) (tgt := 227) hx hb (zd_X12_readOrder (193, .ifCond .ne 34, 3, 0, []) (List.mem_of_getElem? (i := 105) rfl)) rfl (fun (hcq29 : ¬ 0 = 0) => ?_) (fun (hcq29 : ¬ (¬ 0 = 0)) => ?_)
    · exfalso
      omega
    · refine zp_load (pc := 196) hx hb (zd_X12_readOrder (196, .aload_n 0, 1, 0, []) (List.mem_of_getElem? (i := 106) rfl)) rfl (j := 3) rfl ?_
      refine zp_ldc2 (pc := 197) hx hb hE (zd_X12_readOrder (197, .ldc2_w 535, 3, 0, []) (List.mem_of_getElem? (i := 107) rfl)) (j := 120) rfl ?_
      have i16 : (zp_set G b56 (2000 + (8 * n0 + 7)) 1) a 16 = G a 16 := ((zp_set_ne (Or.inl (zp_pne hp hq56 (by decide)))))
      have i17 : (zp_set G b56 (2000 + (8 * n0 + 7)) 1) a 17 = G a 17 := ((zp_set_ne (Or.inl (zp_pne hp hq56 (by decide)))))
      refine zp_call (pc := 200) (how := 0) (idx := 300) (mi := 216) (S := []) hx hb hE hw heff hrm (zY_wo hW) rfl (j := 18) rfl rfl (by decide +kernel) (zd_X12_readOrder (200, .invokevirtual 300, 3, 0, []) (List.mem_of_getElem? (i := 108) rfl)) [(a : Int), 21279923] rfl ⟨zp_o2 hp, zp_o1 ⟨by decide, by decide⟩, trivial⟩ (Nat.le_of_ble_eq_true rfl) trivial (fun al hal rnw Pw Gw hextw hfrw hokw hcsw hpsiw => ?_)
      obtain rfl := List.mem_singleton.mp hal
      have hrw := zp_int (hokw _ rfl).1
      obtain ⟨hPew, hGew, htw⟩ := hpsiw
      rw [hPew, hGew]
      have htw : rnw = 1 ↔ (zp_set G b56 (2000 + (8 * n0 + 7)) 1) a 16 = 1 ∧ (zp_set G b56 (2000 + (8 * n0 + 7)) 1) a 17 = 21279923 := htw
      rw [i16, i17, g16, g17] at htw
      refine zp_if (pc := 203) (tgt := 227) hx hb (zd_X12_readOrder (203, .ifCond .eq 24, 3, 0, []) (List.mem_of_getElem? (i := 109) rfl)) rfl (fun (hcq30 : rnw = 0) => ?_) (fun (hcq30 : ¬ (rnw = 0)) => ?_)
      · exact h227 k3 its _ p1 n1 od1 pi1 cd1 (yu v 7 1) x y 1 hn0 hir (zD_o (t := 90) hDG hTG hp hq56 (by decide)) hn15 hc15 hlt1 (zDw_o (t := 90) hwG (zp_pne hq56 hp (by decide)) (by decide) hq56) (zDt_o (t := 90) hTG hp hq56 (by decide)) (((zp_set_ne (Or.inl (zp_pne hp hq56 (by decide)))).trans (g21))) (((zp_set_ne (Or.inl (zp_pne hp hq56 (by decide)))).trans (g56))) (zOw_s hO 7 1) hcc hv0 s1 s2 rfl ⟨by decide, by decide⟩ (fun s h => hk s ⟨Sum.inr (p1, 1), by unfold yt_ti; rw [if_neg (fun z => by have := yr_w_i.mp z; omega)], Or.inr ⟨p1, 1, rfl, h⟩⟩)
      · refine zp_load (pc := 206) hx hb (zd_X12_readOrder (206, .aload_n 0, 1, 0, []) (List.mem_of_getElem? (i := 110) rfl)) rfl (j := 3) rfl ?_
        have hs9 : zy_so B ln p1 ≠ 0 := by omega
        have hst6 : zD a (zp_set G b56 (2000 + (8 * n0 + 7)) 1) 0 B ln p1 n1 od1 pi1 cd1 := (zD_o (t := 90) hDG hTG hp hq56 (by decide))
        have hT6 : zDt u.1 a (zp_set G b56 (2000 + (8 * n0 + 7)) 1) := (zDt_o (t := 90) hTG hp hq56 (by decide))
        have hw6 : zDw u.1 true a (zp_set G b56 (2000 + (8 * n0 + 7)) 1) := (zDw_o (t := 90) hwG (zp_pne hq56 hp (by decide)) (by decide) hq56)
        have hO6 : zOw (zp_n u.2.1) (zp_set G b56 (2000 + (8 * n0 + 7)) 1) b56 n0 (yu v 7 1) := (zOw_s hO 7 1)
        refine zp_call (pc := 207) (how := 0) (idx := 244) (mi := 212) (S := []) hx hb hE hw heff hrm (zY_nx hW B ln (zy_to B ln p1)) rfl (j := 14) rfl rfl (by decide +kernel) (zd_X12_readOrder (207, .invokevirtual 244, 3, 0, []) (List.mem_of_getElem? (i := 111) rfl)) [(a : Int)] rfl ⟨zp_o2 hp, trivial⟩ (Nat.le_of_ble_eq_true rfl) (zD_y hst6) (fun al hal rnn Pn Gn hextn hfrn hokn hcsn hpsin => ?_)
        obtain rfl := List.mem_singleton.mp hal
        obtain ⟨rfl, htn⟩ := hpsin
        have hstn := zD_nx hst6 htn
        have hwn := zDw_fr hw6 hp hfrn rfl
        have hTn := zDt_fr hT6 hp hfrn rfl
        have hOn := zOw_fr hO6 hq56 hfrn rfl
        have n56 : Gn a 56 = (b56 : Int) := ((zp_nf hfrn hp rfl).trans ((zp_set_ne (Or.inl (zp_pne hp hq56 (by decide)))).trans (g56)))
        have n21 : Gn a 21 = (n0 : Int) + 1 := ((zp_nf hfrn hp rfl).trans ((zp_set_ne (Or.inl (zp_pne hp hq56 (by decide)))).trans (g21)))
        have hf9 := hf1.2.2 hs9
        have hwo9 : yr_w (zy_so B ln) (zy_wo B ln) 21279923 p1 = true := yr_w_i.mpr ⟨by omega, by omega⟩
        have hfx := zy_nx (B := B) hf1.1
        refine zp_load (pc := 210) hx hb (zd_X12_readOrder (210, .aload_n 0, 1, 0, []) (List.mem_of_getElem? (i := 112) rfl)) rfl (j := 3) rfl ?_
        refine zp_getf (n := (b56 : Int)) (pc := 211) hx hb hE hw (zd_X12_readOrder (211, .getfield 149, 3, 0, []) (List.mem_of_getElem? (i := 113) rfl)) (j := 74) rfl rfl rfl hp n56 ?_
        refine zp_load (pc := 214) hx hb (zd_X12_readOrder (214, .iload_n 2, 1, 0, []) (List.mem_of_getElem? (i := 114) rfl)) rfl (j := 1) rfl ?_
        refine zp_const (pc := 215) hx hb (zd_X12_readOrder (215, .bipush 7, 2, 0, []) (List.mem_of_getElem? (i := 115) rfl)) rfl rfl ?_
        refine zp_add (n := (8 * (n0 : Int) + 7)) (pc := 217) hx hb (zd_X12_readOrder (217, .iadd, 1, 0, []) (List.mem_of_getElem? (i := 116) rfl)) (by omega) (zp_r0 (by omega) (by omega)) ?_
        refine zp_load (pc := 218) hx hb (zd_X12_readOrder (218, .aload_n 0, 1, 0, []) (List.mem_of_getElem? (i := 117) rfl)) rfl (j := 3) rfl ?_
        refine zp_const (pc := 219) hx hb (zd_X12_readOrder (219, .lconst 1, 1, 0, []) (List.mem_of_getElem? (i := 118) rfl)) rfl rfl ?_
        refine zp_ldc2 (pc := 220) hx hb hE (zd_X12_readOrder (220, .ldc2_w 292, 3, 0, []) (List.mem_of_getElem? (i := 119) rfl)) (j := 98) rfl ?_
        refine zp_call (pc := 223) (how := 0) (idx := 335) (mi := 228) (S := [(0, (8 * (n0 : Int) + 7)), (2, (b56 : Int))]) hx hb hE hw heff hrm (zY_nu hW B ln (zy_to B ln p1) n1 od1 pi1 cd1) rfl (j := 30) rfl rfl (by decide +kernel) (zd_X12_readOrder (223, .invokevirtual 335, 3, 0, []) (List.mem_of_getElem? (i := 120) rfl)) [(a : Int), 1, 20] rfl ⟨zp_o2 hp, zp_o1 ⟨by decide, by decide⟩, zp_o1 ⟨by decide, by decide⟩, trivial⟩ (Nat.le_of_ble_eq_true rfl) hstn (fun al hal rnk Pk Gk hextk hfrk hokk hcsk hpsik => ?_)
        obtain rfl := List.mem_singleton.mp hal
        have hrk := zp_int (hokk _ rfl).1
        obtain ⟨rfl, htk⟩ := hpsik
        have hTk := zDt_fr hTn hp hfrk rfl
        have hwk := zDw_fr hwn hp hfrk rfl
        have hOk := zOw_fr hOn hq56 hfrk rfl
        have k56 : Gk a 56 = (b56 : Int) := ((zp_nf hfrk hp rfl).trans n56)
        have k21 : Gk a 21 = (n0 : Int) + 1 := ((zp_nf hfrk hp rfl).trans n21)
        have htk : (¬ (zy_so B ln (zy_to B ln p1) = 2 ∧ (1 : Int) ≤ zy_wo B ln (zy_to B ln p1) ∧ zy_wo B ln (zy_to B ln p1) ≤ 20) → zD a Gk 1 B ln (zy_to B ln p1) n1 od1 pi1 cd1 ∧ Gk a 18 = (zy_fr B ln (zy_to B ln p1) : Int)) ∧ ((zy_so B ln (zy_to B ln p1) = 2 ∧ (1 : Int) ≤ zy_wo B ln (zy_to B ln p1) ∧ zy_wo B ln (zy_to B ln p1) ≤ 20) → zD a Gk 0 B ln (zy_to B ln (zy_to B ln p1)) n1 od1 pi1 cd1 ∧ (-2147483648 ≤ (1 : Int) → (20 : Int) ≤ 2147483647 → rnk = zy_wo B ln (zy_to B ln p1))) := htk
        replace htk : zHid _ := htk
        by_cases hnu : zy_so B ln (zy_to B ln p1) = 2 ∧ (1 : Int) ≤ zy_wo B ln (zy_to B ln p1) ∧ zy_wo B ln (zy_to B ln p1) ≤ 20
        · obtain ⟨hDk, hrk9⟩ := htk.2 hnu
          have hrk9 := hrk9 (by decide) (by decide)
          have hf8 := hfx.2.2 (by omega)
          refine zp_iast (j := (8 * n0 + 7)) (pc := 226) hx hb hw heff (zd_X12_readOrder (226, .iastore, 1, 0, []) (List.mem_of_getElem? (i := 121) rfl)) (show zp_ia 1 90 = some (96, 0, 0, (-2147483648), 2147483647) from rfl) hq56 (by omega) (by omega) (zp_o0 (by omega) (by omega) (by omega) (by omega)) rfl ?_
          have hnub : yt_nu (zy_so B ln) (zy_wo B ln) 1 20 (zy_to B ln p1) = true := by unfold yt_nu; rw [Bool.and_eq_true, Bool.and_eq_true, decide_eq_true_eq, decide_eq_true_eq, decide_eq_true_eq]; exact hnu
          exact h227 k3 its _ (zy_to B ln (zy_to B ln p1)) n1 od1 pi1 cd1 (yu (yu v 7 1) 7 rnk) x y rnk hn0 hir (zD_o (t := 90) hDk hTk hp hq56 (by decide)) hn15 (by omega) (by omega) (zDw_o (t := 90) hwk (zp_pne hq56 hp (by decide)) (by decide) hq56) (zDt_o (t := 90) hTk hp hq56 (by decide)) (((zp_set_ne (Or.inl (zp_pne hp hq56 (by decide)))).trans (k21))) (((zp_set_ne (Or.inl (zp_pne hp hq56 (by decide)))).trans (k56))) (zOw_s hOk 7 rnk) hcc hv0 s1 s2 rfl ⟨by omega, by omega⟩ (fun s h => hk s ⟨Sum.inr (zy_to B ln (zy_to B ln p1), zy_wo B ln (zy_to B ln p1)), by unfold yt_ti; rw [if_pos hwo9, if_pos hnub], Or.inr ⟨_, _, rfl, by rw [← hrk9]; exact h⟩⟩)
        · obtain ⟨hDk, h18⟩ := htk.1 hnu
          refine zp_iast (j := (8 * n0 + 7)) (pc := 226) hx hb hw heff (zd_X12_readOrder (226, .iastore, 1, 0, []) (List.mem_of_getElem? (i := 121) rfl)) (show zp_ia 1 90 = some (96, 0, 0, (-2147483648), 2147483647) from rfl) hq56 (by omega) (by omega) (zp_o0 (by omega) (by omega) (by omega) (by omega)) rfl ?_
          have hnub : ¬ yt_nu (zy_so B ln) (zy_wo B ln) 1 20 (zy_to B ln p1) = true := by unfold yt_nu; rw [Bool.and_eq_true, Bool.and_eq_true, decide_eq_true_eq, decide_eq_true_eq, decide_eq_true_eq]; exact hnu
          have hres := hk (Sum.inl (zy_to B ln p1)) ⟨Sum.inl (zy_to B ln p1), by unfold yt_ti; rw [if_pos hwo9, if_neg hnub], Or.inl ⟨_, rfl, rfl⟩⟩
          exact hb227 (zy_to B ln p1) k3 its _ hn0 hir ⟨_, _, _, _, _, (zD_o (t := 90) hDk hTk hp hq56 (by decide))⟩ (((zp_set_ne (Or.inl (zp_pne hp hq56 (by decide)))).trans (h18))) (zDt_o (t := 90) hTk hp hq56 (by decide)) (((zp_set_ne (Or.inl (zp_pne hp hq56 (by decide)))).trans (k56))) hres
  have h149 : ∀ (k3 its : Int) (G : Nat → Nat → Int) (p1 n1 od1 : Nat) (pi1 : List (Int × Int)) (cd1 : yC) (v : Nat → Int) (x : Option yD), n0 < 12 → 0 ≤ its ∧ its ≤ 3 → zD a G 0 B ln p1 n1 od1 pi1 cd1 → n1 ≤ 50 → cd1.2.2 ≤ zy_fr B ln p1 → zy_fr B ln tk < zy_fr B ln p1 → zDw u.1 true a G → zDt u.1 a G → G a 21 = (n0 : Int) + 1 → G a 56 = (b56 : Int) → zOw (zp_n u.2.1) G b56 n0 v → (cd.2.2 ≤ cd1.2.2 ∧ ∀ j, j < cd.2.2 → cd1.1 j = cd.1 j ∧ cd1.2.1 j = cd.2.1 j) → v 0 = its → ((its = 2 ∧ x = none ∧ v 1 = 0 ∧ v 2 = 0) ∨ ∃ xx, ¬ its = 2 ∧ x = some xx ∧ zLp cd1.1 cd1.2.1 cd1.2.2 (v 1) (v 2) xx) → v 3 = 0 ∧ v 4 = 0 → (∀ s, yo_2 (zy_so B ln) (zy_wo B ln) (zy_to B ln) (ylf true B ln) its x p1 n1 s → yt_co (zy_so B ln) (zy_wo B ln) (zy_to B ln) (ylf true B ln) tk nl s) → zp_J p l e R s m args below meth c Q w u [] 149 [(3, 0, k3), (2, 0, (8 * (n0 : Int))), (1, 0, its), (0, 2, (a : Int))] [] u.1 G := by
    clear hb265 hb227 hb149 h265 h227
    intro k3 its G p1 n1 od1 pi1 cd1 v x hn0 hir hDG hn15 hc15 hlt1 hwG hTG g21 g56 hO hcc hv0 s1 hv34 hk
    replace s1 : zHid _ := s1
    have hDG2 := hDG
    obtain ⟨⟨g13, gl, gt, g12, gB⟩, ⟨g14, g15, g16, g17⟩, ⟨g19, g18⟩, ⟨g23, g24, g25⟩, g26, ⟨g29, gp⟩, g30⟩ := hDG2
    have hf1 := zy_nx (B := B) gt
    refine zp_load (pc := 149) hx hb (zd_X12_readOrder (149, .iload_n 1, 1, 0, []) (List.mem_of_getElem? (i := 80) rfl)) rfl (j := 2) rfl ?_
    refine zp_const (pc := 150) hx hb (zd_X12_readOrder (150, .iconst 1, 1, 0, []) (List.mem_of_getElem? (i := 81) rfl)) rfl rfl ?_
    refine zp_icmp (pc := 151) (tgt := 179) hx hb (zd_X12_readOrder (151, .if_icmp .ne 28, 3, 0, []) (List.mem_of_getElem? (i := 82) rfl)) rfl (fun (hcq31 : ¬ its = 1) => ?_) (fun (hcq31 : ¬ (¬ its = 1)) => ?_)
    · exact h179 k3 its G p1 n1 od1 pi1 cd1 v x none hn0 hir hDG hn15 hc15 hlt1 hwG hTG g21 g56 hO hcc hv0 s1 (Or.inl ⟨by omega, rfl, hv34.1, hv34.2⟩) (fun s h => hk s ⟨Sum.inr (p1, n1, none), by rw [if_neg (by omega)], Or.inr ⟨p1, n1, none, rfl, h⟩⟩)
    · refine zp_load (pc := 154) hx hb (zd_X12_readOrder (154, .aload_n 0, 1, 0, []) (List.mem_of_getElem? (i := 83) rfl)) rfl (j := 3) rfl ?_
      refine zp_getf (n := 0) (pc := 155) hx hb hE hw (zd_X12_readOrder (155, .getfield 240, 3, 0, []) (List.mem_of_getElem? (i := 84) rfl)) (j := 37) rfl rfl rfl hp g19 ?_
      refine zp_if (pc := 158) (tgt := 172) hx hb (zd_X12_readOrder (158, .ifCond .ne 14, 3, 0, []) (List.mem_of_getElem? (i := 85) rfl)) rfl (fun (hcq32 : ¬ 0 = 0) => ?_) (fun (hcq32 : ¬ (¬ 0 = 0)) => ?_)
      · exfalso
        omega
      · refine zp_load (pc := 161) hx hb (zd_X12_readOrder (161, .aload_n 0, 1, 0, []) (List.mem_of_getElem? (i := 86) rfl)) rfl (j := 3) rfl ?_
        refine zp_load (pc := 162) hx hb (zd_X12_readOrder (162, .aload_n 0, 1, 0, []) (List.mem_of_getElem? (i := 87) rfl)) rfl (j := 3) rfl ?_
        refine zp_ldc2 (pc := 163) hx hb hE (zd_X12_readOrder (163, .ldc2_w 533, 3, 0, []) (List.mem_of_getElem? (i := 88) rfl)) (j := 119) rfl ?_
        refine zp_call (pc := 166) (how := 0) (idx := 300) (mi := 216) (S := [(2, (a : Int))]) hx hb hE hw heff hrm (zY_wo hW) rfl (j := 18) rfl rfl (by decide +kernel) (zd_X12_readOrder (166, .invokevirtual 300, 3, 0, []) (List.mem_of_getElem? (i := 89) rfl)) [(a : Int), 89] rfl ⟨zp_o2 hp, zp_o1 ⟨by decide, by decide⟩, trivial⟩ (Nat.le_of_ble_eq_true rfl) trivial (fun al hal rnw Pw Gw hextw hfrw hokw hcsw hpsiw => ?_)
        obtain rfl := List.mem_singleton.mp hal
        have hrw := zp_int (hokw _ rfl).1
        obtain ⟨hPew, hGew, htw⟩ := hpsiw
        rw [hPew, hGew]
        have htw : rnw = 1 ↔ G a 16 = 1 ∧ G a 17 = 89 := htw
        rw [g16, g17] at htw
        refine zp_call (pc := 169) (how := 0) (idx := 275) (mi := 217) (S := []) hx hb hE hw heff hrm (zY_mu hW B ln p1 n1 od1 pi1 cd1) rfl (j := 19) rfl rfl (by decide +kernel) (zd_X12_readOrder (169, .invokevirtual 275, 3, 0, []) (List.mem_of_getElem? (i := 90) rfl)) [(a : Int), rnw] rfl ⟨zp_o2 hp, zp_o0 (by omega) (by omega) (by omega) (by omega), trivial⟩ (Nat.le_of_ble_eq_true rfl) hDG (fun al hal rnm Pm Gm hextm hfrm hokm hcsm hpsim => ?_)
        obtain rfl := List.mem_singleton.mp hal
        obtain ⟨rfl, htm⟩ := hpsim
        have hTm := zDt_fr hTG hp hfrm rfl
        have hwm := zDw_fr hwG hp hfrm rfl
        have hOm := zOw_fr hO hq56 hfrm rfl
        have m56 : Gm a 56 = (b56 : Int) := ((zp_nf hfrm hp rfl).trans g56)
        have m21 : Gm a 21 = (n0 : Int) + 1 := ((zp_nf hfrm hp rfl).trans g21)
        have htm : ((rnw : Int) ≠ 1 → zD a Gm 1 B ln p1 n1 od1 pi1 cd1 ∧ Gm a 18 = (zy_fr B ln p1 : Int)) ∧ ((rnw : Int) = 1 → zD a Gm 0 B ln (zy_to B ln p1) n1 od1 pi1 cd1) := htm
        replace htm : zHid _ := htm
        by_cases hmz : rnw = 1
        · have hDm := htm.2 hmz
          have hs9 : zy_so B ln p1 ≠ 0 := by omega
          have hf9 := hf1.2.2 hs9
          have hby : yr_w (zy_so B ln) (zy_wo B ln) 89 p1 = true := yr_w_i.mpr ⟨by omega, by omega⟩
          refine zp_load (pc := 172) hx hb (zd_X12_readOrder (172, .aload_n 0, 1, 0, []) (List.mem_of_getElem? (i := 91) rfl)) rfl (j := 3) rfl ?_
          refine zp_load (pc := 173) hx hb (zd_X12_readOrder (173, .iload_n 2, 1, 0, []) (List.mem_of_getElem? (i := 92) rfl)) rfl (j := 1) rfl ?_
          refine zp_const (pc := 174) hx hb (zd_X12_readOrder (174, .iconst 3, 1, 0, []) (List.mem_of_getElem? (i := 93) rfl)) rfl rfl ?_
          refine zp_add (n := (8 * (n0 : Int) + 3)) (pc := 175) hx hb (zd_X12_readOrder (175, .iadd, 1, 0, []) (List.mem_of_getElem? (i := 94) rfl)) (by omega) (zp_r0 (by omega) (by omega)) ?_
          refine zp_call (pc := 176) (how := 0) (idx := 530) (mi := 289) (S := []) hx hb hE hw heff hrm (zY_rs hW (8 * n0 + 3) B ln (zy_to B ln p1) n1 od1 pi1 cd1) rfl (j := 70) rfl rfl (by decide +kernel) (zd_X12_readOrder (176, .invokevirtual 530, 3, 0, []) (List.mem_of_getElem? (i := 95) rfl)) [(a : Int), (8 * (n0 : Int) + 3)] rfl ⟨zp_o2 hp, zp_o0 (by omega) (by omega) (by omega) (by omega), trivial⟩ (Nat.le_of_ble_eq_true rfl) ⟨by show (8 * (n0 : Int) + 3) = ((8 * n0 + 3 : Nat) : Int); omega, hDm, hn15, by omega, hwm, hTm⟩ (fun al hal rnr Pr Gr hextr hfrr hokr hcsr hpsir => ?_)
          obtain rfl := List.mem_singleton.mp hal
          obtain ⟨rfl, htr⟩ := hpsir
          have hTr := zDt_fr hTm hp hfrr rfl
          have r56 : Gr a 56 = (b56 : Int) := ((zp_nf hfrr hp rfl).trans m56)
          have r21 : Gr a 21 = (n0 : Int) + 1 := ((zp_nf hfrr hp rfl).trans m21)
          obtain ⟨sr, hsr, hcr⟩ := htr
          rcases hcr with ⟨q9, hq9, hB9, h18⟩ | ⟨p2, n2, y2, ky, od2, cd2, hs8, hn25, hD2, hF2, hk5, hc25, hlt2, ho2, e1, e2⟩
          · subst hq9
            have hres := hk (Sum.inl q9) ⟨Sum.inl q9, by rw [if_pos (by omega), if_pos hby]; exact hsr, Or.inl ⟨q9, rfl, rfl⟩⟩
            exact hb179 q9 k3 its Gr hn0 hir hB9 h18 hTr r56 hres
          · subst hs8
            have hl2 := yF_lt hF2
            refine h179 k3 its Gr p2 n2 od2 [] cd2 (yu (yu v 3 (cd1.2.2 : Int)) (3 + 1) (cd2.2.2 : Int)) x (some y2) hn0 hir hD2 hn25 hc25 (by omega) (zDw_fr hwm hp hfrr rfl) hTr r21 r56 (zOw_rs hOm m56 r56 ho2 e1 e2) ⟨by omega, fun j hj => ?_⟩ hv0 ?_ (Or.inr ⟨y2, by omega, rfl, zLp_F hF2 hk5 rfl rfl⟩) (fun s h => hk s ⟨Sum.inr (p2, n2, some y2), by rw [if_pos (by omega), if_pos hby]; exact hsr, Or.inr ⟨p2, n2, some y2, rfl, h⟩⟩)
            · have z1 := hcc.2 j hj
              have z2 := hF2.1 j (by omega)
              exact ⟨z2.1.trans z1.1, z2.2.trans z1.2⟩
            · rcases s1 with z | ⟨xx, z1, z2, z3⟩
              · exact Or.inl z
              · exact Or.inr ⟨xx, z1, z2, zLp_c z3 (by omega) (fun j hj => hF2.1 j hj)⟩
        · obtain ⟨hDm, h18⟩ := htm.1 hmz
          have hby : ¬ yr_w (zy_so B ln) (zy_wo B ln) 89 p1 = true := (fun z => by have := yr_w_i.mp z; omega)
          have hres := hk (Sum.inl p1) ⟨Sum.inl p1, by rw [if_pos (by omega), if_neg hby], Or.inl ⟨p1, rfl, rfl⟩⟩
          exact hb172 p1 k3 its Gm hn0 hir ⟨_, _, _, _, _, hDm⟩ h18 hTm m56 hres
  have h130 : ∀ (k3 its : Int) (G : Nat → Nat → Int), n0 < 12 → its = yt_ho (zy_so B ln) (zy_wo B ln) tk → ¬ its = -1 → zD a G 0 B ln (zy_to B ln tk) nl od pi cd → zDw u.1 true a G → zDt u.1 a G → G a 21 = (n0 : Int) + 1 → G a 56 = (b56 : Int) → zOw (zp_n u.2.1) G b56 n0 (fun _ => 0) → zp_J p l e R s m args below meth c Q w u [] 130 [(3, 0, k3), (2, 0, (8 * (n0 : Int))), (1, 0, its), (0, 2, (a : Int))] [] u.1 G := by
    clear hb265 hb227 hb179 hb172 h265 h227 h179
    intro k3 its G hn0 hits hne hG hwG hTG g21 g56 hO
    have hir : 0 ≤ its ∧ its ≤ 3 := by
      have := zO_hr (zy_so B ln) (zy_wo B ln) tk
      omega
    have hs1 : zy_so B ln tk = 1 := by
      have := zO_hr (zy_so B ln) (zy_wo B ln) tk
      omega
    have hft2 := hft.2.2 (by omega)
    have hne2 : ¬ yt_ho (zy_so B ln) (zy_wo B ln) tk = -1 := by omega
    refine zp_load (pc := 130) hx hb (zd_X12_readOrder (130, .aload_n 0, 1, 0, []) (List.mem_of_getElem? (i := 67) rfl)) rfl (j := 3) rfl ?_
    refine zp_getf (n := (b56 : Int)) (pc := 131) hx hb hE hw (zd_X12_readOrder (131, .getfield 149, 3, 0, []) (List.mem_of_getElem? (i := 68) rfl)) (j := 74) rfl rfl rfl hp g56 ?_
    refine zp_load (pc := 134) hx hb (zd_X12_readOrder (134, .iload_n 2, 1, 0, []) (List.mem_of_getElem? (i := 69) rfl)) rfl (j := 1) rfl ?_
    refine zp_load (pc := 135) hx hb (zd_X12_readOrder (135, .iload_n 1, 1, 0, []) (List.mem_of_getElem? (i := 70) rfl)) rfl (j := 2) rfl ?_
    refine zp_iast (j := (8 * n0)) (pc := 136) hx hb hw heff (zd_X12_readOrder (136, .iastore, 1, 0, []) (List.mem_of_getElem? (i := 71) rfl)) (show zp_ia 1 90 = some (96, 0, 0, (-2147483648), 2147483647) from rfl) hq56 (by omega) (by omega) (zp_o0 (by omega) (by omega) (by omega) (by omega)) rfl ?_
    refine zp_load (pc := 137) hx hb (zd_X12_readOrder (137, .iload_n 1, 1, 0, []) (List.mem_of_getElem? (i := 72) rfl)) rfl (j := 2) rfl ?_
    refine zp_const (pc := 138) hx hb (zd_X12_readOrder (138, .iconst 2, 1, 0, []) (List.mem_of_getElem? (i := 73) rfl)) rfl rfl ?_
    refine zp_icmp (pc := 139) (tgt := 149) hx hb (zd_X12_readOrder (139, .if_icmp .eq 10, 3, 0, []) (List.mem_of_getElem? (i := 74) rfl)) rfl (fun (hcq33 : its = 2) => ?_) (fun (hcq33 : ¬ (its = 2)) => ?_)
    · exact h149 k3 its _ (zy_to B ln tk) nl od pi cd (yu (fun _ => 0) 0 its) none hn0 hir (zD_o (t := 90) hG hTG hp hq56 (by decide)) hn5 (by omega) (by omega) (zDw_o (t := 90) hwG (zp_pne hq56 hp (by decide)) (by decide) hq56) (zDt_o (t := 90) hTG hp hq56 (by decide)) (((zp_set_ne (Or.inl (zp_pne hp hq56 (by decide)))).trans (g21))) (((zp_set_ne (Or.inl (zp_pne hp hq56 (by decide)))).trans (g56))) (zOw_s hO 0 its) ⟨Nat.le_refl _, fun j hj => ⟨rfl, rfl⟩⟩ rfl (Or.inl ⟨by omega, rfl, rfl, rfl⟩) ⟨rfl, rfl⟩ (fun s hs => yo_go hne2 (by rw [if_pos (by omega)]) (by rw [← hits]; exact hs))
    · refine zp_load (pc := 142) hx hb (zd_X12_readOrder (142, .aload_n 0, 1, 0, []) (List.mem_of_getElem? (i := 75) rfl)) rfl (j := 3) rfl ?_
      refine zp_load (pc := 143) hx hb (zd_X12_readOrder (143, .iload_n 2, 1, 0, []) (List.mem_of_getElem? (i := 76) rfl)) rfl (j := 1) rfl ?_
      refine zp_const (pc := 144) hx hb (zd_X12_readOrder (144, .iconst 1, 1, 0, []) (List.mem_of_getElem? (i := 77) rfl)) rfl rfl ?_
      refine zp_add (n := (8 * (n0 : Int) + 1)) (pc := 145) hx hb (zd_X12_readOrder (145, .iadd, 1, 0, []) (List.mem_of_getElem? (i := 78) rfl)) (by omega) (zp_r0 (by omega) (by omega)) ?_
      have hst : zD a (zp_set G b56 (2000 + (8 * n0)) its) 0 B ln (zy_to B ln tk) nl od pi cd := (zD_o (t := 90) hG hTG hp hq56 (by decide))
      have hTt : zDt u.1 a (zp_set G b56 (2000 + (8 * n0)) its) := (zDt_o (t := 90) hTG hp hq56 (by decide))
      have hwt : zDw u.1 true a (zp_set G b56 (2000 + (8 * n0)) its) := (zDw_o (t := 90) hwG (zp_pne hq56 hp (by decide)) (by decide) hq56)
      have hOt : zOw (zp_n u.2.1) (zp_set G b56 (2000 + (8 * n0)) its) b56 n0 (yu (fun _ => 0) 0 its) := (zOw_s hO 0 its)
      have t56 : (zp_set G b56 (2000 + (8 * n0)) its) a 56 = (b56 : Int) := ((zp_set_ne (Or.inl (zp_pne hp hq56 (by decide)))).trans (g56))
      refine zp_call (pc := 146) (how := 0) (idx := 530) (mi := 289) (S := []) hx hb hE hw heff hrm (zY_rs hW (8 * n0 + 1) B ln (zy_to B ln tk) nl od pi cd) rfl (j := 70) rfl rfl (by decide +kernel) (zd_X12_readOrder (146, .invokevirtual 530, 3, 0, []) (List.mem_of_getElem? (i := 79) rfl)) [(a : Int), (8 * (n0 : Int) + 1)] rfl ⟨zp_o2 hp, zp_o0 (by omega) (by omega) (by omega) (by omega), trivial⟩ (Nat.le_of_ble_eq_true rfl) ⟨by show (8 * (n0 : Int) + 1) = ((8 * n0 + 1 : Nat) : Int); omega, hst, hn5, by omega, hwt, hTt⟩ (fun al hal rnr Pr Gr hextr hfrr hokr hcsr hpsir => ?_)
      obtain rfl := List.mem_singleton.mp hal
      obtain ⟨rfl, htr⟩ := hpsir
      have hTr := zDt_fr hTt hp hfrr rfl
      have r56 : Gr a 56 = (b56 : Int) := ((zp_nf hfrr hp rfl).trans ((zp_set_ne (Or.inl (zp_pne hp hq56 (by decide)))).trans (g56)))
      have r21 : Gr a 21 = (n0 : Int) + 1 := ((zp_nf hfrr hp rfl).trans ((zp_set_ne (Or.inl (zp_pne hp hq56 (by decide)))).trans (g21)))
      obtain ⟨sr, hsr, hcr⟩ := htr
      rcases hcr with ⟨q9, hq9, hB9, h18⟩ | ⟨p2, n2, y2, ky, od2, cd2, hs8, hn25, hD2, hF2, hk5, hc25, hlt2, ho2, e1, e2⟩
      · subst hq9
        have hres : yt_co (zy_so B ln) (zy_wo B ln) (zy_to B ln) (ylf true B ln) tk nl (Sum.inl q9) := yo_bad hne2 (by rw [if_neg (by omega)]; exact hsr)
        exact hb149 q9 k3 its Gr hn0 hir hB9 h18 hTr r56 hres
      · subst hs8
        have hl2 := yF_lt hF2
        exact h149 k3 its Gr p2 n2 od2 [] cd2 (yu (yu (yu (fun _ => 0) 0 its) 1 (cd.2.2 : Int)) (1 + 1) (cd2.2.2 : Int)) (some y2) hn0 hir hD2 hn25 hc25 (by omega) (zDw_fr hwt hp hfrr rfl) hTr r21 r56 (zOw_rs hOt t56 r56 ho2 e1 e2) ⟨by omega, fun j hj => hF2.1 j hj⟩ rfl (Or.inr ⟨y2, by omega, rfl, zLp_F hF2 hk5 rfl rfl⟩) ⟨rfl, rfl⟩ (fun s hs => yo_go hne2 (by rw [if_neg (by omega)]; exact hsr) (by rw [← hits]; exact hs))
  have loop : ∀ (n k : Nat) (its : Int) (G : Nat → Nat → Int), 8 - k < n → k ≤ 8 → n0 < 12 → its = yt_ho (zy_so B ln) (zy_wo B ln) tk → ¬ its = -1 → zD a G 0 B ln (zy_to B ln tk) nl od pi cd → zDw u.1 true a G → zDt u.1 a G → G a 21 = (n0 : Int) + 1 → G a 56 = (b56 : Int) → ((∀ j, j < 8 * n0 → G b56 (2000 + j) = zp_n u.2.1 b56 (2000 + j)) ∧ ∀ j, j < k → G b56 (2000 + (8 * n0 + j)) = 0) → zp_J p l e R s m args below meth c Q w u [] 109 [(3, 0, (k : Int)), (2, 0, (8 * (n0 : Int))), (1, 0, its), (0, 2, (a : Int))] [] u.1 G := by
    clear hb265 hb227 hb179 hb172 hb149 h265 h227 h179 h149
    intro n
    induction n with
    | zero => intro k its G h; exact absurd h (Nat.not_lt_zero _)
    | succ n ih =>
      intro k its G hn hk8 hn0 hits hne hG hwG hTG g21 g56 hz
      refine zp_load (pc := 109) hx hb (zd_X12_readOrder (109, .iload_n 3, 1, 0, []) (List.mem_of_getElem? (i := 55) rfl)) rfl (j := 0) rfl ?_
      refine zp_const (pc := 110) hx hb (zd_X12_readOrder (110, .bipush 8, 2, 0, []) (List.mem_of_getElem? (i := 56) rfl)) rfl rfl ?_
      refine zp_icmp (pc := 112) (tgt := 130) hx hb (zd_X12_readOrder (112, .if_icmp .ge 18, 3, 0, []) (List.mem_of_getElem? (i := 57) rfl)) rfl (fun (hcq34 : 8 ≤ (k : Int)) => ?_) (fun (hcq34 : ¬ (8 ≤ (k : Int))) => ?_)
      · have hk9 : k = 8 := by omega
        subst hk9
        exact h130 _ its G hn0 hits hne hG hwG hTG g21 g56 ⟨hz.1, hz.2⟩
      · refine zp_load (pc := 115) hx hb (zd_X12_readOrder (115, .aload_n 0, 1, 0, []) (List.mem_of_getElem? (i := 58) rfl)) rfl (j := 3) rfl ?_
        refine zp_getf (n := (b56 : Int)) (pc := 116) hx hb hE hw (zd_X12_readOrder (116, .getfield 149, 3, 0, []) (List.mem_of_getElem? (i := 59) rfl)) (j := 74) rfl rfl rfl hp g56 ?_
        refine zp_load (pc := 119) hx hb (zd_X12_readOrder (119, .iload_n 2, 1, 0, []) (List.mem_of_getElem? (i := 60) rfl)) rfl (j := 1) rfl ?_
        refine zp_load (pc := 120) hx hb (zd_X12_readOrder (120, .iload_n 3, 1, 0, []) (List.mem_of_getElem? (i := 61) rfl)) rfl (j := 0) rfl ?_
        refine zp_add (n := (8 * (n0 : Int) + (k : Int))) (pc := 121) hx hb (zd_X12_readOrder (121, .iadd, 1, 0, []) (List.mem_of_getElem? (i := 62) rfl)) (by omega) (zp_r0 (by omega) (by omega)) ?_
        refine zp_const (pc := 122) hx hb (zd_X12_readOrder (122, .iconst 0, 1, 0, []) (List.mem_of_getElem? (i := 63) rfl)) rfl rfl ?_
        refine zp_iast (j := (8 * n0 + k)) (pc := 123) hx hb hw heff (zd_X12_readOrder (123, .iastore, 1, 0, []) (List.mem_of_getElem? (i := 64) rfl)) (show zp_ia 1 90 = some (96, 0, 0, (-2147483648), 2147483647) from rfl) hq56 (by omega) (by omega) (zp_o0 (by omega) (by omega) (by omega) (by omega)) rfl ?_
        refine zp_iinc (L' := [(3, 0, ((k : Int) + 1)), (2, 0, (8 * (n0 : Int))), (1, 0, its), (0, 2, (a : Int))]) (n := ((k : Int) + 1)) (pc := 124) hx hb hnL (zd_X12_readOrder (124, .iinc 3 1, 3, 0, []) (List.mem_of_getElem? (i := 65) rfl)) (j := 0) rfl (by omega) (zp_r0 (by omega) (by omega)) rfl rfl ?_
        refine zp_goto (tgt := 109) (pc := 127) hx hb (zd_X12_readOrder (127, .goto (-18), 3, 0, []) (List.mem_of_getElem? (i := 66) rfl)) rfl ?_
        refine ih (k + 1) its _ (by omega) (by omega) hn0 hits hne (zD_o (t := 90) hG hTG hp hq56 (by decide)) (zDw_o (t := 90) hwG (zp_pne hq56 hp (by decide)) (by decide) hq56) (zDt_o (t := 90) hTG hp hq56 (by decide)) (((zp_set_ne (Or.inl (zp_pne hp hq56 (by decide)))).trans (g21))) (((zp_set_ne (Or.inl (zp_pne hp hq56 (by decide)))).trans (g56))) ⟨fun j hj => (zp_set_ne (Or.inr (by omega))).trans (hz.1 j hj), fun j hj => ?_⟩
        by_cases hjk : j = k
        · subst hjk
          exact zp_set_eq rfl (by omega)
        · exact (zp_set_ne (Or.inr (by omega))).trans (hz.2 j (by omega))
  have h57 : ∀ (its : Int), its = yt_ho (zy_so B ln) (zy_wo B ln) tk → zp_J p l e R s m args below meth c Q w u [] 57 [(0, 2, (a : Int))] [(0, its)] u.1 (zp_n u.2.1) := by
    clear hb265 hb227 hb179 hb172 hb149 h265 h227 h179 h149 h130
    intro its hits
    have hhr := zO_hr (zy_so B ln) (zy_wo B ln) tk
    refine zp_store (L' := [(1, 0, its), (0, 2, (a : Int))]) (pc := 57) hx hb hnL (zd_X12_readOrder (57, .istore_n 1, 1, 0, []) (List.mem_of_getElem? (i := 25) rfl)) rfl rfl rfl ?_
    refine zp_load (pc := 58) hx hb (zd_X12_readOrder (58, .aload_n 0, 1, 0, []) (List.mem_of_getElem? (i := 26) rfl)) rfl (j := 1) rfl ?_
    refine zp_load (pc := 59) hx hb (zd_X12_readOrder (59, .iload_n 1, 1, 0, []) (List.mem_of_getElem? (i := 27) rfl)) rfl (j := 0) rfl ?_
    refine zp_const (pc := 60) hx hb (zd_X12_readOrder (60, .iconst (-1), 1, 0, []) (List.mem_of_getElem? (i := 28) rfl)) rfl rfl ?_
    refine zp_icmp (pc := 61) (tgt := 77) hx hb (zd_X12_readOrder (61, .if_icmp .eq 16, 3, 0, []) (List.mem_of_getElem? (i := 29) rfl)) rfl (fun (hcq35 : its = (-1)) => ?_) (fun (hcq35 : ¬ (its = (-1))) => ?_)
    · refine zp_const (pc := 77) hx hb (zd_X12_readOrder (77, .iconst 0, 1, 0, []) (List.mem_of_getElem? (i := 36) rfl)) rfl rfl ?_
      refine zp_call (pc := 78) (how := 0) (idx := 275) (mi := 217) (S := []) hx hb hE hw heff hrm (zY_mu hW B ln tk nl od pi cd) rfl (j := 19) rfl rfl (by decide +kernel) (zd_X12_readOrder (78, .invokevirtual 275, 3, 0, []) (List.mem_of_getElem? (i := 37) rfl)) [(a : Int), 0] rfl ⟨zp_o2 hp, zp_o0 (by decide) (by decide) (by decide) (by decide), trivial⟩ (Nat.le_of_ble_eq_true rfl) hD (fun al hal rnm Pm Gm hextm hfrm hokm hcsm hpsim => ?_)
      obtain rfl := List.mem_singleton.mp hal
      obtain ⟨rfl, htm⟩ := hpsim
      have htm : zD a Gm 1 B ln tk nl od pi cd ∧ Gm a 18 = (zy_fr B ln tk : Int) := htm.1 (show (0 : Int) ≠ 1 by decide)
      have htm2 := htm.1
      obtain ⟨⟨m13, ml, mt, m12, mB⟩, ⟨m14, m15, m16, m17⟩, ⟨m19, m18⟩, ⟨m23, m24, m25⟩, m26, ⟨m29, mp⟩, m30⟩ := htm2
      have mk21 : Gm a 21 = (n0 : Int) := ((zp_nf hfrm hp rfl).trans h21)
      have mk56 : Gm a 56 = (b56 : Int) := ((zp_nf hfrm hp rfl).trans hb56)
      refine zp_load (pc := 81) hx hb (zd_X12_readOrder (81, .aload_n 0, 1, 0, []) (List.mem_of_getElem? (i := 38) rfl)) rfl (j := 1) rfl ?_
      refine zp_getf (n := 1) (pc := 82) hx hb hE hw (zd_X12_readOrder (82, .getfield 240, 3, 0, []) (List.mem_of_getElem? (i := 39) rfl)) (j := 37) rfl rfl rfl hp m19 ?_
      refine zp_if (pc := 85) (tgt := 89) hx hb (zd_X12_readOrder (85, .ifCond .eq 4, 3, 0, []) (List.mem_of_getElem? (i := 40) rfl)) rfl (fun (hcq36 : 1 = 0) => ?_) (fun (hcq36 : ¬ (1 = 0)) => ?_)
      · exfalso
        omega
      · refine zp_vret (pc := 88) hx hb hE hQ hU5 rfl (by decide) (zd_X12_readOrder (88, .return_, 1, 0, []) (List.mem_of_getElem? (i := 41) rfl)) (j := 0) rfl ?_
        rw [hps]
        refine ⟨rfl, fun _ => ⟨⟨_, _, _, _, _, htm.1⟩, htm.2⟩, fun hz => ?_⟩
        refine ⟨Sum.inl tk, ?_, Or.inl ⟨tk, rfl, ⟨_, _, _, _, _, htm.1⟩, htm.2⟩⟩
        unfold yt_co
        rw [← hits, if_pos (by omega)]
    · refine zp_load (pc := 64) hx hb (zd_X12_readOrder (64, .aload_n 0, 1, 0, []) (List.mem_of_getElem? (i := 30) rfl)) rfl (j := 1) rfl ?_
      refine zp_getf (n := (n0 : Int)) (pc := 65) hx hb hE hw (zd_X12_readOrder (65, .getfield 371, 3, 0, []) (List.mem_of_getElem? (i := 31) rfl)) (j := 39) rfl rfl rfl hp h21 ?_
      refine zp_const (pc := 68) hx hb (zd_X12_readOrder (68, .bipush 12, 2, 0, []) (List.mem_of_getElem? (i := 32) rfl)) rfl rfl ?_
      refine zp_icmp (pc := 70) (tgt := 77) hx hb (zd_X12_readOrder (70, .if_icmp .ge 7, 3, 0, []) (List.mem_of_getElem? (i := 33) rfl)) rfl (fun (hcq37 : 12 ≤ (n0 : Int)) => ?_) (fun (hcq37 : ¬ (12 ≤ (n0 : Int))) => ?_)
      · refine zp_const (pc := 77) hx hb (zd_X12_readOrder (77, .iconst 0, 1, 0, []) (List.mem_of_getElem? (i := 36) rfl)) rfl rfl ?_
        refine zp_call (pc := 78) (how := 0) (idx := 275) (mi := 217) (S := []) hx hb hE hw heff hrm (zY_mu hW B ln tk nl od pi cd) rfl (j := 19) rfl rfl (by decide +kernel) (zd_X12_readOrder (78, .invokevirtual 275, 3, 0, []) (List.mem_of_getElem? (i := 37) rfl)) [(a : Int), 0] rfl ⟨zp_o2 hp, zp_o0 (by decide) (by decide) (by decide) (by decide), trivial⟩ (Nat.le_of_ble_eq_true rfl) hD (fun al hal rnm Pm Gm hextm hfrm hokm hcsm hpsim => ?_)
        obtain rfl := List.mem_singleton.mp hal
        obtain ⟨rfl, htm⟩ := hpsim
        have htm : zD a Gm 1 B ln tk nl od pi cd ∧ Gm a 18 = (zy_fr B ln tk : Int) := htm.1 (show (0 : Int) ≠ 1 by decide)
        have htm2 := htm.1
        obtain ⟨⟨m13, ml, mt, m12, mB⟩, ⟨m14, m15, m16, m17⟩, ⟨m19, m18⟩, ⟨m23, m24, m25⟩, m26, ⟨m29, mp⟩, m30⟩ := htm2
        have mk21 : Gm a 21 = (n0 : Int) := ((zp_nf hfrm hp rfl).trans h21)
        have mk56 : Gm a 56 = (b56 : Int) := ((zp_nf hfrm hp rfl).trans hb56)
        refine zp_load (pc := 81) hx hb (zd_X12_readOrder (81, .aload_n 0, 1, 0, []) (List.mem_of_getElem? (i := 38) rfl)) rfl (j := 1) rfl ?_
        refine zp_getf (n := 1) (pc := 82) hx hb hE hw (zd_X12_readOrder (82, .getfield 240, 3, 0, []) (List.mem_of_getElem? (i := 39) rfl)) (j := 37) rfl rfl rfl hp m19 ?_
        refine zp_if (pc := 85) (tgt := 89) hx hb (zd_X12_readOrder (85, .ifCond .eq 4, 3, 0, []) (List.mem_of_getElem? (i := 40) rfl)) rfl (fun (hcq38 : 1 = 0) => ?_) (fun (hcq38 : ¬ (1 = 0)) => ?_)
        · exfalso
          omega
        · refine zp_vret (pc := 88) hx hb hE hQ hU5 rfl (by decide) (zd_X12_readOrder (88, .return_, 1, 0, []) (List.mem_of_getElem? (i := 41) rfl)) (j := 0) rfl ?_
          rw [hps]
          refine ⟨rfl, fun _ => ⟨⟨_, _, _, _, _, htm.1⟩, htm.2⟩, fun hz => ?_⟩
          refine ⟨Sum.inl tk, ?_, Or.inl ⟨tk, rfl, ⟨_, _, _, _, _, htm.1⟩, htm.2⟩⟩
          unfold yt_co
          rw [← hits, if_pos (by omega)]
      · refine zp_const (pc := 73) hx hb (zd_X12_readOrder (73, .iconst 1, 1, 0, []) (List.mem_of_getElem? (i := 34) rfl)) rfl rfl ?_
        refine zp_goto (tgt := 78) (pc := 74) hx hb (zd_X12_readOrder (74, .goto 4, 3, 0, []) (List.mem_of_getElem? (i := 35) rfl)) rfl ?_
        refine zp_call (pc := 78) (how := 0) (idx := 275) (mi := 217) (S := []) hx hb hE hw heff hrm (zY_mu hW B ln tk nl od pi cd) rfl (j := 19) rfl rfl (by decide +kernel) (zd_X12_readOrder (78, .invokevirtual 275, 3, 0, []) (List.mem_of_getElem? (i := 37) rfl)) [(a : Int), 1] rfl ⟨zp_o2 hp, zp_o0 (by decide) (by decide) (by decide) (by decide), trivial⟩ (Nat.le_of_ble_eq_true rfl) hD (fun al hal rnm Pm Gm hextm hfrm hokm hcsm hpsim => ?_)
        obtain rfl := List.mem_singleton.mp hal
        obtain ⟨rfl, htm⟩ := hpsim
        have htm : zD a Gm 0 B ln (zy_to B ln tk) nl od pi cd := htm.2 rfl
        have htm2 := htm
        obtain ⟨⟨m13, ml, mt, m12, mB⟩, ⟨m14, m15, m16, m17⟩, ⟨m19, m18⟩, ⟨m23, m24, m25⟩, m26, ⟨m29, mp⟩, m30⟩ := htm2
        have mk21 : Gm a 21 = (n0 : Int) := ((zp_nf hfrm hp rfl).trans h21)
        have mk56 : Gm a 56 = (b56 : Int) := ((zp_nf hfrm hp rfl).trans hb56)
        refine zp_load (pc := 81) hx hb (zd_X12_readOrder (81, .aload_n 0, 1, 0, []) (List.mem_of_getElem? (i := 38) rfl)) rfl (j := 1) rfl ?_
        refine zp_getf (n := 0) (pc := 82) hx hb hE hw (zd_X12_readOrder (82, .getfield 240, 3, 0, []) (List.mem_of_getElem? (i := 39) rfl)) (j := 37) rfl rfl rfl hp m19 ?_
        refine zp_if (pc := 85) (tgt := 89) hx hb (zd_X12_readOrder (85, .ifCond .eq 4, 3, 0, []) (List.mem_of_getElem? (i := 40) rfl)) rfl (fun (hcq39 : 0 = 0) => ?_) (fun (hcq39 : ¬ (0 = 0)) => ?_)
        · refine zp_const (pc := 89) hx hb (zd_X12_readOrder (89, .bipush 8, 2, 0, []) (List.mem_of_getElem? (i := 42) rfl)) rfl rfl ?_
          refine zp_load (pc := 91) hx hb (zd_X12_readOrder (91, .aload_n 0, 1, 0, []) (List.mem_of_getElem? (i := 43) rfl)) rfl (j := 1) rfl ?_
          refine zp_getf (n := (n0 : Int)) (pc := 92) hx hb hE hw (zd_X12_readOrder (92, .getfield 371, 3, 0, []) (List.mem_of_getElem? (i := 44) rfl)) (j := 39) rfl rfl rfl hp mk21 ?_
          refine zp_mul (n := (8 * (n0 : Int))) (pc := 95) hx hb (zd_X12_readOrder (95, .imul, 1, 0, []) (List.mem_of_getElem? (i := 45) rfl)) (by omega) (zp_r0 (by omega) (by omega)) ?_
          refine zp_store (L' := [(2, 0, (8 * (n0 : Int))), (1, 0, its), (0, 2, (a : Int))]) (pc := 96) hx hb hnL (zd_X12_readOrder (96, .istore_n 2, 1, 0, []) (List.mem_of_getElem? (i := 46) rfl)) rfl rfl rfl ?_
          refine zp_load (pc := 97) hx hb (zd_X12_readOrder (97, .aload_n 0, 1, 0, []) (List.mem_of_getElem? (i := 47) rfl)) rfl (j := 2) rfl ?_
          refine zp_dup (pc := 98) hx hb (zd_X12_readOrder (98, .dup, 1, 0, []) (List.mem_of_getElem? (i := 48) rfl)) (show (2 : Nat) ≠ 1 by decide) ?_
          refine zp_getf (n := (n0 : Int)) (pc := 99) hx hb hE hw (zd_X12_readOrder (99, .getfield 371, 3, 0, []) (List.mem_of_getElem? (i := 49) rfl)) (j := 39) rfl rfl rfl hp mk21 ?_
          refine zp_const (pc := 102) hx hb (zd_X12_readOrder (102, .iconst 1, 1, 0, []) (List.mem_of_getElem? (i := 50) rfl)) rfl rfl ?_
          refine zp_add (n := ((n0 : Int) + 1)) (pc := 103) hx hb (zd_X12_readOrder (103, .iadd, 1, 0, []) (List.mem_of_getElem? (i := 51) rfl)) (by omega) (zp_r0 (by omega) (by omega)) ?_
          refine zp_putf (pc := 104) hx hb hE hw heff (zd_X12_readOrder (104, .putfield 371, 3, 0, []) (List.mem_of_getElem? (i := 52) rfl)) (j := 39) rfl rfl rfl hp (zp_o0 (by omega) (by omega) (by omega) (by omega)) ?_
          refine zp_const (pc := 107) hx hb (zd_X12_readOrder (107, .iconst 0, 1, 0, []) (List.mem_of_getElem? (i := 53) rfl)) rfl rfl ?_
          refine zp_store (L' := [(3, 0, 0), (2, 0, (8 * (n0 : Int))), (1, 0, its), (0, 2, (a : Int))]) (pc := 108) hx hb hnL (zd_X12_readOrder (108, .istore_n 3, 1, 0, []) (List.mem_of_getElem? (i := 54) rfl)) rfl rfl rfl ?_
          have hwm := zDw_fr hw0 hp hfrm rfl
          have hTm := zDt_fr hT hp hfrm rfl
          exact loop 9 0 its _ (by omega) (by omega) (by omega) hits (by omega) (zD_f (k := 21) htm rfl rfl (by decide)) (zDw_s (k := 21) hwm hp (by decide)) (zDt_f (k := 21) hTm rfl) (zp_set_self) (((zp_set_ne (Or.inr (by decide))).trans (mk56))) ⟨fun j _ => (zp_set_ne (Or.inl (zp_pne hq56 hp (by decide)))).trans (zp_nc hfrm hq56 rfl _), fun j hj => absurd hj (Nat.not_lt_zero j)⟩
        · exfalso
          omega
  refine zp_load (pc := 0) hx hb (zd_X12_readOrder (0, .aload_n 0, 1, 0, []) (List.mem_of_getElem? (i := 0) rfl)) rfl (j := 0) rfl ?_
  refine zp_ldc2 (pc := 1) hx hb hE (zd_X12_readOrder (1, .ldc2_w 522, 3, 0, []) (List.mem_of_getElem? (i := 1) rfl)) (j := 115) rfl ?_
  refine zp_call (pc := 4) (how := 0) (idx := 300) (mi := 216) (S := []) hx hb hE hw heff hrm (zY_wo hW) rfl (j := 18) rfl rfl (by decide +kernel) (zd_X12_readOrder (4, .invokevirtual 300, 3, 0, []) (List.mem_of_getElem? (i := 2) rfl)) [(a : Int), 763332] rfl ⟨zp_o2 hp, zp_o1 ⟨by decide, by decide⟩, trivial⟩ (Nat.le_of_ble_eq_true rfl) trivial (fun al hal rnw Pw Gw hextw hfrw hokw hcsw hpsiw => ?_)
  obtain rfl := List.mem_singleton.mp hal
  have hrw := zp_int (hokw _ rfl).1
  obtain ⟨hPew, hGew, htw⟩ := hpsiw
  rw [hPew, hGew]
  have htw : rnw = 1 ↔ zp_n u.2.1 a 16 = 1 ∧ zp_n u.2.1 a 17 = 763332 := htw
  rw [d16, d17] at htw
  refine zp_if (pc := 7) (tgt := 14) hx hb (zd_X12_readOrder (7, .ifCond .eq 7, 3, 0, []) (List.mem_of_getElem? (i := 3) rfl)) rfl (fun (hcq40 : rnw = 0) => ?_) (fun (hcq40 : ¬ (rnw = 0)) => ?_)
  · refine zp_load (pc := 14) hx hb (zd_X12_readOrder (14, .aload_n 0, 1, 0, []) (List.mem_of_getElem? (i := 6) rfl)) rfl (j := 0) rfl ?_
    refine zp_ldc2 (pc := 15) hx hb hE (zd_X12_readOrder (15, .ldc2_w 524, 3, 0, []) (List.mem_of_getElem? (i := 7) rfl)) (j := 116) rfl ?_
    refine zp_call (pc := 18) (how := 0) (idx := 300) (mi := 216) (S := []) hx hb hE hw heff hrm (zY_wo hW) rfl (j := 18) rfl rfl (by decide +kernel) (zd_X12_readOrder (18, .invokevirtual 300, 3, 0, []) (List.mem_of_getElem? (i := 8) rfl)) [(a : Int), 11449] rfl ⟨zp_o2 hp, zp_o1 ⟨by decide, by decide⟩, trivial⟩ (Nat.le_of_ble_eq_true rfl) trivial (fun al hal rnx Px Gx hextx hfrx hokx hcsx hpsix => ?_)
    obtain rfl := List.mem_singleton.mp hal
    have hrx := zp_int (hokx _ rfl).1
    obtain ⟨hPex, hGex, htx⟩ := hpsix
    rw [hPex, hGex]
    have htx : rnx = 1 ↔ zp_n u.2.1 a 16 = 1 ∧ zp_n u.2.1 a 17 = 11449 := htx
    rw [d16, d17] at htx
    refine zp_if (pc := 21) (tgt := 28) hx hb (zd_X12_readOrder (21, .ifCond .eq 7, 3, 0, []) (List.mem_of_getElem? (i := 9) rfl)) rfl (fun (hcq41 : rnx = 0) => ?_) (fun (hcq41 : ¬ (rnx = 0)) => ?_)
    · refine zp_load (pc := 28) hx hb (zd_X12_readOrder (28, .aload_n 0, 1, 0, []) (List.mem_of_getElem? (i := 12) rfl)) rfl (j := 0) rfl ?_
      refine zp_ldc2 (pc := 29) hx hb hE (zd_X12_readOrder (29, .ldc2_w 526, 3, 0, []) (List.mem_of_getElem? (i := 13) rfl)) (j := 117) rfl ?_
      refine zp_call (pc := 32) (how := 0) (idx := 300) (mi := 216) (S := []) hx hb hE hw heff hrm (zY_wo hW) rfl (j := 18) rfl rfl (by decide +kernel) (zd_X12_readOrder (32, .invokevirtual 300, 3, 0, []) (List.mem_of_getElem? (i := 14) rfl)) [(a : Int), 19118] rfl ⟨zp_o2 hp, zp_o1 ⟨by decide, by decide⟩, trivial⟩ (Nat.le_of_ble_eq_true rfl) trivial (fun al hal rny Py Gy hexty hfry hoky hcsy hpsiy => ?_)
      obtain rfl := List.mem_singleton.mp hal
      have hry := zp_int (hoky _ rfl).1
      obtain ⟨hPey, hGey, hty⟩ := hpsiy
      rw [hPey, hGey]
      have hty : rny = 1 ↔ zp_n u.2.1 a 16 = 1 ∧ zp_n u.2.1 a 17 = 19118 := hty
      rw [d16, d17] at hty
      refine zp_if (pc := 35) (tgt := 42) hx hb (zd_X12_readOrder (35, .ifCond .eq 7, 3, 0, []) (List.mem_of_getElem? (i := 15) rfl)) rfl (fun (hcq42 : rny = 0) => ?_) (fun (hcq42 : ¬ (rny = 0)) => ?_)
      · refine zp_load (pc := 42) hx hb (zd_X12_readOrder (42, .aload_n 0, 1, 0, []) (List.mem_of_getElem? (i := 18) rfl)) rfl (j := 0) rfl ?_
        refine zp_ldc2 (pc := 43) hx hb hE (zd_X12_readOrder (43, .ldc2_w 528, 3, 0, []) (List.mem_of_getElem? (i := 19) rfl)) (j := 118) rfl ?_
        refine zp_call (pc := 46) (how := 0) (idx := 300) (mi := 216) (S := []) hx hb hE hw heff hrm (zY_wo hW) rfl (j := 18) rfl rfl (by decide +kernel) (zd_X12_readOrder (46, .invokevirtual 300, 3, 0, []) (List.mem_of_getElem? (i := 20) rfl)) [(a : Int), 431556] rfl ⟨zp_o2 hp, zp_o1 ⟨by decide, by decide⟩, trivial⟩ (Nat.le_of_ble_eq_true rfl) trivial (fun al hal rnz Pz Gz hextz hfrz hokz hcsz hpsiz => ?_)
        obtain rfl := List.mem_singleton.mp hal
        have hrz := zp_int (hokz _ rfl).1
        obtain ⟨hPez, hGez, htz⟩ := hpsiz
        rw [hPez, hGez]
        have htz : rnz = 1 ↔ zp_n u.2.1 a 16 = 1 ∧ zp_n u.2.1 a 17 = 431556 := htz
        rw [d16, d17] at htz
        refine zp_if (pc := 49) (tgt := 56) hx hb (zd_X12_readOrder (49, .ifCond .eq 7, 3, 0, []) (List.mem_of_getElem? (i := 21) rfl)) rfl (fun (hcq43 : rnz = 0) => ?_) (fun (hcq43 : ¬ (rnz = 0)) => ?_)
        · refine zp_const (pc := 56) hx hb (zd_X12_readOrder (56, .iconst (-1), 1, 0, []) (List.mem_of_getElem? (i := 24) rfl)) rfl rfl ?_
          refine h57 (-1) ?_
          unfold yt_ho
          rw [if_neg (fun z => by have := yr_w_i.mp z; omega), if_neg (fun z => by have := yr_w_i.mp z; omega), if_neg (fun z => by have := yr_w_i.mp z; omega), if_neg (fun z => by have := yr_w_i.mp z; omega)]
        · refine zp_const (pc := 52) hx hb (zd_X12_readOrder (52, .iconst 3, 1, 0, []) (List.mem_of_getElem? (i := 22) rfl)) rfl rfl ?_
          refine zp_goto (tgt := 57) (pc := 53) hx hb (zd_X12_readOrder (53, .goto 4, 3, 0, []) (List.mem_of_getElem? (i := 23) rfl)) rfl ?_
          refine h57 3 ?_
          unfold yt_ho
          rw [if_neg (fun z => by have := yr_w_i.mp z; omega), if_neg (fun z => by have := yr_w_i.mp z; omega), if_neg (fun z => by have := yr_w_i.mp z; omega), if_pos (yr_w_i.mpr ⟨by omega, by omega⟩)]
      · refine zp_const (pc := 38) hx hb (zd_X12_readOrder (38, .iconst 2, 1, 0, []) (List.mem_of_getElem? (i := 16) rfl)) rfl rfl ?_
        refine zp_goto (tgt := 57) (pc := 39) hx hb (zd_X12_readOrder (39, .goto 18, 3, 0, []) (List.mem_of_getElem? (i := 17) rfl)) rfl ?_
        refine h57 2 ?_
        unfold yt_ho
        rw [if_neg (fun z => by have := yr_w_i.mp z; omega), if_neg (fun z => by have := yr_w_i.mp z; omega), if_pos (yr_w_i.mpr ⟨by omega, by omega⟩)]
    · refine zp_const (pc := 24) hx hb (zd_X12_readOrder (24, .iconst 1, 1, 0, []) (List.mem_of_getElem? (i := 10) rfl)) rfl rfl ?_
      refine zp_goto (tgt := 57) (pc := 25) hx hb (zd_X12_readOrder (25, .goto 32, 3, 0, []) (List.mem_of_getElem? (i := 11) rfl)) rfl ?_
      refine h57 1 ?_
      unfold yt_ho
      rw [if_neg (fun z => by have := yr_w_i.mp z; omega), if_pos (yr_w_i.mpr ⟨by omega, by omega⟩)]
  · refine zp_const (pc := 10) hx hb (zd_X12_readOrder (10, .iconst 0, 1, 0, []) (List.mem_of_getElem? (i := 4) rfl)) rfl rfl ?_
    refine zp_goto (tgt := 57) (pc := 11) hx hb (zd_X12_readOrder (11, .goto 46, 3, 0, []) (List.mem_of_getElem? (i := 5) rfl)) rfl ?_
    refine h57 0 ?_
    unfold yt_ho
    rw [if_pos (yr_w_i.mpr ⟨by omega, by omega⟩)]
