/-! part l7: the class over logical cells: a clause of orders is run -/
/-- what a sum of orders is worth is an int -/
theorem yG_b {C : Nat → Int} {en : Int → Int → Int} (h : ∀ s v, yl_ok true s v → -2147483648 ≤ en (yl_o true s v) (yl_a true s v) ∧ en (yl_o true s v) (yl_a true s v) ≤ 2147483647) : ∀ {f b e k : Nat} {x : yD} {v : Int}, yG true C f b e k x → x en = some v → -2147483648 ≤ v ∧ v ≤ 2147483647
  | 0, _, _, _, _, _, hgξ, _ => hgξ.elim
  | f + 1, b, e, k, x, v, hgξ, hvξ => by
    rcases hgξ with ⟨-, -, g3, g4⟩ | ⟨m, e1, k1ξ, k2, y, z, -, -, -, -, -, -, g7⟩ | ⟨e1, y, -, g2, -, g4, g5⟩ | ⟨m, k1ξ, k2, y, z, -, -, -, g4, g5, -, g7⟩ | ⟨m, k1ξ, k2, y, z, -, -, -, g4, g5, -, g7⟩
    · rw [g4] at hvξ
      have hvξ : en (yl_o true (C b) (C (b + 1))) (yl_a true (C b) (C (b + 1))) = v := Option.some.inj hvξ
      rw [← hvξ]
      exact h _ _ g3
    · rw [g7] at hvξ
      unfold yd_op at hvξ
      cases hyξ : y en with
      | none =>
        rw [hyξ] at hvξ
        cases hvξ
      | some a =>
        rw [hyξ] at hvξ
        cases hzξ : z en with
        | none =>
          rw [hzξ] at hvξ
          cases hvξ
        | some c =>
          rw [hzξ] at hvξ
          have hvξ : yd_bn (C e1 + 14) a c = some v := hvξ
          have := zg_bnr hvξ
          omega
    · rw [g5] at hvξ
      unfold yd_nt at hvξ
      cases hyξ : y en with
      | none =>
        rw [hyξ] at hvξ
        cases hvξ
      | some a =>
        rw [hyξ] at hvξ
        have hvξ : 1 - a = v := Option.some.inj hvξ
        have := g4 en a hyξ
        omega
    · rw [g7] at hvξ
      unfold yd_ad at hvξ
      cases hyξ : y en with
      | none =>
        rw [hyξ] at hvξ
        cases hvξ
      | some a =>
        rw [hyξ] at hvξ
        have hvξ : (if a = 0 then some 0 else z en) = some v := hvξ
        split at hvξ
        · have := Option.some.inj hvξ
          omega
        · exact yG_b h g4 hvξ
    · rw [g7] at hvξ
      unfold yd_or at hvξ
      cases hyξ : y en with
      | none =>
        rw [hyξ] at hvξ
        cases hvξ
      | some a =>
        rw [hyξ] at hvξ
        have hvξ : (if a = 1 then some 1 else z en) = some v := hvξ
        split at hvξ
        · have := Option.some.inj hvξ
          omega
        · exact yG_b h g4 hvξ
/-- a sum that may be none: one -/
noncomputable def zo_x1 (xo : Option yD) : yD := xo.getD (fun _ => some 1)
noncomputable def zK_va2 : zk_K := zK_vao
noncomputable def zφ_va2 (en : Int → Int → Int) : (Nat → Option Nat) → (Nat → Nat → Int) → List Int → Prop := fun P G ps => (ps.getD 2 0) = -1
noncomputable def zψ_va2 (en : Int → Int → Int) : (Nat → Option Nat) → (Nat → Nat → Int) → List Int → (Nat → Option Nat) → (Nat → Nat → Int) → Int → Prop := fun P G ps P' G' rn => P' = P ∧ (∀ v, zo_x1 none en = some v → (-2147483648 ≤ v ∧ v ≤ 2147483648) ∧ rn = v) ∧ (zo_x1 none en = none → rn = (-9000000000))
theorem zX_va2 {l : Launch} {w : zk_W} (hWξ : zh_W w) (en : Int → Int → Int) : zk_metX l w zt_dv zt_TB zK_va2 (zp_A (zφ_va2 en)) (zp_B (zψ_va2 en)) ∧ zk_cok w zt_TB zK_va2 := by
  refine zp_methX (cn := "WoundTown$Rules") zp_lkallRu hWξ (pl := 910) rfl (by decide +kernel) (fun p e R s m args below meth c Q u hx hb hEξ hQξ hU5ξ heffξ hnLξ hokξ hφ => ?_)
  have hwξ := hWξ.1
  obtain ⟨p0ξ, p1ξ, p2ξ, p3ξ, hpsξ, k0, k1ξ, k2, k3⟩ := zp_ps4 hokξ
  obtain ⟨a, rfl, hpξ⟩ := zp_this k0
  have hrmξ : zk_Kr (zk_ev (zt_types, zp_lkRu, zt_dv, [], [], zp_lcRu, zK_va2)) = zk_Kr zK_va2 := rfl
  rw [hpsξ] at hφ ⊢
  have hi2ξ := zp_int k2
  have hφ : p2ξ = -1 := hφ
  subst hφ
  show zp_J p l e R s m args below meth c Q w u [] 0 [(0, 2, (a : Int)), (1, 2, p1ξ), (2, 0, (-1)), (3, 2, p3ξ)] [] u.1 (zp_n u.2.1)
  refine zp_load (pc := 0) hx hb (zd_X6_value (0, .iload_n 2, 1, 0, []) (List.mem_of_getElem? (i := 0) rfl)) rfl (j := 2) rfl ?_
  refine zp_const (pc := 1) hx hb (zd_X6_value (1, .iconst (-1), 1, 0, []) (List.mem_of_getElem? (i := 1) rfl)) rfl rfl ?_
  refine zp_icmp (pc := 2) (tgt := 7) hx hb (zd_X6_value (2, .if_icmp .ne 5, 3, 0, []) (List.mem_of_getElem? (i := 2) rfl)) rfl (fun (hc645ξ : ¬ (-1) = (-1)) => ?_) (fun (hc645ξ : ¬ (¬ (-1) = (-1))) => ?_)
  · exfalso
    omega
  · refine zp_const (pc := 5) hx hb (zd_X6_value (5, .lconst 1, 1, 0, []) (List.mem_of_getElem? (i := 3) rfl)) rfl rfl ?_
    refine zp_lret (pc := 6) (n := 1) hx hb hEξ hQξ hU5ξ rfl (by decide) (zd_X6_value (6, .lreturn, 1, 0, []) (List.mem_of_getElem? (i := 4) rfl)) (j := 0) rfl (zp_o1 (by first | assumption | exact zp_r1 (by omega) (by omega))) ?_
    rw [hpsξ]
    exact ⟨rfl, fun v hvξ => by have hvξ : (1 : Int) = v := Option.some.inj hvξ; subst hvξ; exact ⟨⟨by decide, by decide⟩, rfl⟩, fun hvξ => by cases hvξ⟩
noncomputable def zφ_vam (xt cd st wd : Nat) (Wd : Nat → Int) (en : Int → Int → Int) (xo : Option yD) : (Nat → Option Nat) → (Nat → Nat → Int) → List Int → Prop := fun P G ps => (xo = none ∧ ps.getD 2 0 = -1) ∨ ∃ (x : yD) (N f e9ξ k : Nat) (C : Nat → Int), xo = some x ∧ zφ_vao xt cd st wd N f e9ξ k C Wd en x P G ps
noncomputable def zψ_vam (en : Int → Int → Int) (xo : Option yD) : (Nat → Option Nat) → (Nat → Nat → Int) → List Int → (Nat → Option Nat) → (Nat → Nat → Int) → Int → Prop := fun P G ps P' G' rn => P' = P ∧ (∀ v, zo_x1 xo en = some v → (-2147483648 ≤ v ∧ v ≤ 2147483648) ∧ rn = v) ∧ (zo_x1 xo en = none → rn = (-9000000000))
theorem zX_vam {l : Launch} {w : zk_W} (hWξ : zh_W w) (xt cd st wd : Nat) (Wd : Nat → Int) (en : Int → Int → Int) (xo : Option yD) : zk_metX l w zt_dv zt_TB zK_vao (zp_A (zφ_vam xt cd st wd Wd en xo)) (zp_B (zψ_vam en xo)) ∧ zk_cok w zt_TB zK_vao := by
  refine ⟨fun P0 F0 ps sz hpsξ hφ => ?_, (zX_va2 (l := l) hWξ en).2⟩
  rcases hφ with ⟨e, h⟩ | ⟨x, N, f, e9ξ, k, C, e, h⟩
  · subst e
    exact (zX_va2 hWξ en).1 P0 F0 ps sz hpsξ h
  · subst e
    exact (zX_vao hWξ xt cd st wd N f e9ξ k C Wd en x).1 P0 F0 ps sz hpsξ h
theorem zo_vam {P : Nat → Option Nat} {G : Nat → Nat → Int} {a xt cd st wd N sz : Nat} {C Wd : Nat → Int} {en : Int → Int → Int} {xo : Option yD} {s : Int} (hVξ : zgV a xt cd st wd N C Wd G) (hcdξ : P cd = some 35) (hstξ : P st = some 28) (hNξ : N ≤ 872) (hsξ : sz ≤ N) (hWdξ : ∀ j, j < 21 → -2147483648 ≤ Wd j ∧ Wd j ≤ 2147483648) (henξ : ∀ s v, yl_ok true s v → en (yl_o true s v) (yl_a true s v) = if s = 1 then v else Wd v.toNat) (h : (xo = none ∧ s = -1) ∨ ∃ x, xo = some x ∧ zXp C sz true s x) : zφ_vam xt cd st wd Wd en xo P G [(a : Int), (xt : Int), s, (wd : Int)] := by
  rcases h with h | ⟨x, e, b, e9ξ, k, f, h1ξ, h2ξ, h3ξ, h4ξ, h5ξ⟩
  · exact Or.inl h
  · subst h1ξ
    refine Or.inr ⟨x, N, f, e9ξ, k, C, e, ?_⟩
    refine ⟨?_, rfl, rfl, hcdξ, hstξ, ?_, hNξ, by omega, h5ξ, hWdξ, henξ, ?_, by omega⟩
    · show zgV ((a : Int).toNat) xt cd st wd N C Wd G
      rw [Int.toNat_natCast]
      exact hVξ
    · show (0 : Int) ≤ (b : Int)
      omega
    · show yG true C f ((b : Int).toNat) e9ξ k x
      rw [Int.toNat_natCast]
      exact h4ξ
/-- a number of it is an int -/
theorem zo_x1_b {C : Nat → Int} {sz : Nat} {en : Int → Int → Int} {xo : Option yD} {s v : Int} (henξ : ∀ s v, yl_ok true s v → -2147483648 ≤ en (yl_o true s v) (yl_a true s v) ∧ en (yl_o true s v) (yl_a true s v) ≤ 2147483647) (h : (xo = none ∧ s = -1) ∨ ∃ x, xo = some x ∧ zXp C sz true s x) (hvξ : zo_x1 xo en = some v) : -2147483648 ≤ v ∧ v ≤ 2147483647 := by
  rcases h with ⟨e, -⟩ | ⟨x, e, b, e9ξ, k, f, h1ξ, h2ξ, h3ξ, h4ξ, h5ξ⟩
  · subst e
    have hvξ : (1 : Int) = v := Option.some.inj hvξ
    omega
  · subst e
    exact yG_b henξ h4ξ hvξ
/-- a clause's test, in the class -/
noncomputable def zo_tbC (en : Int → Int → Int) (xo : Option yD) : Bool := match zo_x1 xo en with
  | some v => decide (v = 1)
  | none => false
/-- a clause is run once, in the class: 1; 0: it can't be -/
noncomputable def zo_runC (V : Nat → Nat → Int) (n1ξ npξ : Nat) (Lwξ : List yK) (K : yK) : Int × (Nat → Nat → Int) :=
  if zo_tbC (zo_eC V) K.2.2.2.2 = true then
    match zo_x1 K.2.1 (zo_eC V), zo_x1 K.2.2.1 (zo_eC V) with
    | some a, some b => if (zo_doC V n1ξ npξ Lwξ K.1 a b).1 < 0 then (0, (zo_doC V n1ξ npξ Lwξ K.1 a b).2) else (1, if K.1 = 2 then zp_set (zp_set (zo_doC V n1ξ npξ Lwξ K.1 a b).2 0 13 (V 0 13 + 1)) 0 14 (zo_doC V n1ξ npξ Lwξ K.1 a b).1 else zp_set (zo_doC V n1ξ npξ Lwξ K.1 a b).2 0 13 (V 0 13 + 1))
    | _, _ => (0, V)
  else (1, V)
noncomputable def zo_tmC (n1ξ npξ : Nat) (Lwξ : List yK) (K : yK) : Nat → (Nat → Nat → Int) → Bool × (Nat → Nat → Int)
  | 0, V => (true, V)
  | t + 1, V => if (zo_runC V n1ξ npξ Lwξ K).1 = 1 then zo_tmC n1ξ npξ Lwξ K t (zo_runC V n1ξ npξ Lwξ K).2 else (false, (zo_runC V n1ξ npξ Lwξ K).2)
/-- where a text of orders lies -/
noncomputable def zo_X (A : Nat → Nat) (b0 b1 b2 b3 b4 cd : Nat) (P : Nat → Option Nat) (G : Nat → Nat → Int) : Prop := (P (A 13) = some 8 ∧ P b0 = some 30 ∧ P b1 = some 31 ∧ P b2 = some 32 ∧ P b3 = some 33 ∧ P b4 = some 34 ∧ P cd = some 35) ∧ G (A 13) 0 = (b0 : Int) ∧ G (A 13) 1 = (b1 : Int) ∧ G (A 13) 2 = (b2 : Int) ∧ G (A 13) 3 = (b3 : Int) ∧ G (A 13) 4 = (b4 : Int) ∧ G (A 13) 5 = (cd : Int)
noncomputable def zo_bs (b0 b1 b2 b3 b4 : Nat) : Nat → Nat := fun i => [b0, b1, b2, b3, b4].getD i 0
noncomputable def zo_Xc (b0 b1 b2 b3 b4 cd sz c : Nat) (K : yK) (G : Nat → Nat → Int) : Prop := sz ≤ 872 ∧ zXc (fun i j => G (zo_bs b0 b1 b2 b3 b4 i) (2000 + j)) (fun j => G cd (2000 + j)) sz true c K
noncomputable def zo_Xe (eff : List (Nat × Nat × Nat)) : Bool := zp_nfb eff 8 0 && (zp_nfb eff 8 1 && (zp_nfb eff 8 2 && (zp_nfb eff 8 3 && (zp_nfb eff 8 4 && (zp_nfb eff 8 5 && (zp_ncb eff 30 && (zp_ncb eff 31 && (zp_ncb eff 32 && (zp_ncb eff 33 && (zp_ncb eff 34 && zp_ncb eff 35))))))))))
theorem zo_X_f {A : Nat → Nat} {b0 b1 b2 b3 b4 cd : Nat} {P : Nat → Option Nat} {G G' : Nat → Nat → Int} {eff : List (Nat × Nat × Nat)} {ps : List Int} (h : zo_X A b0 b1 b2 b3 b4 cd P G) (hfrξ : zp_fr eff ps P G G') (heξ : zo_Xe eff = true) : zo_X A b0 b1 b2 b3 b4 cd P G' := by
  unfold zo_Xe at heξ
  simp only [Bool.and_eq_true] at heξ
  obtain ⟨e0, e1, e2, e3, e4, e5, -⟩ := heξ
  obtain ⟨hpξ, m0, m1, m2, m3, m4, m5⟩ := h
  exact ⟨hpξ, (zp_nf hfrξ hpξ.1 e0).trans m0, (zp_nf hfrξ hpξ.1 e1).trans m1, (zp_nf hfrξ hpξ.1 e2).trans m2, (zp_nf hfrξ hpξ.1 e3).trans m3, (zp_nf hfrξ hpξ.1 e4).trans m4, (zp_nf hfrξ hpξ.1 e5).trans m5⟩
theorem zo_Xc_f {A : Nat → Nat} {b0 b1 b2 b3 b4 cd sz c : Nat} {K : yK} {P : Nat → Option Nat} {G G' : Nat → Nat → Int} {eff : List (Nat × Nat × Nat)} {ps : List Int} (hXξ : zo_X A b0 b1 b2 b3 b4 cd P G) (h : zo_Xc b0 b1 b2 b3 b4 cd sz c K G) (hfrξ : zp_fr eff ps P G G') (heξ : zo_Xe eff = true) : zo_Xc b0 b1 b2 b3 b4 cd sz c K G' := by
  unfold zo_Xe at heξ
  simp only [Bool.and_eq_true] at heξ
  obtain ⟨-, -, -, -, -, -, f0, f1, f2, f3, f4, f5⟩ := heξ
  obtain ⟨⟨-, p0ξ, p1ξ, p2ξ, p3ξ, p4ξ, p5ξ⟩, -⟩ := hXξ
  have ec : (fun j => G' cd (2000 + j)) = fun j => G cd (2000 + j) := funext fun j => zp_nc hfrξ p5ξ f5 _
  obtain ⟨hsξ, h1ξ, h2ξ, h3ξ, h4ξ, h5ξ⟩ := h
  have k0 : G' b0 (2000 + c) = G b0 (2000 + c) := zp_nc hfrξ p0ξ f0 _
  have k1ξ : G' b1 (2000 + c) = G b1 (2000 + c) := zp_nc hfrξ p1ξ f1 _
  have k2 : G' b2 (2000 + c) = G b2 (2000 + c) := zp_nc hfrξ p2ξ f2 _
  have k3 : G' b3 (2000 + c) = G b3 (2000 + c) := zp_nc hfrξ p3ξ f3 _
  have k4 : G' b4 (2000 + c) = G b4 (2000 + c) := zp_nc hfrξ p4ξ f4 _
  have h1ξ : G b0 (2000 + c) = K.1 ∧ 0 ≤ K.1 ∧ K.1 ≤ 4 := h1ξ
  have h2ξ : (K.2.1 = none ∧ G b1 (2000 + c) = -1) ∨ ∃ x, K.2.1 = some x ∧ zXp (fun j => G cd (2000 + j)) sz true (G b1 (2000 + c)) x := h2ξ
  have h3ξ : (K.2.2.1 = none ∧ G b2 (2000 + c) = -1) ∨ ∃ x, K.2.2.1 = some x ∧ zXp (fun j => G cd (2000 + j)) sz true (G b2 (2000 + c)) x := h3ξ
  have h4ξ : G b3 (2000 + c) = K.2.2.2.1 := h4ξ
  have h5ξ : (K.2.2.2.2 = none ∧ G b4 (2000 + c) = -1) ∨ ∃ x, K.2.2.2.2 = some x ∧ zXp (fun j => G cd (2000 + j)) sz true (G b4 (2000 + c)) x ∧ yd_T x := h5ξ
  rw [← k0] at h1ξ
  rw [← k1ξ, ← ec] at h2ξ
  rw [← k2, ← ec] at h3ξ
  rw [← k3] at h4ξ
  rw [← k4, ← ec] at h5ξ
  exact ⟨hsξ, h1ξ, h2ξ, h3ξ, h4ξ, h5ξ⟩
theorem zo_X_s {A : Nat → Nat} {b0 b1 b2 b3 b4 cd a t k : Nat} {v : Int} {P : Nat → Option Nat} {G : Nat → Nat → Int} (h : zo_X A b0 b1 b2 b3 b4 cd P G) (haξ : P a = some t) (htξ : t ≠ 8) : zo_X A b0 b1 b2 b3 b4 cd P (zp_set G a k v) := by
  obtain ⟨hpξ, m0, m1, m2, m3, m4, m5⟩ := h
  have e : ∀ j, zp_set G a k v (A 13) j = G (A 13) j := fun j => zp_set_ne (Or.inl (zp_pne hpξ.1 haξ (fun e => htξ e.symm)))
  exact ⟨hpξ, (e 0).trans m0, (e 1).trans m1, (e 2).trans m2, (e 3).trans m3, (e 4).trans m4, (e 5).trans m5⟩
theorem zo_Xc_s {A : Nat → Nat} {b0 b1 b2 b3 b4 cd sz c a t k : Nat} {v : Int} {K : yK} {P : Nat → Option Nat} {G : Nat → Nat → Int} (hXξ : zo_X A b0 b1 b2 b3 b4 cd P G) (h : zo_Xc b0 b1 b2 b3 b4 cd sz c K G) (haξ : P a = some t) (htξ : t < 30 ∨ 35 < t) : zo_Xc b0 b1 b2 b3 b4 cd sz c K (zp_set G a k v) := by
  obtain ⟨⟨-, p0ξ, p1ξ, p2ξ, p3ξ, p4ξ, p5ξ⟩, -⟩ := hXξ
  have e : ∀ b t', P b = some t' → 30 ≤ t' → t' ≤ 35 → ∀ j, zp_set G a k v b j = G b j := fun b t' hb h1ξ h2ξ j => zp_set_ne (Or.inl (zp_pne hb haξ (fun e => by omega)))
  have ec : (fun j => zp_set G a k v cd (2000 + j)) = fun j => G cd (2000 + j) := funext fun j => e cd 35 p5ξ (by decide) (by decide) _
  obtain ⟨hsξ, h1ξ, h2ξ, h3ξ, h4ξ, h5ξ⟩ := h
  have h1ξ : G b0 (2000 + c) = K.1 ∧ 0 ≤ K.1 ∧ K.1 ≤ 4 := h1ξ
  have h2ξ : (K.2.1 = none ∧ G b1 (2000 + c) = -1) ∨ ∃ x, K.2.1 = some x ∧ zXp (fun j => G cd (2000 + j)) sz true (G b1 (2000 + c)) x := h2ξ
  have h3ξ : (K.2.2.1 = none ∧ G b2 (2000 + c) = -1) ∨ ∃ x, K.2.2.1 = some x ∧ zXp (fun j => G cd (2000 + j)) sz true (G b2 (2000 + c)) x := h3ξ
  have h4ξ : G b3 (2000 + c) = K.2.2.2.1 := h4ξ
  have h5ξ : (K.2.2.2.2 = none ∧ G b4 (2000 + c) = -1) ∨ ∃ x, K.2.2.2.2 = some x ∧ zXp (fun j => G cd (2000 + j)) sz true (G b4 (2000 + c)) x ∧ yd_T x := h5ξ
  rw [← e b0 30 p0ξ (by decide) (by decide)] at h1ξ
  rw [← e b1 31 p1ξ (by decide) (by decide), ← ec] at h2ξ
  rw [← e b2 32 p2ξ (by decide) (by decide), ← ec] at h3ξ
  rw [← e b3 33 p3ξ (by decide) (by decide)] at h4ξ
  rw [← e b4 34 p4ξ (by decide) (by decide), ← ec] at h5ξ
  exact ⟨hsξ, h1ξ, h2ξ, h3ξ, h4ξ, h5ξ⟩
section ZPL7
variable {p : Program} {l : Launch} {e : Env} {R : Room} {s : State} {m : MethodId} {args : Array Value} {below : List Frame} {meth : Method} {c : Code} {Q : State → Prop}
variable {cc : ByteArray} {w : zk_W} {u : zk_M} {Ts : List Jvm.Cond} {own : String}
variable {xs : List Nat} {pc : Nat} {L : List (Nat × Nat × Int)} {S : List (Nat × Int)}
/-- the length of a row that is of one length alone -/
theorem zp_knL {P : Nat → Option Nat} {G : Nat → Nat → Int} (hwξ : w.1 = zt_types) {a t len : Nat} (hTξ : ∃ T, zt_types[t]? = some T ∧ T.1 = 1 ∧ T.2.1 = len ∧ T.2.2.1 = len) (hlξ : len ≤ 1000000) (hpξ : P a = some t) (kk : G a 1000 = (len : Int) → zp_J p l e R s m args below meth c Q w u xs pc L S P G) : zp_J p l e R s m args below meth c Q w u xs pc L S P G := by
  obtain ⟨T, h1ξ, h2ξ, h3ξ, h4ξ⟩ := hTξ
  intro F H locs ls hFξ hIξ hLξ hkLξ hkSξ
  rw [← hwξ] at h1ξ
  obtain ⟨cA, n, f, o1, o2, o3, o4, o5, o6, o7⟩ := zp_iarr hIξ.1 hpξ h1ξ (Or.inl h2ξ)
  have hnξ : n = len := by omega
  subst hnξ
  refine kk ?_ F H locs ls hFξ hIξ hLξ hkLξ hkSξ
  rw [← hFξ]
  unfold zp_n
  rw [o1]
  show (Int32.ofNat n).toInt = (n : Int)
  rw [zk_n32 (by omega), zk_i32 ⟨by omega, by omega⟩]
end ZPL7
theorem zCI_0 {A : Nat → Nat} {Y : List (Nat × Nat)} {F : List (Nat × Nat × Nat)} {V : Nat → Nat → Int} {n1ξ npξ k : Nat} {v : Int} {Lwξ : List yK} (h : zCI A Y F V n1ξ npξ Lwξ) : zCI A Y F (zp_set V 0 k v) n1ξ npξ Lwξ := zCI_e (fun o k hoξ => zp_set_ne (Or.inl (by omega))) h
theorem zo_13b {V V' : Nat → Nat → Int} {x d : Int} (h : 0 ≤ x ∧ x + 1 ≤ d) (hVξ : V' = zp_set V 0 13 (x + 1) ∨ ∃ z, V' = zp_set (zp_set V 0 13 (x + 1)) 0 14 z) : 0 ≤ V' 0 13 ∧ V' 0 13 ≤ d := by
  have e : V' 0 13 = x + 1 := by
    rcases hVξ with rfl | ⟨z, rfl⟩
    · exact zp_set_self
    · exact (zp_set_ne (Or.inr (by decide))).trans zp_set_self
  rw [e]
  omega
theorem zp_fr_w {ps : List Int} {P : Nat → Option Nat} {G G' : Nat → Nat → Int} (h : zp_fr [(28, 1001, 0)] ps P G G') : zp_fr [(27, 1001, 0), (28, 1001, 0)] ps P G G' := fun a t k hpξ hmξ => h a t k hpξ (fun hm2ξ => hmξ (by
  obtain ⟨q, q1, q2⟩ := hm2ξ
  exact ⟨q, List.mem_cons_of_mem _ q1, q2⟩))
noncomputable def zUI : List (Nat × Nat × Nat) := [(12, 13, 0), (12, 14, 0), (12, 15, 0), (12, 17, 0), (12, 18, 0), (10, 1, 0), (10, 3, 0), (10, 9, 0), (10, 14, 0), (10, 15, 0), (10, 16, 0), (10, 17, 0), (2, 3, 0), (2, 4, 0), (2, 5, 0), (2, 6, 0), (11, 2, 0), (11, 3, 0), (0, 1, 0), (0, 2, 0), (6, 2, 0), (1, 1, 0), (1, 2, 0), (1, 3, 0), (7, 1, 0), (7, 2, 0), (7, 3, 0), (7, 4, 0), (7, 5, 0), (14, 1001, 0), (15, 1001, 0), (16, 1001, 0), (17, 1001, 0), (18, 1001, 0), (19, 1001, 0), (27, 1001, 0), (28, 1001, 0), (29, 1001, 0), (42, 1001, 0), (43, 1001, 0), (44, 1001, 0), (45, 1001, 0), (46, 1001, 0), (47, 1001, 0), (48, 1001, 0), (49, 1001, 0), (50, 1001, 0), (51, 1001, 0), (53, 1001, 0), (54, 1001, 0), (56, 1001, 0), (57, 1001, 0)]
noncomputable def zK_icrc : zk_K := (zt_mn 82, prog_1_method_16_code, 10, (Option.some Jvm.ClassFile.FieldType.boolean), 1, 11, [(2, 12, 0, 0), (2, 8, 0, 0), (0, 0, 0, 11)], [(some (0, 0, 0, 1), [])], zUI, (10, 560, 0, 0))
noncomputable def zφ_icrc (A : Nat → Nat) (Y : List (Nat × Nat)) (F : List (Nat × Nat × Nat)) (V : Nat → Nat → Int) (b0 b1 b2 b3 b4 cd sz c9ξ n1ξ npξ d0 : Nat) (K : yK) (Lwξ : List yK) : (Nat → Option Nat) → (Nat → Nat → Int) → List Int → Prop := fun P G ps => zMVc A Y F V P G ∧ ps.getD 0 0 = (A 0 : Int) ∧ zMc Y F ∧ (ps.getD 1 0) = (A 13 : Int) ∧ (ps.getD 2 0) = (c9ξ : Int) ∧ c9ξ < 12 ∧ zo_X A b0 b1 b2 b3 b4 cd P G ∧ zo_Xc b0 b1 b2 b3 b4 cd sz c9ξ K G ∧ zo_wf K ∧ zCI A Y F V n1ξ npξ Lwξ ∧ (0 ≤ V 0 13 ∧ V 0 13 ≤ (d0 : Int)) ∧ d0 ≤ 100000
noncomputable def zψ_icrc (A : Nat → Nat) (Y : List (Nat × Nat)) (F : List (Nat × Nat × Nat)) (V : Nat → Nat → Int) (b0 b1 b2 b3 b4 cd sz c9ξ n1ξ npξ d0 : Nat) (K : yK) (Lwξ : List yK) : (Nat → Option Nat) → (Nat → Nat → Int) → List Int → (Nat → Option Nat) → (Nat → Nat → Int) → Int → Prop := fun P G ps P' G' rn => P' = P ∧ zMVc A Y F (zo_tmC n1ξ npξ Lwξ K K.2.2.2.1.toNat V).2 P' G' ∧ (rn = 1 ↔ (zo_tmC n1ξ npξ Lwξ K K.2.2.2.1.toNat V).1 = true)
set_option maxHeartbeats 16000000 in
theorem zX_icrc {l : Launch} {w : zk_W} (hWξ : zh_W w) (A : Nat → Nat) (Y : List (Nat × Nat)) (F : List (Nat × Nat × Nat)) (V : Nat → Nat → Int) (b0 b1 b2 b3 b4 cd sz c9ξ n1ξ npξ d0 : Nat) (K : yK) (Lwξ : List yK) : zk_metX l w zt_dv zt_TB zK_icrc (zp_A (zφ_icrc A Y F V b0 b1 b2 b3 b4 cd sz c9ξ n1ξ npξ d0 K Lwξ)) (zp_B (zψ_icrc A Y F V b0 b1 b2 b3 b4 cd sz c9ξ n1ξ npξ d0 K Lwξ)) ∧ zk_cok w zt_TB zK_icrc := by
  refine zp_methX (cn := "WoundTown") zp_lkallW hWξ (pl := 902) rfl (by decide +kernel) (fun p e R s m args below meth c Q u hx hb hEξ hQξ hU5ξ heffξ hnLξ hokξ hφ => ?_)
  have hwξ := hWξ.1
  obtain ⟨p0ξ, p1ξ, p2ξ, hpsξ, tk0, tk1, tk2⟩ := zp_ps3 hokξ
  have hrmξ : zk_Kr (zk_ev (zt_types, zp_lkW, zt_dv, [], [], zp_lcW, zK_icrc)) = zk_Kr zK_icrc := rfl
  rw [hpsξ] at hφ ⊢
  have hφ : zMVc A Y F V u.1 (zp_n u.2.1) ∧ p0ξ = (A 0 : Int) ∧ zMc Y F ∧ p1ξ = (A 13 : Int) ∧ p2ξ = (c9ξ : Int) ∧ c9ξ < 12 ∧ zo_X A b0 b1 b2 b3 b4 cd u.1 (zp_n u.2.1) ∧ zo_Xc b0 b1 b2 b3 b4 cd sz c9ξ K (zp_n u.2.1) ∧ zo_wf K ∧ zCI A Y F V n1ξ npξ Lwξ ∧ (0 ≤ V 0 13 ∧ V 0 13 ≤ (d0 : Int)) ∧ d0 ≤ 100000 := hφ
  obtain ⟨⟨M, hMξ, hVξ, hSbξ⟩, rfl, hYFξ, rfl, rfl, hc12ξ, hX0ξ, hXc0ξ, hwfξ, hCI0ξ, hd13ξ, hd0ξ⟩ := hφ
  have hYF0ξ := hYFξ
  obtain ⟨hYbξ, hFbξ, hFxξ, -⟩ := hYFξ
  have hi2ξ := zp_int tk2
  show zp_J p l e R s m args below meth c Q w u [] 0 [(0, 2, (A 0 : Int)), (1, 2, (A 13 : Int)), (2, 0, (c9ξ : Int))] [] u.1 (zp_n u.2.1)
  have hK0ξ := hwfξ.1
  have hKtξ := hwfξ.2.2.2
  have h10ξ : ∀ (t kk : Nat) (X : Nat → Nat → Int) (G : Nat → Nat → Int), (kk : Int) + (t : Int) = K.2.2.2.1 → zCI A Y F X n1ξ npξ Lwξ → (0 ≤ X 0 13 ∧ X 0 13 ≤ (d0 : Int) + (kk : Int)) → zMVc A Y F X u.1 G → zo_X A b0 b1 b2 b3 b4 cd u.1 G → zo_Xc b0 b1 b2 b3 b4 cd sz c9ξ K G → zo_tmC n1ξ npξ Lwξ K K.2.2.2.1.toNat V = (zo_tmC n1ξ npξ Lwξ K t X) → zp_J p l e R s m args below meth c Q w u [] 10 [(4, 0, (kk : Int)), (3, 0, K.1), (0, 2, (A 0 : Int)), (1, 2, (A 13 : Int)), (2, 0, (c9ξ : Int))] [] u.1 G := by
    intro t
    induction t with
    | zero =>
      intro kk X G hktξ hCIξ h13ξ hMVξ hXξ hXcξ hfinξ
      obtain ⟨Ma, hMaξ, hVMaξ, -⟩ := hMVξ
      have hXp646ξ := hXξ.1
      have hx0646ξ : Ma 13 0 = (b0 : Int) := (zM_G hMaξ (hYbξ _ (List.mem_of_getElem? (i := 13) rfl)) 0).symm.trans hXξ.2.1
      have hx1646ξ : Ma 13 1 = (b1 : Int) := (zM_G hMaξ (hYbξ _ (List.mem_of_getElem? (i := 13) rfl)) 1).symm.trans hXξ.2.2.1
      have hx2646ξ : Ma 13 2 = (b2 : Int) := (zM_G hMaξ (hYbξ _ (List.mem_of_getElem? (i := 13) rfl)) 2).symm.trans hXξ.2.2.2.1
      have hx3646ξ : Ma 13 3 = (b3 : Int) := (zM_G hMaξ (hYbξ _ (List.mem_of_getElem? (i := 13) rfl)) 3).symm.trans hXξ.2.2.2.2.1
      have hx4646ξ : Ma 13 4 = (b4 : Int) := (zM_G hMaξ (hYbξ _ (List.mem_of_getElem? (i := 13) rfl)) 4).symm.trans hXξ.2.2.2.2.2.1
      have hk0646ξ : G b0 (2000 + c9ξ) = K.1 := hXcξ.2.1.1
      have hk3646ξ : G b3 (2000 + c9ξ) = K.2.2.2.1 := hXcξ.2.2.2.2.1
      have hs1646ξ : (K.2.1 = none ∧ G b1 (2000 + c9ξ) = -1) ∨ ∃ x, K.2.1 = some x ∧ zXp (fun j => G cd (2000 + j)) sz true (G b1 (2000 + c9ξ)) x := hXcξ.2.2.1
      have hs2646ξ : (K.2.2.1 = none ∧ G b2 (2000 + c9ξ) = -1) ∨ ∃ x, K.2.2.1 = some x ∧ zXp (fun j => G cd (2000 + j)) sz true (G b2 (2000 + c9ξ)) x := hXcξ.2.2.2.1
      have hs4646ξ : (K.2.2.2.2 = none ∧ G b4 (2000 + c9ξ) = -1) ∨ ∃ x, K.2.2.2.2 = some x ∧ zXp (fun j => G cd (2000 + j)) sz true (G b4 (2000 + c9ξ)) x := hXcξ.2.2.2.2.2.imp id (fun ⟨x, h1ξ, h2ξ, _⟩ => ⟨x, h1ξ, h2ξ⟩)
      have hkKξ : (kk : Int) = K.2.2.2.1 := by omega
      refine zp_load (pc := 10) hx hb (zd_X11_isClauseRun (10, .iload 4, 2, 0, []) (List.mem_of_getElem? (i := 7) rfl)) rfl (j := 0) rfl ?_
      refine zp_load (pc := 12) hx hb (zd_X11_isClauseRun (12, .aload_n 1, 1, 0, []) (List.mem_of_getElem? (i := 8) rfl)) rfl (j := 3) rfl ?_
      refine zp_getf (n := (b3 : Int)) (pc := 13) hx hb hEξ hwξ (zd_X11_isClauseRun (13, .getfield 246, 3, 0, []) (List.mem_of_getElem? (i := 9) rfl)) (j := 44) rfl rfl rfl (zM_P hMaξ (hYbξ _ (List.mem_of_getElem? (i := 13) rfl))) ((zM_G hMaξ (hYbξ _ (List.mem_of_getElem? (i := 13) rfl)) 3).trans hx3646ξ) ?_
      refine zp_load (pc := 16) hx hb (zd_X11_isClauseRun (16, .iload_n 2, 1, 0, []) (List.mem_of_getElem? (i := 10) rfl)) rfl (j := 4) rfl ?_
      refine zp_iald (j := c9ξ) (v := K.2.2.2.1) (pc := 17) hx hb hwξ (zd_X11_isClauseRun (17, .iaload, 1, 0, []) (List.mem_of_getElem? (i := 11) rfl)) (show zp_ia 1 33 = some (12, 0, 0, (-2147483648), 2147483647) from rfl) hXp646ξ.2.2.2.2.1 (by omega) (by omega) hk3646ξ (fun hk647ξ => ?_)
      have hk647bξ := zp_int hk647ξ
      refine zp_icmp (pc := 18) (tgt := 226) hx hb (zd_X11_isClauseRun (18, .if_icmp .ge 208, 3, 0, []) (List.mem_of_getElem? (i := 12) rfl)) rfl (fun (hc648ξ : K.2.2.2.1 ≤ (kk : Int)) => ?_) (fun (hc648ξ : ¬ (K.2.2.2.1 ≤ (kk : Int))) => ?_)
      · refine zp_const (pc := 226) hx hb (zd_X11_isClauseRun (226, .iconst 1, 1, 0, []) (List.mem_of_getElem? (i := 107) rfl)) rfl rfl ?_
        refine zp_zret (pc := 227) (n := 1) hx hb hEξ hQξ hU5ξ rfl (by decide) (zd_X11_isClauseRun (227, .ireturn, 1, 0, []) (List.mem_of_getElem? (i := 108) rfl)) (j := 0) rfl (zp_o0 (by omega) (by omega) (by omega) (by omega)) ?_
        rw [hpsξ]
        refine ⟨rfl, ?_⟩
        show zMVc A Y F (zo_tmC n1ξ npξ Lwξ K K.2.2.2.1.toNat V).2 u.1 _ ∧ ((1 : Int) = 1 ↔ (zo_tmC n1ξ npξ Lwξ K K.2.2.2.1.toNat V).1 = true)
        rw [hfinξ]
        exact ⟨⟨Ma, hMaξ, hVMaξ, trivial⟩, fun _ => rfl, fun _ => rfl⟩
      · exfalso
        omega
    | succ t iht =>
      intro kk X G hktξ hCIξ h13ξ hMVξ hXξ hXcξ hfinξ
      obtain ⟨Ma, hMaξ, hVMaξ, -⟩ := hMVξ
      have hXp649ξ := hXξ.1
      have hx0649ξ : Ma 13 0 = (b0 : Int) := (zM_G hMaξ (hYbξ _ (List.mem_of_getElem? (i := 13) rfl)) 0).symm.trans hXξ.2.1
      have hx1649ξ : Ma 13 1 = (b1 : Int) := (zM_G hMaξ (hYbξ _ (List.mem_of_getElem? (i := 13) rfl)) 1).symm.trans hXξ.2.2.1
      have hx2649ξ : Ma 13 2 = (b2 : Int) := (zM_G hMaξ (hYbξ _ (List.mem_of_getElem? (i := 13) rfl)) 2).symm.trans hXξ.2.2.2.1
      have hx3649ξ : Ma 13 3 = (b3 : Int) := (zM_G hMaξ (hYbξ _ (List.mem_of_getElem? (i := 13) rfl)) 3).symm.trans hXξ.2.2.2.2.1
      have hx4649ξ : Ma 13 4 = (b4 : Int) := (zM_G hMaξ (hYbξ _ (List.mem_of_getElem? (i := 13) rfl)) 4).symm.trans hXξ.2.2.2.2.2.1
      have hk0649ξ : G b0 (2000 + c9ξ) = K.1 := hXcξ.2.1.1
      have hk3649ξ : G b3 (2000 + c9ξ) = K.2.2.2.1 := hXcξ.2.2.2.2.1
      have hs1649ξ : (K.2.1 = none ∧ G b1 (2000 + c9ξ) = -1) ∨ ∃ x, K.2.1 = some x ∧ zXp (fun j => G cd (2000 + j)) sz true (G b1 (2000 + c9ξ)) x := hXcξ.2.2.1
      have hs2649ξ : (K.2.2.1 = none ∧ G b2 (2000 + c9ξ) = -1) ∨ ∃ x, K.2.2.1 = some x ∧ zXp (fun j => G cd (2000 + j)) sz true (G b2 (2000 + c9ξ)) x := hXcξ.2.2.2.1
      have hs4649ξ : (K.2.2.2.2 = none ∧ G b4 (2000 + c9ξ) = -1) ∨ ∃ x, K.2.2.2.2 = some x ∧ zXp (fun j => G cd (2000 + j)) sz true (G b4 (2000 + c9ξ)) x := hXcξ.2.2.2.2.2.imp id (fun ⟨x, h1ξ, h2ξ, _⟩ => ⟨x, h1ξ, h2ξ⟩)
      have hkKξ : (kk : Int) < K.2.2.2.1 := by omega
      have htmξ : (zo_tmC n1ξ npξ Lwξ K (t + 1) X) = if (zo_runC X n1ξ npξ Lwξ K).1 = 1 then zo_tmC n1ξ npξ Lwξ K t (zo_runC X n1ξ npξ Lwξ K).2 else (false, (zo_runC X n1ξ npξ Lwξ K).2) := rfl
      rw [htmξ] at hfinξ
      have hn13ξ := hCIξ.2.1.2.2.1
      have hn11ξ := hCIξ.2.1.2.2.2
      have hwnξ : ∀ w : Nat, (w : Int) < X 1 3 → w < 10 → 0 ≤ X 33 (2000 + w) ∧ X 33 (2000 + w) ≤ 100000 ∧ 0 ≤ X 52 (2000 + w) ∧ X 52 (2000 + w) ≤ 100000 := fun w hwξ _ => by
        have h9ξ := hCIξ.2.2.1 w (by omega)
        omega
      refine zp_kn (k := 14) (a := (A 0)) hwξ (show zp_fd 12 14 = some (11, 0, 0, (-2147483648), 2147483647) from rfl) rfl (zM_P hMaξ (hYbξ _ (List.mem_of_getElem? (i := 0) rfl))) (fun hk14ξ => ?_)
      have hk14ξ := zp_int hk14ξ
      rw [zM_G hMaξ (hYbξ _ (List.mem_of_getElem? (i := 0) rfl)), hVMaξ 0 14 (by decide)] at hk14ξ
      have hwb9ξ : ∀ j, j < 21 → -2147483648 ≤ zo_wC X j ∧ zo_wC X j ≤ 2147483647 := zo_wC_b hCIξ (by omega) hk14ξ
      have hinbξ : ∀ s v, yl_ok true s v → -2147483648 ≤ zo_eC X (yl_o true s v) (yl_a true s v) ∧ zo_eC X (yl_o true s v) (yl_a true s v) ≤ 2147483647 := fun s v h => by
        rw [zo_eC_w hCIξ.2.1.1 hCIξ.2.1.2.1 hn13ξ hn11ξ h]
        rcases h with ⟨e1, e2, e3⟩ | ⟨e1, e2, e3⟩
        · rw [if_pos e1]
          omega
        · rw [if_neg (by omega)]
          have e3 : v < 21 := e3
          exact hwb9ξ v.toNat (by omega)
      refine zp_load (pc := 10) hx hb (zd_X11_isClauseRun (10, .iload 4, 2, 0, []) (List.mem_of_getElem? (i := 7) rfl)) rfl (j := 0) rfl ?_
      refine zp_load (pc := 12) hx hb (zd_X11_isClauseRun (12, .aload_n 1, 1, 0, []) (List.mem_of_getElem? (i := 8) rfl)) rfl (j := 3) rfl ?_
      refine zp_getf (n := (b3 : Int)) (pc := 13) hx hb hEξ hwξ (zd_X11_isClauseRun (13, .getfield 246, 3, 0, []) (List.mem_of_getElem? (i := 9) rfl)) (j := 44) rfl rfl rfl (zM_P hMaξ (hYbξ _ (List.mem_of_getElem? (i := 13) rfl))) ((zM_G hMaξ (hYbξ _ (List.mem_of_getElem? (i := 13) rfl)) 3).trans hx3649ξ) ?_
      refine zp_load (pc := 16) hx hb (zd_X11_isClauseRun (16, .iload_n 2, 1, 0, []) (List.mem_of_getElem? (i := 10) rfl)) rfl (j := 4) rfl ?_
      refine zp_iald (j := c9ξ) (v := K.2.2.2.1) (pc := 17) hx hb hwξ (zd_X11_isClauseRun (17, .iaload, 1, 0, []) (List.mem_of_getElem? (i := 11) rfl)) (show zp_ia 1 33 = some (12, 0, 0, (-2147483648), 2147483647) from rfl) hXp649ξ.2.2.2.2.1 (by omega) (by omega) hk3649ξ (fun hk650ξ => ?_)
      have hk650bξ := zp_int hk650ξ
      refine zp_icmp (pc := 18) (tgt := 226) hx hb (zd_X11_isClauseRun (18, .if_icmp .ge 208, 3, 0, []) (List.mem_of_getElem? (i := 12) rfl)) rfl (fun (hc651ξ : K.2.2.2.1 ≤ (kk : Int)) => ?_) (fun (hc651ξ : ¬ (K.2.2.2.1 ≤ (kk : Int))) => ?_)
      · exfalso
        omega
      · refine zp_load (pc := 21) hx hb (zd_X11_isClauseRun (21, .aload_n 0, 1, 0, []) (List.mem_of_getElem? (i := 13) rfl)) rfl (j := 2) rfl ?_
        refine zp_call (pc := 22) (how := 0) (idx := 249) (mi := 83) (S := []) hx hb hEξ hwξ heffξ hrmξ (zX_tow hWξ A Y F X) rfl (j := 28) rfl rfl (by decide +kernel) (zd_X11_isClauseRun (22, .invokevirtual 249, 3, 0, []) (List.mem_of_getElem? (i := 14) rfl)) [(A 0 : Int)] rfl ⟨zp_o2 (zM_P hMaξ (hYbξ _ (List.mem_of_getElem? (i := 0) rfl))), trivial⟩ (Nat.le_of_ble_eq_true rfl) ⟨⟨Ma, hMaξ, hVMaξ, trivial⟩, rfl, hYF0ξ, hwnξ⟩ (fun al halξ rnw Pw Gw hextwξ hfrwξ hokwξ hcswξ hpsiwξ => ?_)
        obtain rfl := List.mem_singleton.mp halξ
        obtain ⟨hPewξ, Mw, hMwξ, hVMwξ, hWwξ⟩ := hpsiwξ
        subst hPewξ
        have hXwξ := zo_X_f hXξ hfrwξ (by decide)
        have hXcwξ := zo_Xc_f hXξ hXcξ hfrwξ (by decide)
        clear hextwξ hfrwξ hokwξ hcswξ
        have hXp652ξ := hXwξ.1
        have hx0652ξ : Mw 13 0 = (b0 : Int) := (zM_G hMwξ (hYbξ _ (List.mem_of_getElem? (i := 13) rfl)) 0).symm.trans hXwξ.2.1
        have hx1652ξ : Mw 13 1 = (b1 : Int) := (zM_G hMwξ (hYbξ _ (List.mem_of_getElem? (i := 13) rfl)) 1).symm.trans hXwξ.2.2.1
        have hx2652ξ : Mw 13 2 = (b2 : Int) := (zM_G hMwξ (hYbξ _ (List.mem_of_getElem? (i := 13) rfl)) 2).symm.trans hXwξ.2.2.2.1
        have hx3652ξ : Mw 13 3 = (b3 : Int) := (zM_G hMwξ (hYbξ _ (List.mem_of_getElem? (i := 13) rfl)) 3).symm.trans hXwξ.2.2.2.2.1
        have hx4652ξ : Mw 13 4 = (b4 : Int) := (zM_G hMwξ (hYbξ _ (List.mem_of_getElem? (i := 13) rfl)) 4).symm.trans hXwξ.2.2.2.2.2.1
        have hk0652ξ : Gw b0 (2000 + c9ξ) = K.1 := hXcwξ.2.1.1
        have hk3652ξ : Gw b3 (2000 + c9ξ) = K.2.2.2.1 := hXcwξ.2.2.2.2.1
        have hs1652ξ : (K.2.1 = none ∧ Gw b1 (2000 + c9ξ) = -1) ∨ ∃ x, K.2.1 = some x ∧ zXp (fun j => Gw cd (2000 + j)) sz true (Gw b1 (2000 + c9ξ)) x := hXcwξ.2.2.1
        have hs2652ξ : (K.2.2.1 = none ∧ Gw b2 (2000 + c9ξ) = -1) ∨ ∃ x, K.2.2.1 = some x ∧ zXp (fun j => Gw cd (2000 + j)) sz true (Gw b2 (2000 + c9ξ)) x := hXcwξ.2.2.2.1
        have hs4652ξ : (K.2.2.2.2 = none ∧ Gw b4 (2000 + c9ξ) = -1) ∨ ∃ x, K.2.2.2.2 = some x ∧ zXp (fun j => Gw cd (2000 + j)) sz true (Gw b4 (2000 + c9ξ)) x := hXcwξ.2.2.2.2.2.imp id (fun ⟨x, h1ξ, h2ξ, _⟩ => ⟨x, h1ξ, h2ξ⟩)
        have hgwξ : ∀ j, j < 21 → Gw (A 21) (2000 + j) = zo_wC X j := fun j hjξ => (zM_G hMwξ (hYbξ _ (List.mem_of_getElem? (i := 15) rfl)) _).trans (hWwξ j hjξ)
        refine zp_load (pc := 25) hx hb (zd_X11_isClauseRun (25, .aload_n 0, 1, 0, []) (List.mem_of_getElem? (i := 15) rfl)) rfl (j := 2) rfl ?_
        refine zp_getf (n := (A 4 : Int)) (pc := 26) hx hb hEξ hwξ (zd_X11_isClauseRun (26, .getfield 30, 3, 0, []) (List.mem_of_getElem? (i := 16) rfl)) (j := 53) rfl rfl rfl (zM_P hMwξ (hYbξ _ (List.mem_of_getElem? (i := 0) rfl))) ((zM_G hMwξ (hYbξ _ (List.mem_of_getElem? (i := 0) rfl)) 3).trans (zM_F hMwξ (hFbξ _ (List.mem_of_getElem? (i := 3) rfl)))) ?_
        refine zp_load (pc := 29) hx hb (zd_X11_isClauseRun (29, .aload_n 1, 1, 0, []) (List.mem_of_getElem? (i := 17) rfl)) rfl (j := 3) rfl ?_
        refine zp_load (pc := 30) hx hb (zd_X11_isClauseRun (30, .aload_n 1, 1, 0, []) (List.mem_of_getElem? (i := 18) rfl)) rfl (j := 3) rfl ?_
        refine zp_getf (n := (b4 : Int)) (pc := 31) hx hb hEξ hwξ (zd_X11_isClauseRun (31, .getfield 252, 3, 0, []) (List.mem_of_getElem? (i := 19) rfl)) (j := 45) rfl rfl rfl (zM_P hMwξ (hYbξ _ (List.mem_of_getElem? (i := 13) rfl))) ((zM_G hMwξ (hYbξ _ (List.mem_of_getElem? (i := 13) rfl)) 4).trans hx4652ξ) ?_
        refine zp_load (pc := 34) hx hb (zd_X11_isClauseRun (34, .iload_n 2, 1, 0, []) (List.mem_of_getElem? (i := 20) rfl)) rfl (j := 4) rfl ?_
        refine zp_iald (j := c9ξ) (v := (Gw b4 (2000 + c9ξ))) (pc := 35) hx hb hwξ (zd_X11_isClauseRun (35, .iaload, 1, 0, []) (List.mem_of_getElem? (i := 21) rfl)) (show zp_ia 1 34 = some (12, 0, 0, (-1), 872) from rfl) hXp652ξ.2.2.2.2.2.1 (by omega) (by omega) rfl (fun hk653ξ => ?_)
        have hk653bξ := zp_int hk653ξ
        refine zp_load (pc := 36) hx hb (zd_X11_isClauseRun (36, .aload_n 0, 1, 0, []) (List.mem_of_getElem? (i := 22) rfl)) rfl (j := 2) rfl ?_
        refine zp_getf (n := (A 21 : Int)) (pc := 37) hx hb hEξ hwξ (zd_X11_isClauseRun (37, .getfield 90, 3, 0, []) (List.mem_of_getElem? (i := 23) rfl)) (j := 62) rfl rfl rfl (zM_P hMwξ (hYbξ _ (List.mem_of_getElem? (i := 0) rfl))) ((zM_G hMwξ (hYbξ _ (List.mem_of_getElem? (i := 0) rfl)) 12).trans (zM_F hMwξ (hFbξ _ (List.mem_of_getElem? (i := 10) rfl)))) ?_
        refine zp_knL (a := cd) hwξ (t := 35) (len := 872) ⟨_, rfl, rfl, rfl, rfl⟩ (by decide) (hXp652ξ.2.2.2.2.2.2) (fun hcl0ξ => ?_)
        have hgV0ξ : zgV (A 4) (A 13) cd (A 67) (A 21) 872 (fun j => Gw cd (2000 + j)) (fun j => Gw (A 21) (2000 + j)) Gw := ⟨(zM_G hMwξ (hYbξ _ (List.mem_of_getElem? (i := 4) rfl)) 1).trans (zM_F hMwξ (hFbξ _ (List.mem_of_getElem? (i := 42) rfl))), hXwξ.2.2.2.2.2.2, hcl0ξ, fun j => rfl, fun j => rfl⟩
        have hwd0ξ : ∀ j, j < 21 → -2147483648 ≤ Gw (A 21) (2000 + j) ∧ Gw (A 21) (2000 + j) ≤ 2147483648 := fun j hjξ => by
          rw [hgwξ j hjξ]
          have h9ξ := hwb9ξ j hjξ
          omega
        have hen0ξ : ∀ s v, yl_ok true s v → zo_eC X (yl_o true s v) (yl_a true s v) = if s = 1 then v else (fun j => Gw (A 21) (2000 + j)) v.toNat := fun s v h => by
          rw [zo_eC_w hCIξ.2.1.1 hCIξ.2.1.2.1 hCIξ.2.1.2.2.1 hCIξ.2.1.2.2.2 h]
          rcases h with ⟨e1, -, -⟩ | ⟨e1, e2, e3⟩
          · rw [if_pos e1, if_pos e1]
          · rw [if_neg (by omega), if_neg (by omega)]
            have e3 : v < 21 := e3
            exact (hgwξ v.toNat (by omega)).symm
        refine zp_call (pc := 40) (how := 0) (idx := 255) (mi := 84) (S := []) hx hb hEξ hwξ heffξ hrmξ (zX_vam hWξ (A 13) cd (A 67) (A 21) (fun j => Gw (A 21) (2000 + j)) (zo_eC X) K.2.2.2.2) rfl (j := 29) rfl rfl (by decide +kernel) (zd_X11_isClauseRun (40, .invokevirtual 255, 3, 0, []) (List.mem_of_getElem? (i := 24) rfl)) [(A 4 : Int), (A 13 : Int), (Gw b4 (2000 + c9ξ)), (A 21 : Int)] rfl ⟨zp_o2 (zM_P hMwξ (hYbξ _ (List.mem_of_getElem? (i := 4) rfl))), zp_o2 (zM_P hMwξ (hYbξ _ (List.mem_of_getElem? (i := 13) rfl))), zp_o0 (by omega) (by omega) (by omega) (by omega), zp_o2 (zM_P hMwξ (hYbξ _ (List.mem_of_getElem? (i := 15) rfl))), trivial⟩ (Nat.le_of_ble_eq_true rfl) (zo_vam hgV0ξ hXp652ξ.2.2.2.2.2.2 (zM_P hMwξ (hYbξ _ (List.mem_of_getElem? (i := 45) rfl))) (Nat.le_refl _) hXcwξ.1 hwd0ξ hen0ξ hs4652ξ) (fun al halξ rn0ξ P0 G0 hext0ξ hfr0ξ hok0ξ hcs0ξ hpsi0ξ => ?_)
        obtain rfl := List.mem_singleton.mp halξ
        obtain ⟨hPe0ξ, ht0ξ, hn0ξ⟩ := hpsi0ξ
        have ht0ξ : ∀ v, zo_x1 K.2.2.2.2 (zo_eC X) = some v → (-2147483648 ≤ v ∧ v ≤ 2147483648) ∧ rn0ξ = v := ht0ξ
        have hn0ξ : zo_x1 K.2.2.2.2 (zo_eC X) = none → rn0ξ = (-9000000000) := hn0ξ
        have hb0ξ : ∀ v, zo_x1 K.2.2.2.2 (zo_eC X) = some v → -2147483648 ≤ v ∧ v ≤ 2147483647 := fun v hvξ => zo_x1_b hinbξ hs4652ξ hvξ
        obtain ⟨M0ξ, hM0ξ, hMf0ξ⟩ := zM_rul hMwξ hYF0ξ (show zp_fr [(27, 1001, 0), (28, 1001, 0)] _ _ _ _ from zp_fr_w hfr0ξ) hext0ξ
        subst hPe0ξ
        have hVM0ξ : ∀ o k, zNc o → M0ξ o k = X o k := fun o k hkξ => (hMf0ξ.1 o k (fun e => by subst e; exact absurd hkξ (by decide)) (fun e => by subst e; exact absurd hkξ (by decide))).trans (hVMwξ o k hkξ)
        have hX0ξ := zo_X_f hXwξ hfr0ξ (by decide)
        have hXc0ξ := zo_Xc_f hXwξ hXcwξ hfr0ξ (by decide)
        have hg0ξ : ∀ j, j < 21 → G0 (A 21) (2000 + j) = zo_wC X j := fun j hjξ => (zp_nc hfr0ξ (zM_P hMwξ (hYbξ _ (List.mem_of_getElem? (i := 15) rfl))) (by decide) _).trans (hgwξ j hjξ)
        clear hext0ξ hfr0ξ hok0ξ hcs0ξ hMf0ξ
        have hXp654ξ := hX0ξ.1
        have hx0654ξ : M0ξ 13 0 = (b0 : Int) := (zM_G hM0ξ (hYbξ _ (List.mem_of_getElem? (i := 13) rfl)) 0).symm.trans hX0ξ.2.1
        have hx1654ξ : M0ξ 13 1 = (b1 : Int) := (zM_G hM0ξ (hYbξ _ (List.mem_of_getElem? (i := 13) rfl)) 1).symm.trans hX0ξ.2.2.1
        have hx2654ξ : M0ξ 13 2 = (b2 : Int) := (zM_G hM0ξ (hYbξ _ (List.mem_of_getElem? (i := 13) rfl)) 2).symm.trans hX0ξ.2.2.2.1
        have hx3654ξ : M0ξ 13 3 = (b3 : Int) := (zM_G hM0ξ (hYbξ _ (List.mem_of_getElem? (i := 13) rfl)) 3).symm.trans hX0ξ.2.2.2.2.1
        have hx4654ξ : M0ξ 13 4 = (b4 : Int) := (zM_G hM0ξ (hYbξ _ (List.mem_of_getElem? (i := 13) rfl)) 4).symm.trans hX0ξ.2.2.2.2.2.1
        have hk0654ξ : G0 b0 (2000 + c9ξ) = K.1 := hXc0ξ.2.1.1
        have hk3654ξ : G0 b3 (2000 + c9ξ) = K.2.2.2.1 := hXc0ξ.2.2.2.2.1
        have hs1654ξ : (K.2.1 = none ∧ G0 b1 (2000 + c9ξ) = -1) ∨ ∃ x, K.2.1 = some x ∧ zXp (fun j => G0 cd (2000 + j)) sz true (G0 b1 (2000 + c9ξ)) x := hXc0ξ.2.2.1
        have hs2654ξ : (K.2.2.1 = none ∧ G0 b2 (2000 + c9ξ) = -1) ∨ ∃ x, K.2.2.1 = some x ∧ zXp (fun j => G0 cd (2000 + j)) sz true (G0 b2 (2000 + c9ξ)) x := hXc0ξ.2.2.2.1
        have hs4654ξ : (K.2.2.2.2 = none ∧ G0 b4 (2000 + c9ξ) = -1) ∨ ∃ x, K.2.2.2.2 = some x ∧ zXp (fun j => G0 cd (2000 + j)) sz true (G0 b4 (2000 + c9ξ)) x := hXc0ξ.2.2.2.2.2.imp id (fun ⟨x, h1ξ, h2ξ, _⟩ => ⟨x, h1ξ, h2ξ⟩)
        have hl0ξ : zk_rg 1 rn0ξ := by
          cases hqξ : zo_x1 K.2.2.2.2 (zo_eC X) with
          | none => rw [hn0ξ hqξ]; exact zp_r1 (by decide) (by decide)
          | some v => rw [(ht0ξ v hqξ).2]; have := hb0ξ v hqξ; exact zp_r1 (by omega) (by omega)
        cases hq0ξ : zo_x1 K.2.2.2.2 (zo_eC X) with
        | none =>
          have hr0ξ := hn0ξ hq0ξ
          subst hr0ξ
          refine zp_const (pc := 43) hx hb (zd_X11_isClauseRun (43, .lconst 1, 1, 0, []) (List.mem_of_getElem? (i := 25) rfl)) rfl rfl ?_
          refine zp_lcmp (pc := 44) (tgt := 51) hx hb (zd_X11_isClauseRun (44, .lcmp, 1, 0, []) (List.mem_of_getElem? (i := 26) rfl)) (zd_X11_isClauseRun (45, .ifCond .eq 6, 3, 0, []) (List.mem_of_getElem? (i := 27) rfl)) rfl (fun (hc655ξ : (-9000000000 : Int) = 1) => ?_) (fun (hc655ξ : ¬ ((-9000000000 : Int) = 1)) => ?_)
          · exfalso
            omega
          · refine zp_goto (tgt := 220) (pc := 48) hx hb (zd_X11_isClauseRun (48, .goto 172, 3, 0, []) (List.mem_of_getElem? (i := 28) rfl)) rfl ?_
            refine zp_iinc (L' := [(4, 0, ((kk : Int) + 1)), (3, 0, K.1), (0, 2, (A 0 : Int)), (1, 2, (A 13 : Int)), (2, 0, (c9ξ : Int))]) (n := ((kk : Int) + 1)) (pc := 220) hx hb hnLξ (zd_X11_isClauseRun (220, .iinc 4 1, 3, 0, []) (List.mem_of_getElem? (i := 105) rfl)) (j := 0) rfl (by omega) (zp_r0 (by omega) (by omega)) rfl rfl ?_
            refine zp_goto (tgt := 10) (pc := 223) hx hb (zd_X11_isClauseRun (223, .goto (-213), 3, 0, []) (List.mem_of_getElem? (i := 106) rfl)) rfl ?_
            have hrunξ : zo_runC X n1ξ npξ Lwξ K = (1, X) := by
              unfold zo_runC
              rw [if_neg]
              unfold zo_tbC
              rw [hq0ξ]
              decide
            rw [hrunξ] at hfinξ
            have hfinξ : zo_tmC n1ξ npξ Lwξ K K.2.2.2.1.toNat V = zo_tmC n1ξ npξ Lwξ K t X := hfinξ
            refine zp_drop (L' := [(4, 0, ((kk : Int) + 1)), (3, 0, K.1), (0, 2, (A 0 : Int)), (1, 2, (A 13 : Int)), (2, 0, (c9ξ : Int))]) (by simp) ?_
            exact iht (kk + 1) X _ (by omega) hCIξ (by omega) ⟨M0ξ, hM0ξ, hVM0ξ, trivial⟩ hX0ξ hXc0ξ hfinξ
        | some v0 =>
          have hr0ξ := (ht0ξ v0 hq0ξ).2
          subst hr0ξ
          have hb0vξ := hb0ξ rn0ξ hq0ξ
          refine zp_const (pc := 43) hx hb (zd_X11_isClauseRun (43, .lconst 1, 1, 0, []) (List.mem_of_getElem? (i := 25) rfl)) rfl rfl ?_
          refine zp_lcmp (pc := 44) (tgt := 51) hx hb (zd_X11_isClauseRun (44, .lcmp, 1, 0, []) (List.mem_of_getElem? (i := 26) rfl)) (zd_X11_isClauseRun (45, .ifCond .eq 6, 3, 0, []) (List.mem_of_getElem? (i := 27) rfl)) rfl (fun (hc656ξ : rn0ξ = 1) => ?_) (fun (hc656ξ : ¬ (rn0ξ = 1)) => ?_)
          · refine zp_load (pc := 51) hx hb (zd_X11_isClauseRun (51, .aload_n 0, 1, 0, []) (List.mem_of_getElem? (i := 29) rfl)) rfl (j := 2) rfl ?_
            refine zp_getf (n := (A 4 : Int)) (pc := 52) hx hb hEξ hwξ (zd_X11_isClauseRun (52, .getfield 30, 3, 0, []) (List.mem_of_getElem? (i := 30) rfl)) (j := 53) rfl rfl rfl (zM_P hM0ξ (hYbξ _ (List.mem_of_getElem? (i := 0) rfl))) ((zM_G hM0ξ (hYbξ _ (List.mem_of_getElem? (i := 0) rfl)) 3).trans (zM_F hM0ξ (hFbξ _ (List.mem_of_getElem? (i := 3) rfl)))) ?_
            refine zp_load (pc := 55) hx hb (zd_X11_isClauseRun (55, .aload_n 1, 1, 0, []) (List.mem_of_getElem? (i := 31) rfl)) rfl (j := 3) rfl ?_
            refine zp_load (pc := 56) hx hb (zd_X11_isClauseRun (56, .aload_n 1, 1, 0, []) (List.mem_of_getElem? (i := 32) rfl)) rfl (j := 3) rfl ?_
            refine zp_getf (n := (b1 : Int)) (pc := 57) hx hb hEξ hwξ (zd_X11_isClauseRun (57, .getfield 259, 3, 0, []) (List.mem_of_getElem? (i := 33) rfl)) (j := 42) rfl rfl rfl (zM_P hM0ξ (hYbξ _ (List.mem_of_getElem? (i := 13) rfl))) ((zM_G hM0ξ (hYbξ _ (List.mem_of_getElem? (i := 13) rfl)) 1).trans hx1654ξ) ?_
            refine zp_load (pc := 60) hx hb (zd_X11_isClauseRun (60, .iload_n 2, 1, 0, []) (List.mem_of_getElem? (i := 34) rfl)) rfl (j := 4) rfl ?_
            refine zp_iald (j := c9ξ) (v := (G0 b1 (2000 + c9ξ))) (pc := 61) hx hb hwξ (zd_X11_isClauseRun (61, .iaload, 1, 0, []) (List.mem_of_getElem? (i := 35) rfl)) (show zp_ia 1 31 = some (12, 0, 0, (-1), 872) from rfl) hXp654ξ.2.2.1 (by omega) (by omega) rfl (fun hk657ξ => ?_)
            have hk657bξ := zp_int hk657ξ
            refine zp_load (pc := 62) hx hb (zd_X11_isClauseRun (62, .aload_n 0, 1, 0, []) (List.mem_of_getElem? (i := 36) rfl)) rfl (j := 2) rfl ?_
            refine zp_getf (n := (A 21 : Int)) (pc := 63) hx hb hEξ hwξ (zd_X11_isClauseRun (63, .getfield 90, 3, 0, []) (List.mem_of_getElem? (i := 37) rfl)) (j := 62) rfl rfl rfl (zM_P hM0ξ (hYbξ _ (List.mem_of_getElem? (i := 0) rfl))) ((zM_G hM0ξ (hYbξ _ (List.mem_of_getElem? (i := 0) rfl)) 12).trans (zM_F hM0ξ (hFbξ _ (List.mem_of_getElem? (i := 10) rfl)))) ?_
            refine zp_knL (a := cd) hwξ (t := 35) (len := 872) ⟨_, rfl, rfl, rfl, rfl⟩ (by decide) (hXp654ξ.2.2.2.2.2.2) (fun hcl1ξ => ?_)
            have hgV1ξ : zgV (A 4) (A 13) cd (A 67) (A 21) 872 (fun j => G0 cd (2000 + j)) (fun j => G0 (A 21) (2000 + j)) G0 := ⟨(zM_G hM0ξ (hYbξ _ (List.mem_of_getElem? (i := 4) rfl)) 1).trans (zM_F hM0ξ (hFbξ _ (List.mem_of_getElem? (i := 42) rfl))), hX0ξ.2.2.2.2.2.2, hcl1ξ, fun j => rfl, fun j => rfl⟩
            have hwd1ξ : ∀ j, j < 21 → -2147483648 ≤ G0 (A 21) (2000 + j) ∧ G0 (A 21) (2000 + j) ≤ 2147483648 := fun j hjξ => by
              rw [hg0ξ j hjξ]
              have h9ξ := hwb9ξ j hjξ
              omega
            have hen1ξ : ∀ s v, yl_ok true s v → zo_eC X (yl_o true s v) (yl_a true s v) = if s = 1 then v else (fun j => G0 (A 21) (2000 + j)) v.toNat := fun s v h => by
              rw [zo_eC_w hCIξ.2.1.1 hCIξ.2.1.2.1 hCIξ.2.1.2.2.1 hCIξ.2.1.2.2.2 h]
              rcases h with ⟨e1, -, -⟩ | ⟨e1, e2, e3⟩
              · rw [if_pos e1, if_pos e1]
              · rw [if_neg (by omega), if_neg (by omega)]
                have e3 : v < 21 := e3
                exact (hg0ξ v.toNat (by omega)).symm
            refine zp_call (pc := 66) (how := 0) (idx := 255) (mi := 84) (S := []) hx hb hEξ hwξ heffξ hrmξ (zX_vam hWξ (A 13) cd (A 67) (A 21) (fun j => G0 (A 21) (2000 + j)) (zo_eC X) K.2.1) rfl (j := 29) rfl rfl (by decide +kernel) (zd_X11_isClauseRun (66, .invokevirtual 255, 3, 0, []) (List.mem_of_getElem? (i := 38) rfl)) [(A 4 : Int), (A 13 : Int), (G0 b1 (2000 + c9ξ)), (A 21 : Int)] rfl ⟨zp_o2 (zM_P hM0ξ (hYbξ _ (List.mem_of_getElem? (i := 4) rfl))), zp_o2 (zM_P hM0ξ (hYbξ _ (List.mem_of_getElem? (i := 13) rfl))), zp_o0 (by omega) (by omega) (by omega) (by omega), zp_o2 (zM_P hM0ξ (hYbξ _ (List.mem_of_getElem? (i := 15) rfl))), trivial⟩ (Nat.le_of_ble_eq_true rfl) (zo_vam hgV1ξ hXp654ξ.2.2.2.2.2.2 (zM_P hM0ξ (hYbξ _ (List.mem_of_getElem? (i := 45) rfl))) (Nat.le_refl _) hXc0ξ.1 hwd1ξ hen1ξ hs1654ξ) (fun al halξ rn1ξ P1 G1 hext1ξ hfr1ξ hok1ξ hcs1ξ hpsi1ξ => ?_)
            obtain rfl := List.mem_singleton.mp halξ
            obtain ⟨hPe1ξ, ht1ξ, hn1ξ⟩ := hpsi1ξ
            have ht1ξ : ∀ v, zo_x1 K.2.1 (zo_eC X) = some v → (-2147483648 ≤ v ∧ v ≤ 2147483648) ∧ rn1ξ = v := ht1ξ
            have hn1ξ : zo_x1 K.2.1 (zo_eC X) = none → rn1ξ = (-9000000000) := hn1ξ
            have hb1ξ : ∀ v, zo_x1 K.2.1 (zo_eC X) = some v → -2147483648 ≤ v ∧ v ≤ 2147483647 := fun v hvξ => zo_x1_b hinbξ hs1654ξ hvξ
            obtain ⟨M1, hM1ξ, hMf1ξ⟩ := zM_rul hM0ξ hYF0ξ (show zp_fr [(27, 1001, 0), (28, 1001, 0)] _ _ _ _ from zp_fr_w hfr1ξ) hext1ξ
            subst hPe1ξ
            have hVM1ξ : ∀ o k, zNc o → M1 o k = X o k := fun o k hkξ => (hMf1ξ.1 o k (fun e => by subst e; exact absurd hkξ (by decide)) (fun e => by subst e; exact absurd hkξ (by decide))).trans (hVM0ξ o k hkξ)
            have hX1ξ := zo_X_f hX0ξ hfr1ξ (by decide)
            have hXc1ξ := zo_Xc_f hX0ξ hXc0ξ hfr1ξ (by decide)
            have hg1ξ : ∀ j, j < 21 → G1 (A 21) (2000 + j) = zo_wC X j := fun j hjξ => (zp_nc hfr1ξ (zM_P hM0ξ (hYbξ _ (List.mem_of_getElem? (i := 15) rfl))) (by decide) _).trans (hg0ξ j hjξ)
            clear hext1ξ hfr1ξ hok1ξ hcs1ξ hMf1ξ
            have hXp658ξ := hX1ξ.1
            have hx0658ξ : M1 13 0 = (b0 : Int) := (zM_G hM1ξ (hYbξ _ (List.mem_of_getElem? (i := 13) rfl)) 0).symm.trans hX1ξ.2.1
            have hx1658ξ : M1 13 1 = (b1 : Int) := (zM_G hM1ξ (hYbξ _ (List.mem_of_getElem? (i := 13) rfl)) 1).symm.trans hX1ξ.2.2.1
            have hx2658ξ : M1 13 2 = (b2 : Int) := (zM_G hM1ξ (hYbξ _ (List.mem_of_getElem? (i := 13) rfl)) 2).symm.trans hX1ξ.2.2.2.1
            have hx3658ξ : M1 13 3 = (b3 : Int) := (zM_G hM1ξ (hYbξ _ (List.mem_of_getElem? (i := 13) rfl)) 3).symm.trans hX1ξ.2.2.2.2.1
            have hx4658ξ : M1 13 4 = (b4 : Int) := (zM_G hM1ξ (hYbξ _ (List.mem_of_getElem? (i := 13) rfl)) 4).symm.trans hX1ξ.2.2.2.2.2.1
            have hk0658ξ : G1 b0 (2000 + c9ξ) = K.1 := hXc1ξ.2.1.1
            have hk3658ξ : G1 b3 (2000 + c9ξ) = K.2.2.2.1 := hXc1ξ.2.2.2.2.1
            have hs1658ξ : (K.2.1 = none ∧ G1 b1 (2000 + c9ξ) = -1) ∨ ∃ x, K.2.1 = some x ∧ zXp (fun j => G1 cd (2000 + j)) sz true (G1 b1 (2000 + c9ξ)) x := hXc1ξ.2.2.1
            have hs2658ξ : (K.2.2.1 = none ∧ G1 b2 (2000 + c9ξ) = -1) ∨ ∃ x, K.2.2.1 = some x ∧ zXp (fun j => G1 cd (2000 + j)) sz true (G1 b2 (2000 + c9ξ)) x := hXc1ξ.2.2.2.1
            have hs4658ξ : (K.2.2.2.2 = none ∧ G1 b4 (2000 + c9ξ) = -1) ∨ ∃ x, K.2.2.2.2 = some x ∧ zXp (fun j => G1 cd (2000 + j)) sz true (G1 b4 (2000 + c9ξ)) x := hXc1ξ.2.2.2.2.2.imp id (fun ⟨x, h1ξ, h2ξ, _⟩ => ⟨x, h1ξ, h2ξ⟩)
            have hl1ξ : zk_rg 1 rn1ξ := by
              cases hqξ : zo_x1 K.2.1 (zo_eC X) with
              | none => rw [hn1ξ hqξ]; exact zp_r1 (by decide) (by decide)
              | some v => rw [(ht1ξ v hqξ).2]; have := hb1ξ v hqξ; exact zp_r1 (by omega) (by omega)
            refine zp_store (L' := [(5, 1, rn1ξ), (4, 0, (kk : Int)), (3, 0, K.1), (0, 2, (A 0 : Int)), (1, 2, (A 13 : Int)), (2, 0, (c9ξ : Int))]) (pc := 69) hx hb hnLξ (zd_X11_isClauseRun (69, .lstore 5, 2, 0, []) (List.mem_of_getElem? (i := 39) rfl)) rfl rfl rfl ?_
            refine zp_load (pc := 71) hx hb (zd_X11_isClauseRun (71, .aload_n 0, 1, 0, []) (List.mem_of_getElem? (i := 40) rfl)) rfl (j := 3) rfl ?_
            refine zp_getf (n := (A 4 : Int)) (pc := 72) hx hb hEξ hwξ (zd_X11_isClauseRun (72, .getfield 30, 3, 0, []) (List.mem_of_getElem? (i := 41) rfl)) (j := 53) rfl rfl rfl (zM_P hM1ξ (hYbξ _ (List.mem_of_getElem? (i := 0) rfl))) ((zM_G hM1ξ (hYbξ _ (List.mem_of_getElem? (i := 0) rfl)) 3).trans (zM_F hM1ξ (hFbξ _ (List.mem_of_getElem? (i := 3) rfl)))) ?_
            refine zp_load (pc := 75) hx hb (zd_X11_isClauseRun (75, .aload_n 1, 1, 0, []) (List.mem_of_getElem? (i := 42) rfl)) rfl (j := 4) rfl ?_
            refine zp_load (pc := 76) hx hb (zd_X11_isClauseRun (76, .aload_n 1, 1, 0, []) (List.mem_of_getElem? (i := 43) rfl)) rfl (j := 4) rfl ?_
            refine zp_getf (n := (b2 : Int)) (pc := 77) hx hb hEξ hwξ (zd_X11_isClauseRun (77, .getfield 262, 3, 0, []) (List.mem_of_getElem? (i := 44) rfl)) (j := 43) rfl rfl rfl (zM_P hM1ξ (hYbξ _ (List.mem_of_getElem? (i := 13) rfl))) ((zM_G hM1ξ (hYbξ _ (List.mem_of_getElem? (i := 13) rfl)) 2).trans hx2658ξ) ?_
            refine zp_load (pc := 80) hx hb (zd_X11_isClauseRun (80, .iload_n 2, 1, 0, []) (List.mem_of_getElem? (i := 45) rfl)) rfl (j := 5) rfl ?_
            refine zp_iald (j := c9ξ) (v := (G1 b2 (2000 + c9ξ))) (pc := 81) hx hb hwξ (zd_X11_isClauseRun (81, .iaload, 1, 0, []) (List.mem_of_getElem? (i := 46) rfl)) (show zp_ia 1 32 = some (12, 0, 0, (-1), 872) from rfl) hXp658ξ.2.2.2.1 (by omega) (by omega) rfl (fun hk659ξ => ?_)
            have hk659bξ := zp_int hk659ξ
            refine zp_load (pc := 82) hx hb (zd_X11_isClauseRun (82, .aload_n 0, 1, 0, []) (List.mem_of_getElem? (i := 47) rfl)) rfl (j := 3) rfl ?_
            refine zp_getf (n := (A 21 : Int)) (pc := 83) hx hb hEξ hwξ (zd_X11_isClauseRun (83, .getfield 90, 3, 0, []) (List.mem_of_getElem? (i := 48) rfl)) (j := 62) rfl rfl rfl (zM_P hM1ξ (hYbξ _ (List.mem_of_getElem? (i := 0) rfl))) ((zM_G hM1ξ (hYbξ _ (List.mem_of_getElem? (i := 0) rfl)) 12).trans (zM_F hM1ξ (hFbξ _ (List.mem_of_getElem? (i := 10) rfl)))) ?_
            refine zp_knL (a := cd) hwξ (t := 35) (len := 872) ⟨_, rfl, rfl, rfl, rfl⟩ (by decide) (hXp658ξ.2.2.2.2.2.2) (fun hcl2ξ => ?_)
            have hgV2ξ : zgV (A 4) (A 13) cd (A 67) (A 21) 872 (fun j => G1 cd (2000 + j)) (fun j => G1 (A 21) (2000 + j)) G1 := ⟨(zM_G hM1ξ (hYbξ _ (List.mem_of_getElem? (i := 4) rfl)) 1).trans (zM_F hM1ξ (hFbξ _ (List.mem_of_getElem? (i := 42) rfl))), hX1ξ.2.2.2.2.2.2, hcl2ξ, fun j => rfl, fun j => rfl⟩
            have hwd2ξ : ∀ j, j < 21 → -2147483648 ≤ G1 (A 21) (2000 + j) ∧ G1 (A 21) (2000 + j) ≤ 2147483648 := fun j hjξ => by
              rw [hg1ξ j hjξ]
              have h9ξ := hwb9ξ j hjξ
              omega
            have hen2ξ : ∀ s v, yl_ok true s v → zo_eC X (yl_o true s v) (yl_a true s v) = if s = 1 then v else (fun j => G1 (A 21) (2000 + j)) v.toNat := fun s v h => by
              rw [zo_eC_w hCIξ.2.1.1 hCIξ.2.1.2.1 hCIξ.2.1.2.2.1 hCIξ.2.1.2.2.2 h]
              rcases h with ⟨e1, -, -⟩ | ⟨e1, e2, e3⟩
              · rw [if_pos e1, if_pos e1]
              · rw [if_neg (by omega), if_neg (by omega)]
                have e3 : v < 21 := e3
                exact (hg1ξ v.toNat (by omega)).symm
            refine zp_call (pc := 86) (how := 0) (idx := 255) (mi := 84) (S := []) hx hb hEξ hwξ heffξ hrmξ (zX_vam hWξ (A 13) cd (A 67) (A 21) (fun j => G1 (A 21) (2000 + j)) (zo_eC X) K.2.2.1) rfl (j := 29) rfl rfl (by decide +kernel) (zd_X11_isClauseRun (86, .invokevirtual 255, 3, 0, []) (List.mem_of_getElem? (i := 49) rfl)) [(A 4 : Int), (A 13 : Int), (G1 b2 (2000 + c9ξ)), (A 21 : Int)] rfl ⟨zp_o2 (zM_P hM1ξ (hYbξ _ (List.mem_of_getElem? (i := 4) rfl))), zp_o2 (zM_P hM1ξ (hYbξ _ (List.mem_of_getElem? (i := 13) rfl))), zp_o0 (by omega) (by omega) (by omega) (by omega), zp_o2 (zM_P hM1ξ (hYbξ _ (List.mem_of_getElem? (i := 15) rfl))), trivial⟩ (Nat.le_of_ble_eq_true rfl) (zo_vam hgV2ξ hXp658ξ.2.2.2.2.2.2 (zM_P hM1ξ (hYbξ _ (List.mem_of_getElem? (i := 45) rfl))) (Nat.le_refl _) hXc1ξ.1 hwd2ξ hen2ξ hs2658ξ) (fun al halξ rn2ξ P2 G2 hext2ξ hfr2ξ hok2ξ hcs2ξ hpsi2ξ => ?_)
            obtain rfl := List.mem_singleton.mp halξ
            obtain ⟨hPe2ξ, ht2ξ, hn2ξ⟩ := hpsi2ξ
            have ht2ξ : ∀ v, zo_x1 K.2.2.1 (zo_eC X) = some v → (-2147483648 ≤ v ∧ v ≤ 2147483648) ∧ rn2ξ = v := ht2ξ
            have hn2ξ : zo_x1 K.2.2.1 (zo_eC X) = none → rn2ξ = (-9000000000) := hn2ξ
            have hb2ξ : ∀ v, zo_x1 K.2.2.1 (zo_eC X) = some v → -2147483648 ≤ v ∧ v ≤ 2147483647 := fun v hvξ => zo_x1_b hinbξ hs2658ξ hvξ
            obtain ⟨M2, hM2ξ, hMf2ξ⟩ := zM_rul hM1ξ hYF0ξ (show zp_fr [(27, 1001, 0), (28, 1001, 0)] _ _ _ _ from zp_fr_w hfr2ξ) hext2ξ
            subst hPe2ξ
            have hVM2ξ : ∀ o k, zNc o → M2 o k = X o k := fun o k hkξ => (hMf2ξ.1 o k (fun e => by subst e; exact absurd hkξ (by decide)) (fun e => by subst e; exact absurd hkξ (by decide))).trans (hVM1ξ o k hkξ)
            have hX2ξ := zo_X_f hX1ξ hfr2ξ (by decide)
            have hXc2ξ := zo_Xc_f hX1ξ hXc1ξ hfr2ξ (by decide)
            have hg2ξ : ∀ j, j < 21 → G2 (A 21) (2000 + j) = zo_wC X j := fun j hjξ => (zp_nc hfr2ξ (zM_P hM1ξ (hYbξ _ (List.mem_of_getElem? (i := 15) rfl))) (by decide) _).trans (hg1ξ j hjξ)
            clear hext2ξ hfr2ξ hok2ξ hcs2ξ hMf2ξ
            have hXp660ξ := hX2ξ.1
            have hx0660ξ : M2 13 0 = (b0 : Int) := (zM_G hM2ξ (hYbξ _ (List.mem_of_getElem? (i := 13) rfl)) 0).symm.trans hX2ξ.2.1
            have hx1660ξ : M2 13 1 = (b1 : Int) := (zM_G hM2ξ (hYbξ _ (List.mem_of_getElem? (i := 13) rfl)) 1).symm.trans hX2ξ.2.2.1
            have hx2660ξ : M2 13 2 = (b2 : Int) := (zM_G hM2ξ (hYbξ _ (List.mem_of_getElem? (i := 13) rfl)) 2).symm.trans hX2ξ.2.2.2.1
            have hx3660ξ : M2 13 3 = (b3 : Int) := (zM_G hM2ξ (hYbξ _ (List.mem_of_getElem? (i := 13) rfl)) 3).symm.trans hX2ξ.2.2.2.2.1
            have hx4660ξ : M2 13 4 = (b4 : Int) := (zM_G hM2ξ (hYbξ _ (List.mem_of_getElem? (i := 13) rfl)) 4).symm.trans hX2ξ.2.2.2.2.2.1
            have hk0660ξ : G2 b0 (2000 + c9ξ) = K.1 := hXc2ξ.2.1.1
            have hk3660ξ : G2 b3 (2000 + c9ξ) = K.2.2.2.1 := hXc2ξ.2.2.2.2.1
            have hs1660ξ : (K.2.1 = none ∧ G2 b1 (2000 + c9ξ) = -1) ∨ ∃ x, K.2.1 = some x ∧ zXp (fun j => G2 cd (2000 + j)) sz true (G2 b1 (2000 + c9ξ)) x := hXc2ξ.2.2.1
            have hs2660ξ : (K.2.2.1 = none ∧ G2 b2 (2000 + c9ξ) = -1) ∨ ∃ x, K.2.2.1 = some x ∧ zXp (fun j => G2 cd (2000 + j)) sz true (G2 b2 (2000 + c9ξ)) x := hXc2ξ.2.2.2.1
            have hs4660ξ : (K.2.2.2.2 = none ∧ G2 b4 (2000 + c9ξ) = -1) ∨ ∃ x, K.2.2.2.2 = some x ∧ zXp (fun j => G2 cd (2000 + j)) sz true (G2 b4 (2000 + c9ξ)) x := hXc2ξ.2.2.2.2.2.imp id (fun ⟨x, h1ξ, h2ξ, _⟩ => ⟨x, h1ξ, h2ξ⟩)
            have hl2ξ : zk_rg 1 rn2ξ := by
              cases hqξ : zo_x1 K.2.2.1 (zo_eC X) with
              | none => rw [hn2ξ hqξ]; exact zp_r1 (by decide) (by decide)
              | some v => rw [(ht2ξ v hqξ).2]; have := hb2ξ v hqξ; exact zp_r1 (by omega) (by omega)
            have htbξ : zo_tbC (zo_eC X) K.2.2.2.2 = true := by
              unfold zo_tbC
              rw [hq0ξ]
              exact decide_eq_true (by omega)
            cases hq1ξ : zo_x1 K.2.1 (zo_eC X) with
            | none =>
              have hr1ξ := hn1ξ hq1ξ
              subst hr1ξ
              refine zp_store (L' := [(7, 1, rn2ξ), (5, 1, (-9000000000)), (4, 0, (kk : Int)), (3, 0, K.1), (0, 2, (A 0 : Int)), (1, 2, (A 13 : Int)), (2, 0, (c9ξ : Int))]) (pc := 89) hx hb hnLξ (zd_X11_isClauseRun (89, .lstore 7, 2, 0, []) (List.mem_of_getElem? (i := 50) rfl)) rfl rfl rfl ?_
              refine zp_load (pc := 91) hx hb (zd_X11_isClauseRun (91, .lload 5, 2, 0, []) (List.mem_of_getElem? (i := 51) rfl)) rfl (j := 1) rfl ?_
              refine zp_ldc2 (pc := 93) hx hb hEξ (zd_X11_isClauseRun (93, .ldc2_w 265, 3, 0, []) (List.mem_of_getElem? (i := 52) rfl)) (j := 70) rfl ?_
              refine zp_lcmp (pc := 96) (tgt := 109) hx hb (zd_X11_isClauseRun (96, .lcmp, 1, 0, []) (List.mem_of_getElem? (i := 53) rfl)) (zd_X11_isClauseRun (97, .ifCond .eq 12, 3, 0, []) (List.mem_of_getElem? (i := 54) rfl)) rfl (fun (hc661ξ : (-9000000000 : Int) = (-9000000000)) => ?_) (fun (hc661ξ : ¬ ((-9000000000 : Int) = (-9000000000))) => ?_)
              · refine zp_const (pc := 109) hx hb (zd_X11_isClauseRun (109, .iconst 0, 1, 0, []) (List.mem_of_getElem? (i := 59) rfl)) rfl rfl ?_
                refine zp_zret (pc := 110) (n := 0) hx hb hEξ hQξ hU5ξ rfl (by decide) (zd_X11_isClauseRun (110, .ireturn, 1, 0, []) (List.mem_of_getElem? (i := 60) rfl)) (j := 0) rfl (zp_o0 (by omega) (by omega) (by omega) (by omega)) ?_
                rw [hpsξ]
                refine ⟨rfl, ?_⟩
                have hrunξ : zo_runC X n1ξ npξ Lwξ K = (0, X) := by
                  unfold zo_runC
                  rw [if_pos htbξ, hq1ξ]
                  try rfl
                rw [hrunξ] at hfinξ
                have hfinξ : zo_tmC n1ξ npξ Lwξ K K.2.2.2.1.toNat V = (false, X) := hfinξ
                show zMVc A Y F (zo_tmC n1ξ npξ Lwξ K K.2.2.2.1.toNat V).2 u.1 _ ∧ ((0 : Int) = 1 ↔ (zo_tmC n1ξ npξ Lwξ K K.2.2.2.1.toNat V).1 = true)
                rw [hfinξ]
                exact ⟨⟨M2, hM2ξ, hVM2ξ, trivial⟩, fun h => absurd h (by decide), fun h => absurd (show (false : Bool) = true from h) (by decide)⟩
              · exfalso
                omega
            | some v1 =>
              have hr1ξ := (ht1ξ v1 hq1ξ).2
              subst hr1ξ
              have hb1vξ := hb1ξ rn1ξ hq1ξ
              cases hq2ξ : zo_x1 K.2.2.1 (zo_eC X) with
              | none =>
                have hr2ξ := hn2ξ hq2ξ
                subst hr2ξ
                refine zp_store (L' := [(7, 1, (-9000000000)), (5, 1, rn1ξ), (4, 0, (kk : Int)), (3, 0, K.1), (0, 2, (A 0 : Int)), (1, 2, (A 13 : Int)), (2, 0, (c9ξ : Int))]) (pc := 89) hx hb hnLξ (zd_X11_isClauseRun (89, .lstore 7, 2, 0, []) (List.mem_of_getElem? (i := 50) rfl)) rfl rfl rfl ?_
                refine zp_load (pc := 91) hx hb (zd_X11_isClauseRun (91, .lload 5, 2, 0, []) (List.mem_of_getElem? (i := 51) rfl)) rfl (j := 1) rfl ?_
                refine zp_ldc2 (pc := 93) hx hb hEξ (zd_X11_isClauseRun (93, .ldc2_w 265, 3, 0, []) (List.mem_of_getElem? (i := 52) rfl)) (j := 70) rfl ?_
                refine zp_lcmp (pc := 96) (tgt := 109) hx hb (zd_X11_isClauseRun (96, .lcmp, 1, 0, []) (List.mem_of_getElem? (i := 53) rfl)) (zd_X11_isClauseRun (97, .ifCond .eq 12, 3, 0, []) (List.mem_of_getElem? (i := 54) rfl)) rfl (fun (hc662ξ : rn1ξ = (-9000000000)) => ?_) (fun (hc662ξ : ¬ (rn1ξ = (-9000000000))) => ?_)
                · exfalso
                  omega
                · refine zp_load (pc := 100) hx hb (zd_X11_isClauseRun (100, .lload 7, 2, 0, []) (List.mem_of_getElem? (i := 55) rfl)) rfl (j := 0) rfl ?_
                  refine zp_ldc2 (pc := 102) hx hb hEξ (zd_X11_isClauseRun (102, .ldc2_w 265, 3, 0, []) (List.mem_of_getElem? (i := 56) rfl)) (j := 70) rfl ?_
                  refine zp_lcmp (pc := 105) (tgt := 111) hx hb (zd_X11_isClauseRun (105, .lcmp, 1, 0, []) (List.mem_of_getElem? (i := 57) rfl)) (zd_X11_isClauseRun (106, .ifCond .ne 5, 3, 0, []) (List.mem_of_getElem? (i := 58) rfl)) rfl (fun (hc663ξ : ¬ (-9000000000 : Int) = (-9000000000)) => ?_) (fun (hc663ξ : ¬ (¬ (-9000000000 : Int) = (-9000000000))) => ?_)
                  · exfalso
                    omega
                  · refine zp_const (pc := 109) hx hb (zd_X11_isClauseRun (109, .iconst 0, 1, 0, []) (List.mem_of_getElem? (i := 59) rfl)) rfl rfl ?_
                    refine zp_zret (pc := 110) (n := 0) hx hb hEξ hQξ hU5ξ rfl (by decide) (zd_X11_isClauseRun (110, .ireturn, 1, 0, []) (List.mem_of_getElem? (i := 60) rfl)) (j := 0) rfl (zp_o0 (by omega) (by omega) (by omega) (by omega)) ?_
                    rw [hpsξ]
                    refine ⟨rfl, ?_⟩
                    have hrunξ : zo_runC X n1ξ npξ Lwξ K = (0, X) := by
                      unfold zo_runC
                      rw [if_pos htbξ, hq1ξ, hq2ξ]
                      try rfl
                    rw [hrunξ] at hfinξ
                    have hfinξ : zo_tmC n1ξ npξ Lwξ K K.2.2.2.1.toNat V = (false, X) := hfinξ
                    show zMVc A Y F (zo_tmC n1ξ npξ Lwξ K K.2.2.2.1.toNat V).2 u.1 _ ∧ ((0 : Int) = 1 ↔ (zo_tmC n1ξ npξ Lwξ K K.2.2.2.1.toNat V).1 = true)
                    rw [hfinξ]
                    exact ⟨⟨M2, hM2ξ, hVM2ξ, trivial⟩, fun h => absurd h (by decide), fun h => absurd (show (false : Bool) = true from h) (by decide)⟩
              | some v2 =>
                have hr2ξ := (ht2ξ v2 hq2ξ).2
                subst hr2ξ
                have hb2vξ := hb2ξ rn2ξ hq2ξ
                have hrun9ξ : zo_runC X n1ξ npξ Lwξ K = if (zo_doC X n1ξ npξ Lwξ K.1 rn1ξ rn2ξ).1 < 0 then (0, (zo_doC X n1ξ npξ Lwξ K.1 rn1ξ rn2ξ).2) else (1, if K.1 = 2 then zp_set (zp_set (zo_doC X n1ξ npξ Lwξ K.1 rn1ξ rn2ξ).2 0 13 (X 0 13 + 1)) 0 14 (zo_doC X n1ξ npξ Lwξ K.1 rn1ξ rn2ξ).1 else zp_set (zo_doC X n1ξ npξ Lwξ K.1 rn1ξ rn2ξ).2 0 13 (X 0 13 + 1)) := by
                  unfold zo_runC
                  rw [if_pos htbξ, hq1ξ, hq2ξ]
                  try rfl
                refine zp_store (L' := [(7, 1, rn2ξ), (5, 1, rn1ξ), (4, 0, (kk : Int)), (3, 0, K.1), (0, 2, (A 0 : Int)), (1, 2, (A 13 : Int)), (2, 0, (c9ξ : Int))]) (pc := 89) hx hb hnLξ (zd_X11_isClauseRun (89, .lstore 7, 2, 0, []) (List.mem_of_getElem? (i := 50) rfl)) rfl rfl rfl ?_
                refine zp_load (pc := 91) hx hb (zd_X11_isClauseRun (91, .lload 5, 2, 0, []) (List.mem_of_getElem? (i := 51) rfl)) rfl (j := 1) rfl ?_
                refine zp_ldc2 (pc := 93) hx hb hEξ (zd_X11_isClauseRun (93, .ldc2_w 265, 3, 0, []) (List.mem_of_getElem? (i := 52) rfl)) (j := 70) rfl ?_
                refine zp_lcmp (pc := 96) (tgt := 109) hx hb (zd_X11_isClauseRun (96, .lcmp, 1, 0, []) (List.mem_of_getElem? (i := 53) rfl)) (zd_X11_isClauseRun (97, .ifCond .eq 12, 3, 0, []) (List.mem_of_getElem? (i := 54) rfl)) rfl (fun (hc664ξ : rn1ξ = (-9000000000)) => ?_) (fun (hc664ξ : ¬ (rn1ξ = (-9000000000))) => ?_)
                · exfalso
                  omega
                · refine zp_load (pc := 100) hx hb (zd_X11_isClauseRun (100, .lload 7, 2, 0, []) (List.mem_of_getElem? (i := 55) rfl)) rfl (j := 0) rfl ?_
                  refine zp_ldc2 (pc := 102) hx hb hEξ (zd_X11_isClauseRun (102, .ldc2_w 265, 3, 0, []) (List.mem_of_getElem? (i := 56) rfl)) (j := 70) rfl ?_
                  refine zp_lcmp (pc := 105) (tgt := 111) hx hb (zd_X11_isClauseRun (105, .lcmp, 1, 0, []) (List.mem_of_getElem? (i := 57) rfl)) (zd_X11_isClauseRun (106, .ifCond .ne 5, 3, 0, []) (List.mem_of_getElem? (i := 58) rfl)) rfl (fun (hc665ξ : ¬ rn2ξ = (-9000000000)) => ?_) (fun (hc665ξ : ¬ (¬ rn2ξ = (-9000000000))) => ?_)
                  · refine zp_const (pc := 111) hx hb (zd_X11_isClauseRun (111, .iconst (-1), 1, 0, []) (List.mem_of_getElem? (i := 61) rfl)) rfl rfl ?_
                    refine zp_store (L' := [(9, 0, (-1)), (7, 1, rn2ξ), (5, 1, rn1ξ), (4, 0, (kk : Int)), (3, 0, K.1), (0, 2, (A 0 : Int)), (1, 2, (A 13 : Int)), (2, 0, (c9ξ : Int))]) (pc := 112) hx hb hnLξ (zd_X11_isClauseRun (112, .istore 9, 2, 0, []) (List.mem_of_getElem? (i := 62) rfl)) rfl rfl rfl ?_
                    refine zp_load (pc := 114) hx hb (zd_X11_isClauseRun (114, .iload_n 3, 1, 0, []) (List.mem_of_getElem? (i := 63) rfl)) rfl (j := 4) rfl ?_
                    by_cases hc666ξ : K.1 = 0
                    · refine zp_tin (tgt := 144) (off := 29) (pc := 115) hx hb (zd_X11_isClauseRun (115, .tableswitch 77 0 3 #[29, 41, 56, 65], 29, 0, []) (List.mem_of_getElem? (i := 64) rfl)) (by rw [hc666ξ]; decide) (by rw [hc666ξ]; decide) (by rw [hc666ξ]; decide) rfl ?_
                      refine zp_load (pc := 144) hx hb (zd_X11_isClauseRun (144, .aload_n 0, 1, 0, []) (List.mem_of_getElem? (i := 65) rfl)) rfl (j := 5) rfl ?_
                      refine zp_load (pc := 145) hx hb (zd_X11_isClauseRun (145, .lload 5, 2, 0, []) (List.mem_of_getElem? (i := 66) rfl)) rfl (j := 2) rfl ?_
                      refine zp_l2i (pc := 147) hx hb (zd_X11_isClauseRun (147, .l2i, 1, 0, []) (List.mem_of_getElem? (i := 67) rfl)) (fun x667 r_x667 e_x667 => ?_)
                      have i_x667 := zp_rg0 r_x667
                      have hx_x667ξ := e_x667 (zp_r0 (by omega) (by omega))
                      have hx_x667ξ : rn1ξ = x667 := Eq.symm hx_x667ξ
                      subst hx_x667ξ
                      have hd60ξ := hCIξ.2.2.2.2.2.1.1
                      have hd69ξ : X 2 6 ≤ 9999 := by have := hCIξ.2.2.2.2.2.1.2; omega
                      have htuξ := hCIξ.2.2.2.2.1
                      refine zp_call (pc := 148) (how := 0) (idx := 267) (mi := 85) (S := []) hx hb hEξ hwξ heffξ hrmξ (zX_wnbc hWξ A Y F X Lwξ) rfl (j := 30) rfl rfl (by decide +kernel) (zd_X11_isClauseRun (148, .invokevirtual 267, 3, 0, []) (List.mem_of_getElem? (i := 68) rfl)) [(A 0 : Int), rn1ξ] rfl ⟨zp_o2 (zM_P hM2ξ (hYbξ _ (List.mem_of_getElem? (i := 0) rfl))), zp_o0 (by omega) (by omega) (by omega) (by omega), trivial⟩ (Nat.le_of_ble_eq_true rfl) ⟨⟨M2, hM2ξ, hVM2ξ, trivial⟩, rfl, hYF0ξ, hCIξ.2.2.2.2.2.2.1.1, hCIξ.2.2.2.2.2.2.1.2, ⟨hd60ξ, hd69ξ⟩, hCIξ.1⟩ (fun al halξ rnd Pd Gd hextdξ hfrdξ hokdξ hcsdξ hpsidξ => ?_)
                      obtain rfl := List.mem_singleton.mp halξ
                      have hrdξ := zp_int (hokdξ _ rfl).1
                      obtain ⟨hPedξ, ⟨Md, hMdξ, hVMdξ, -⟩, htdξ⟩ := hpsidξ
                      subst hPedξ
                      have hXdξ := zo_X_f hX2ξ hfrdξ (by decide)
                      have hXcdξ := zo_Xc_f hX2ξ hXc2ξ hfrdξ (by decide)
                      clear hextdξ hfrdξ hcsdξ hokdξ
                      have hVMdξ : ∀ o k, zNc o → Md o k = (zf_wnbc X Lwξ rn1ξ).2 o k := hVMdξ
                      have htdξ : rnd = (zf_wnbc X Lwξ rn1ξ).1 := htdξ
                      have htdξ := (Eq.symm htdξ)
                      have hdoξ : zo_doC X n1ξ npξ Lwξ K.1 rn1ξ rn2ξ = zf_wnbc X Lwξ rn1ξ := by
                        unfold zo_doC
                        rw [if_pos (by omega)]
                      have h13dξ : (zf_wnbc X Lwξ rn1ξ).2 0 13 = X 0 13 := by
                        rw [← hdoξ]
                        exact zo_doC_0
                      have hCIdξ : zCI A Y F (zf_wnbc X Lwξ rn1ξ).2 n1ξ npξ Lwξ := by
                        rw [← hdoξ]
                        exact zCI_do hCIξ
                      rw [hdoξ] at hrun9ξ
                      have hXp668ξ := hXdξ.1
                      have hx0668ξ : Md 13 0 = (b0 : Int) := (zM_G hMdξ (hYbξ _ (List.mem_of_getElem? (i := 13) rfl)) 0).symm.trans hXdξ.2.1
                      have hx1668ξ : Md 13 1 = (b1 : Int) := (zM_G hMdξ (hYbξ _ (List.mem_of_getElem? (i := 13) rfl)) 1).symm.trans hXdξ.2.2.1
                      have hx2668ξ : Md 13 2 = (b2 : Int) := (zM_G hMdξ (hYbξ _ (List.mem_of_getElem? (i := 13) rfl)) 2).symm.trans hXdξ.2.2.2.1
                      have hx3668ξ : Md 13 3 = (b3 : Int) := (zM_G hMdξ (hYbξ _ (List.mem_of_getElem? (i := 13) rfl)) 3).symm.trans hXdξ.2.2.2.2.1
                      have hx4668ξ : Md 13 4 = (b4 : Int) := (zM_G hMdξ (hYbξ _ (List.mem_of_getElem? (i := 13) rfl)) 4).symm.trans hXdξ.2.2.2.2.2.1
                      have hk0668ξ : Gd b0 (2000 + c9ξ) = K.1 := hXcdξ.2.1.1
                      have hk3668ξ : Gd b3 (2000 + c9ξ) = K.2.2.2.1 := hXcdξ.2.2.2.2.1
                      have hs1668ξ : (K.2.1 = none ∧ Gd b1 (2000 + c9ξ) = -1) ∨ ∃ x, K.2.1 = some x ∧ zXp (fun j => Gd cd (2000 + j)) sz true (Gd b1 (2000 + c9ξ)) x := hXcdξ.2.2.1
                      have hs2668ξ : (K.2.2.1 = none ∧ Gd b2 (2000 + c9ξ) = -1) ∨ ∃ x, K.2.2.1 = some x ∧ zXp (fun j => Gd cd (2000 + j)) sz true (Gd b2 (2000 + c9ξ)) x := hXcdξ.2.2.2.1
                      have hs4668ξ : (K.2.2.2.2 = none ∧ Gd b4 (2000 + c9ξ) = -1) ∨ ∃ x, K.2.2.2.2 = some x ∧ zXp (fun j => Gd cd (2000 + j)) sz true (Gd b4 (2000 + c9ξ)) x := hXcdξ.2.2.2.2.2.imp id (fun ⟨x, h1ξ, h2ξ, _⟩ => ⟨x, h1ξ, h2ξ⟩)
                      have h13bξ : X 0 13 ≤ 200000 := by omega
                      refine zp_store (L' := [(9, 0, rnd), (7, 1, rn2ξ), (5, 1, rn1ξ), (4, 0, (kk : Int)), (3, 0, K.1), (0, 2, (A 0 : Int)), (1, 2, (A 13 : Int)), (2, 0, (c9ξ : Int))]) (pc := 151) hx hb hnLξ (zd_X11_isClauseRun (151, .istore 9, 2, 0, []) (List.mem_of_getElem? (i := 69) rfl)) rfl rfl rfl ?_
                      refine zp_goto (tgt := 192) (pc := 153) hx hb (zd_X11_isClauseRun (153, .goto 39, 3, 0, []) (List.mem_of_getElem? (i := 70) rfl)) rfl ?_
                      refine zp_load (pc := 192) hx hb (zd_X11_isClauseRun (192, .iload 9, 2, 0, []) (List.mem_of_getElem? (i := 89) rfl)) rfl (j := 0) rfl ?_
                      refine zp_if (pc := 194) (tgt := 199) hx hb (zd_X11_isClauseRun (194, .ifCond .ge 5, 3, 0, []) (List.mem_of_getElem? (i := 90) rfl)) rfl (fun (hc669ξ : 0 ≤ rnd) => ?_) (fun (hc669ξ : ¬ (0 ≤ rnd)) => ?_)
                      · refine zp_load (pc := 199) hx hb (zd_X11_isClauseRun (199, .aload_n 0, 1, 0, []) (List.mem_of_getElem? (i := 93) rfl)) rfl (j := 5) rfl ?_
                        refine zp_dup (pc := 200) hx hb (zd_X11_isClauseRun (200, .dup, 1, 0, []) (List.mem_of_getElem? (i := 94) rfl)) (show (2 : Nat) ≠ 1 by decide) ?_
                        refine zp_getf (n := (X 0 13)) (pc := 201) hx hb hEξ hwξ (zd_X11_isClauseRun (201, .getfield 233, 3, 0, []) (List.mem_of_getElem? (i := 95) rfl)) (j := 63) rfl rfl rfl (zM_P hMdξ (hYbξ _ (List.mem_of_getElem? (i := 0) rfl))) (((zM_G hMdξ (hYbξ _ (List.mem_of_getElem? (i := 0) rfl)) 13).trans (hVMdξ 0 13 (by decide))).trans h13dξ) ?_
                        refine zp_kn (k := 13) (a := (A 0)) hwξ (show zp_fd 12 13 = some (11, 0, 0, (-2147483648), 2147483647) from rfl) rfl (zM_P hMdξ (hYbξ _ (List.mem_of_getElem? (i := 0) rfl))) (fun hf670ξ => ?_)
                        have hf670bξ := zp_int hf670ξ
                        rw [(((zM_G hMdξ (hYbξ _ (List.mem_of_getElem? (i := 0) rfl)) 13).trans (hVMdξ 0 13 (by decide))).trans h13dξ)] at hf670bξ
                        clear hf670ξ
                        refine zp_const (pc := 204) hx hb (zd_X11_isClauseRun (204, .iconst 1, 1, 0, []) (List.mem_of_getElem? (i := 96) rfl)) rfl rfl ?_
                        refine zp_add (n := ((X 0 13) + 1)) (pc := 205) hx hb (zd_X11_isClauseRun (205, .iadd, 1, 0, []) (List.mem_of_getElem? (i := 97) rfl)) (by omega) (zp_r0 (by omega) (by omega)) ?_
                        refine zp_putf (pc := 206) hx hb hEξ hwξ heffξ (zd_X11_isClauseRun (206, .putfield 233, 3, 0, []) (List.mem_of_getElem? (i := 98) rfl)) (j := 63) rfl rfl rfl (zM_P hMdξ (hYbξ _ (List.mem_of_getElem? (i := 0) rfl))) (zp_o0 (by omega) (by omega) (by omega) (by omega)) ?_
                        refine zp_load (pc := 209) hx hb (zd_X11_isClauseRun (209, .iload_n 3, 1, 0, []) (List.mem_of_getElem? (i := 99) rfl)) rfl (j := 4) rfl ?_
                        refine zp_const (pc := 210) hx hb (zd_X11_isClauseRun (210, .iconst 2, 1, 0, []) (List.mem_of_getElem? (i := 100) rfl)) rfl rfl ?_
                        refine zp_icmp (pc := 211) (tgt := 220) hx hb (zd_X11_isClauseRun (211, .if_icmp .ne 9, 3, 0, []) (List.mem_of_getElem? (i := 101) rfl)) rfl (fun (hc671ξ : ¬ K.1 = 2) => ?_) (fun (hc671ξ : ¬ (¬ K.1 = 2)) => ?_)
                        · refine zp_iinc (L' := [(4, 0, ((kk : Int) + 1)), (9, 0, rnd), (7, 1, rn2ξ), (5, 1, rn1ξ), (3, 0, K.1), (0, 2, (A 0 : Int)), (1, 2, (A 13 : Int)), (2, 0, (c9ξ : Int))]) (n := ((kk : Int) + 1)) (pc := 220) hx hb hnLξ (zd_X11_isClauseRun (220, .iinc 4 1, 3, 0, []) (List.mem_of_getElem? (i := 105) rfl)) (j := 3) rfl (by omega) (zp_r0 (by omega) (by omega)) rfl rfl ?_
                          refine zp_goto (tgt := 10) (pc := 223) hx hb (zd_X11_isClauseRun (223, .goto (-213), 3, 0, []) (List.mem_of_getElem? (i := 106) rfl)) rfl ?_
                          have hrunξ : zo_runC X n1ξ npξ Lwξ K = (1, (zp_set (zf_wnbc X Lwξ rn1ξ).2 0 13 ((X 0 13) + 1))) := by
                            rw [hrun9ξ, if_neg (by omega)]
                            rw [if_neg (by omega)]
                          rw [hrunξ] at hfinξ
                          have hfinξ : zo_tmC n1ξ npξ Lwξ K K.2.2.2.1.toNat V = zo_tmC n1ξ npξ Lwξ K t (zp_set (zf_wnbc X Lwξ rn1ξ).2 0 13 ((X 0 13) + 1)) := hfinξ
                          refine zp_drop (L' := [(4, 0, ((kk : Int) + 1)), (3, 0, K.1), (0, 2, (A 0 : Int)), (1, 2, (A 13 : Int)), (2, 0, (c9ξ : Int))]) (by simp) ?_
                          exact iht (kk + 1) (zp_set (zf_wnbc X Lwξ rn1ξ).2 0 13 ((X 0 13) + 1)) _ (by omega) (zCI_0 hCIdξ) (zo_13b (by omega) (Or.inl rfl)) ⟨(zp_set Md 0 13 ((X 0 13) + 1)), (zM_set hMdξ (hYbξ _ (List.mem_of_getElem? (i := 0) rfl)) (zFx hFxξ (o := 0) (k := 13) (by decide) (by decide))), (zV_set hVMdξ), trivial⟩ (zo_X_s hXdξ (zM_P hMdξ (hYbξ _ (List.mem_of_getElem? (i := 0) rfl))) (by decide)) (zo_Xc_s hXdξ hXcdξ (zM_P hMdξ (hYbξ _ (List.mem_of_getElem? (i := 0) rfl))) (by decide)) hfinξ
                        · exfalso
                          omega
                      · refine zp_const (pc := 197) hx hb (zd_X11_isClauseRun (197, .iconst 0, 1, 0, []) (List.mem_of_getElem? (i := 91) rfl)) rfl rfl ?_
                        refine zp_zret (pc := 198) (n := 0) hx hb hEξ hQξ hU5ξ rfl (by decide) (zd_X11_isClauseRun (198, .ireturn, 1, 0, []) (List.mem_of_getElem? (i := 92) rfl)) (j := 0) rfl (zp_o0 (by omega) (by omega) (by omega) (by omega)) ?_
                        rw [hpsξ]
                        refine ⟨rfl, ?_⟩
                        have hrunξ : zo_runC X n1ξ npξ Lwξ K = (0, (zf_wnbc X Lwξ rn1ξ).2) := by
                          rw [hrun9ξ]
                          exact if_pos (by omega)
                        rw [hrunξ] at hfinξ
                        have hfinξ : zo_tmC n1ξ npξ Lwξ K K.2.2.2.1.toNat V = (false, (zf_wnbc X Lwξ rn1ξ).2) := hfinξ
                        show zMVc A Y F (zo_tmC n1ξ npξ Lwξ K K.2.2.2.1.toNat V).2 u.1 _ ∧ ((0 : Int) = 1 ↔ (zo_tmC n1ξ npξ Lwξ K K.2.2.2.1.toNat V).1 = true)
                        rw [hfinξ]
                        exact ⟨⟨Md, hMdξ, hVMdξ, trivial⟩, fun h => absurd h (by decide), fun h => absurd (show (false : Bool) = true from h) (by decide)⟩
                    by_cases hc672ξ : K.1 = 1
                    · refine zp_tin (tgt := 156) (off := 41) (pc := 115) hx hb (zd_X11_isClauseRun (115, .tableswitch 77 0 3 #[29, 41, 56, 65], 29, 0, []) (List.mem_of_getElem? (i := 64) rfl)) (by rw [hc672ξ]; decide) (by rw [hc672ξ]; decide) (by rw [hc672ξ]; decide) rfl ?_
                      refine zp_load (pc := 156) hx hb (zd_X11_isClauseRun (156, .aload_n 0, 1, 0, []) (List.mem_of_getElem? (i := 71) rfl)) rfl (j := 5) rfl ?_
                      refine zp_load (pc := 157) hx hb (zd_X11_isClauseRun (157, .lload 5, 2, 0, []) (List.mem_of_getElem? (i := 72) rfl)) rfl (j := 2) rfl ?_
                      refine zp_l2i (pc := 159) hx hb (zd_X11_isClauseRun (159, .l2i, 1, 0, []) (List.mem_of_getElem? (i := 73) rfl)) (fun x673 r_x673 e_x673 => ?_)
                      have i_x673 := zp_rg0 r_x673
                      refine zp_load (pc := 160) hx hb (zd_X11_isClauseRun (160, .lload 7, 2, 0, []) (List.mem_of_getElem? (i := 74) rfl)) rfl (j := 1) rfl ?_
                      refine zp_l2i (pc := 162) hx hb (zd_X11_isClauseRun (162, .l2i, 1, 0, []) (List.mem_of_getElem? (i := 75) rfl)) (fun x674 r_x674 e_x674 => ?_)
                      have i_x674 := zp_rg0 r_x674
                      have hx_x674ξ := e_x674 (zp_r0 (by omega) (by omega))
                      have hx_x673ξ := e_x673 (zp_r0 (by omega) (by omega))
                      have hx_x674ξ : rn2ξ = x674 := Eq.symm hx_x674ξ
                      subst hx_x674ξ
                      have hx_x673ξ : rn1ξ = x673 := Eq.symm hx_x673ξ
                      subst hx_x673ξ
                      have hd60ξ := hCIξ.2.2.2.2.2.1.1
                      have hd69ξ : X 2 6 ≤ 9999 := by have := hCIξ.2.2.2.2.2.1.2; omega
                      have htuξ := hCIξ.2.2.2.2.1
                      refine zp_call (pc := 163) (how := 0) (idx := 270) (mi := 101) (S := []) hx hb hEξ hwξ heffξ hrmξ (zX_keybc hWξ A Y F X Lwξ) rfl (j := 37) rfl rfl (by decide +kernel) (zd_X11_isClauseRun (163, .invokevirtual 270, 3, 0, []) (List.mem_of_getElem? (i := 76) rfl)) [(A 0 : Int), rn1ξ, rn2ξ] rfl ⟨zp_o2 (zM_P hM2ξ (hYbξ _ (List.mem_of_getElem? (i := 0) rfl))), zp_o0 (by omega) (by omega) (by omega) (by omega), zp_o0 (by omega) (by omega) (by omega) (by omega), trivial⟩ (Nat.le_of_ble_eq_true rfl) ⟨⟨M2, hM2ξ, hVM2ξ, trivial⟩, rfl, hYF0ξ, hCIξ.1, (by omega), (by omega)⟩ (fun al halξ rnd Pd Gd hextdξ hfrdξ hokdξ hcsdξ hpsidξ => ?_)
                      obtain rfl := List.mem_singleton.mp halξ
                      have hrdξ := zp_int (hokdξ _ rfl).1
                      obtain ⟨hPedξ, ⟨Md, hMdξ, hVMdξ, -⟩, htdξ⟩ := hpsidξ
                      subst hPedξ
                      have hXdξ := zo_X_f hX2ξ hfrdξ (by decide)
                      have hXcdξ := zo_Xc_f hX2ξ hXc2ξ hfrdξ (by decide)
                      clear hextdξ hfrdξ hcsdξ hokdξ
                      have hVMdξ : ∀ o k, zNc o → Md o k = (zf_keybc X Lwξ rn1ξ rn2ξ).2 o k := hVMdξ
                      have htdξ : rnd = (zf_keybc X Lwξ rn1ξ rn2ξ).1 := htdξ
                      have htdξ := (Eq.symm htdξ)
                      have hdoξ : zo_doC X n1ξ npξ Lwξ K.1 rn1ξ rn2ξ = zf_keybc X Lwξ rn1ξ rn2ξ := by
                        unfold zo_doC
                        rw [if_neg (by omega), if_pos (by omega)]
                      have h13dξ : (zf_keybc X Lwξ rn1ξ rn2ξ).2 0 13 = X 0 13 := by
                        rw [← hdoξ]
                        exact zo_doC_0
                      have hCIdξ : zCI A Y F (zf_keybc X Lwξ rn1ξ rn2ξ).2 n1ξ npξ Lwξ := by
                        rw [← hdoξ]
                        exact zCI_do hCIξ
                      rw [hdoξ] at hrun9ξ
                      have hXp675ξ := hXdξ.1
                      have hx0675ξ : Md 13 0 = (b0 : Int) := (zM_G hMdξ (hYbξ _ (List.mem_of_getElem? (i := 13) rfl)) 0).symm.trans hXdξ.2.1
                      have hx1675ξ : Md 13 1 = (b1 : Int) := (zM_G hMdξ (hYbξ _ (List.mem_of_getElem? (i := 13) rfl)) 1).symm.trans hXdξ.2.2.1
                      have hx2675ξ : Md 13 2 = (b2 : Int) := (zM_G hMdξ (hYbξ _ (List.mem_of_getElem? (i := 13) rfl)) 2).symm.trans hXdξ.2.2.2.1
                      have hx3675ξ : Md 13 3 = (b3 : Int) := (zM_G hMdξ (hYbξ _ (List.mem_of_getElem? (i := 13) rfl)) 3).symm.trans hXdξ.2.2.2.2.1
                      have hx4675ξ : Md 13 4 = (b4 : Int) := (zM_G hMdξ (hYbξ _ (List.mem_of_getElem? (i := 13) rfl)) 4).symm.trans hXdξ.2.2.2.2.2.1
                      have hk0675ξ : Gd b0 (2000 + c9ξ) = K.1 := hXcdξ.2.1.1
                      have hk3675ξ : Gd b3 (2000 + c9ξ) = K.2.2.2.1 := hXcdξ.2.2.2.2.1
                      have hs1675ξ : (K.2.1 = none ∧ Gd b1 (2000 + c9ξ) = -1) ∨ ∃ x, K.2.1 = some x ∧ zXp (fun j => Gd cd (2000 + j)) sz true (Gd b1 (2000 + c9ξ)) x := hXcdξ.2.2.1
                      have hs2675ξ : (K.2.2.1 = none ∧ Gd b2 (2000 + c9ξ) = -1) ∨ ∃ x, K.2.2.1 = some x ∧ zXp (fun j => Gd cd (2000 + j)) sz true (Gd b2 (2000 + c9ξ)) x := hXcdξ.2.2.2.1
                      have hs4675ξ : (K.2.2.2.2 = none ∧ Gd b4 (2000 + c9ξ) = -1) ∨ ∃ x, K.2.2.2.2 = some x ∧ zXp (fun j => Gd cd (2000 + j)) sz true (Gd b4 (2000 + c9ξ)) x := hXcdξ.2.2.2.2.2.imp id (fun ⟨x, h1ξ, h2ξ, _⟩ => ⟨x, h1ξ, h2ξ⟩)
                      have h13bξ : X 0 13 ≤ 200000 := by omega
                      refine zp_store (L' := [(9, 0, rnd), (7, 1, rn2ξ), (5, 1, rn1ξ), (4, 0, (kk : Int)), (3, 0, K.1), (0, 2, (A 0 : Int)), (1, 2, (A 13 : Int)), (2, 0, (c9ξ : Int))]) (pc := 166) hx hb hnLξ (zd_X11_isClauseRun (166, .istore 9, 2, 0, []) (List.mem_of_getElem? (i := 77) rfl)) rfl rfl rfl ?_
                      refine zp_goto (tgt := 192) (pc := 168) hx hb (zd_X11_isClauseRun (168, .goto 24, 3, 0, []) (List.mem_of_getElem? (i := 78) rfl)) rfl ?_
                      refine zp_load (pc := 192) hx hb (zd_X11_isClauseRun (192, .iload 9, 2, 0, []) (List.mem_of_getElem? (i := 89) rfl)) rfl (j := 0) rfl ?_
                      refine zp_if (pc := 194) (tgt := 199) hx hb (zd_X11_isClauseRun (194, .ifCond .ge 5, 3, 0, []) (List.mem_of_getElem? (i := 90) rfl)) rfl (fun (hc676ξ : 0 ≤ rnd) => ?_) (fun (hc676ξ : ¬ (0 ≤ rnd)) => ?_)
                      · refine zp_load (pc := 199) hx hb (zd_X11_isClauseRun (199, .aload_n 0, 1, 0, []) (List.mem_of_getElem? (i := 93) rfl)) rfl (j := 5) rfl ?_
                        refine zp_dup (pc := 200) hx hb (zd_X11_isClauseRun (200, .dup, 1, 0, []) (List.mem_of_getElem? (i := 94) rfl)) (show (2 : Nat) ≠ 1 by decide) ?_
                        refine zp_getf (n := (X 0 13)) (pc := 201) hx hb hEξ hwξ (zd_X11_isClauseRun (201, .getfield 233, 3, 0, []) (List.mem_of_getElem? (i := 95) rfl)) (j := 63) rfl rfl rfl (zM_P hMdξ (hYbξ _ (List.mem_of_getElem? (i := 0) rfl))) (((zM_G hMdξ (hYbξ _ (List.mem_of_getElem? (i := 0) rfl)) 13).trans (hVMdξ 0 13 (by decide))).trans h13dξ) ?_
                        refine zp_kn (k := 13) (a := (A 0)) hwξ (show zp_fd 12 13 = some (11, 0, 0, (-2147483648), 2147483647) from rfl) rfl (zM_P hMdξ (hYbξ _ (List.mem_of_getElem? (i := 0) rfl))) (fun hf677ξ => ?_)
                        have hf677bξ := zp_int hf677ξ
                        rw [(((zM_G hMdξ (hYbξ _ (List.mem_of_getElem? (i := 0) rfl)) 13).trans (hVMdξ 0 13 (by decide))).trans h13dξ)] at hf677bξ
                        clear hf677ξ
                        refine zp_const (pc := 204) hx hb (zd_X11_isClauseRun (204, .iconst 1, 1, 0, []) (List.mem_of_getElem? (i := 96) rfl)) rfl rfl ?_
                        refine zp_add (n := ((X 0 13) + 1)) (pc := 205) hx hb (zd_X11_isClauseRun (205, .iadd, 1, 0, []) (List.mem_of_getElem? (i := 97) rfl)) (by omega) (zp_r0 (by omega) (by omega)) ?_
                        refine zp_putf (pc := 206) hx hb hEξ hwξ heffξ (zd_X11_isClauseRun (206, .putfield 233, 3, 0, []) (List.mem_of_getElem? (i := 98) rfl)) (j := 63) rfl rfl rfl (zM_P hMdξ (hYbξ _ (List.mem_of_getElem? (i := 0) rfl))) (zp_o0 (by omega) (by omega) (by omega) (by omega)) ?_
                        refine zp_load (pc := 209) hx hb (zd_X11_isClauseRun (209, .iload_n 3, 1, 0, []) (List.mem_of_getElem? (i := 99) rfl)) rfl (j := 4) rfl ?_
                        refine zp_const (pc := 210) hx hb (zd_X11_isClauseRun (210, .iconst 2, 1, 0, []) (List.mem_of_getElem? (i := 100) rfl)) rfl rfl ?_
                        refine zp_icmp (pc := 211) (tgt := 220) hx hb (zd_X11_isClauseRun (211, .if_icmp .ne 9, 3, 0, []) (List.mem_of_getElem? (i := 101) rfl)) rfl (fun (hc678ξ : ¬ K.1 = 2) => ?_) (fun (hc678ξ : ¬ (¬ K.1 = 2)) => ?_)
                        · refine zp_iinc (L' := [(4, 0, ((kk : Int) + 1)), (9, 0, rnd), (7, 1, rn2ξ), (5, 1, rn1ξ), (3, 0, K.1), (0, 2, (A 0 : Int)), (1, 2, (A 13 : Int)), (2, 0, (c9ξ : Int))]) (n := ((kk : Int) + 1)) (pc := 220) hx hb hnLξ (zd_X11_isClauseRun (220, .iinc 4 1, 3, 0, []) (List.mem_of_getElem? (i := 105) rfl)) (j := 3) rfl (by omega) (zp_r0 (by omega) (by omega)) rfl rfl ?_
                          refine zp_goto (tgt := 10) (pc := 223) hx hb (zd_X11_isClauseRun (223, .goto (-213), 3, 0, []) (List.mem_of_getElem? (i := 106) rfl)) rfl ?_
                          have hrunξ : zo_runC X n1ξ npξ Lwξ K = (1, (zp_set (zf_keybc X Lwξ rn1ξ rn2ξ).2 0 13 ((X 0 13) + 1))) := by
                            rw [hrun9ξ, if_neg (by omega)]
                            rw [if_neg (by omega)]
                          rw [hrunξ] at hfinξ
                          have hfinξ : zo_tmC n1ξ npξ Lwξ K K.2.2.2.1.toNat V = zo_tmC n1ξ npξ Lwξ K t (zp_set (zf_keybc X Lwξ rn1ξ rn2ξ).2 0 13 ((X 0 13) + 1)) := hfinξ
                          refine zp_drop (L' := [(4, 0, ((kk : Int) + 1)), (3, 0, K.1), (0, 2, (A 0 : Int)), (1, 2, (A 13 : Int)), (2, 0, (c9ξ : Int))]) (by simp) ?_
                          exact iht (kk + 1) (zp_set (zf_keybc X Lwξ rn1ξ rn2ξ).2 0 13 ((X 0 13) + 1)) _ (by omega) (zCI_0 hCIdξ) (zo_13b (by omega) (Or.inl rfl)) ⟨(zp_set Md 0 13 ((X 0 13) + 1)), (zM_set hMdξ (hYbξ _ (List.mem_of_getElem? (i := 0) rfl)) (zFx hFxξ (o := 0) (k := 13) (by decide) (by decide))), (zV_set hVMdξ), trivial⟩ (zo_X_s hXdξ (zM_P hMdξ (hYbξ _ (List.mem_of_getElem? (i := 0) rfl))) (by decide)) (zo_Xc_s hXdξ hXcdξ (zM_P hMdξ (hYbξ _ (List.mem_of_getElem? (i := 0) rfl))) (by decide)) hfinξ
                        · exfalso
                          omega
                      · refine zp_const (pc := 197) hx hb (zd_X11_isClauseRun (197, .iconst 0, 1, 0, []) (List.mem_of_getElem? (i := 91) rfl)) rfl rfl ?_
                        refine zp_zret (pc := 198) (n := 0) hx hb hEξ hQξ hU5ξ rfl (by decide) (zd_X11_isClauseRun (198, .ireturn, 1, 0, []) (List.mem_of_getElem? (i := 92) rfl)) (j := 0) rfl (zp_o0 (by omega) (by omega) (by omega) (by omega)) ?_
                        rw [hpsξ]
                        refine ⟨rfl, ?_⟩
                        have hrunξ : zo_runC X n1ξ npξ Lwξ K = (0, (zf_keybc X Lwξ rn1ξ rn2ξ).2) := by
                          rw [hrun9ξ]
                          exact if_pos (by omega)
                        rw [hrunξ] at hfinξ
                        have hfinξ : zo_tmC n1ξ npξ Lwξ K K.2.2.2.1.toNat V = (false, (zf_keybc X Lwξ rn1ξ rn2ξ).2) := hfinξ
                        show zMVc A Y F (zo_tmC n1ξ npξ Lwξ K K.2.2.2.1.toNat V).2 u.1 _ ∧ ((0 : Int) = 1 ↔ (zo_tmC n1ξ npξ Lwξ K K.2.2.2.1.toNat V).1 = true)
                        rw [hfinξ]
                        exact ⟨⟨Md, hMdξ, hVMdξ, trivial⟩, fun h => absurd h (by decide), fun h => absurd (show (false : Bool) = true from h) (by decide)⟩
                    by_cases hc679ξ : K.1 = 2
                    · refine zp_tin (tgt := 171) (off := 56) (pc := 115) hx hb (zd_X11_isClauseRun (115, .tableswitch 77 0 3 #[29, 41, 56, 65], 29, 0, []) (List.mem_of_getElem? (i := 64) rfl)) (by rw [hc679ξ]; decide) (by rw [hc679ξ]; decide) (by rw [hc679ξ]; decide) rfl ?_
                      refine zp_load (pc := 171) hx hb (zd_X11_isClauseRun (171, .aload_n 0, 1, 0, []) (List.mem_of_getElem? (i := 79) rfl)) rfl (j := 5) rfl ?_
                      have hd60ξ := hCIξ.2.2.2.2.2.1.1
                      have hd69ξ : X 2 6 ≤ 9999 := by have := hCIξ.2.2.2.2.2.1.2; omega
                      have htuξ := hCIξ.2.2.2.2.1
                      refine zp_call (pc := 172) (how := 0) (idx := 273) (mi := 103) (S := []) hx hb hEξ hwξ heffξ hrmξ (zX_rudc hWξ A Y F X n1ξ npξ Lwξ) rfl (j := 39) rfl rfl (by decide +kernel) (zd_X11_isClauseRun (172, .invokevirtual 273, 3, 0, []) (List.mem_of_getElem? (i := 80) rfl)) [(A 0 : Int)] rfl ⟨zp_o2 (zM_P hM2ξ (hYbξ _ (List.mem_of_getElem? (i := 0) rfl))), trivial⟩ (Nat.le_of_ble_eq_true rfl) ⟨⟨M2, hM2ξ, hVM2ξ, trivial⟩, rfl, hYF0ξ, hCIξ.1, zCI_ok hCIξ, hCIξ.2.2.2.2.1, ⟨hd60ξ, hd69ξ⟩, hCIξ.2.2.2.2.2.2.2⟩ (fun al halξ rnd Pd Gd hextdξ hfrdξ hokdξ hcsdξ hpsidξ => ?_)
                      obtain rfl := List.mem_singleton.mp halξ
                      have hrdξ := zp_int (hokdξ _ rfl).1
                      obtain ⟨hPedξ, ⟨Md, hMdξ, hVMdξ, -⟩, htdξ⟩ := hpsidξ
                      subst hPedξ
                      have hXdξ := zo_X_f hX2ξ hfrdξ (by decide)
                      have hXcdξ := zo_Xc_f hX2ξ hXc2ξ hfrdξ (by decide)
                      clear hextdξ hfrdξ hcsdξ hokdξ
                      have hVMdξ : ∀ o k, zNc o → Md o k = (zf_rudc X n1ξ npξ Lwξ).2 o k := hVMdξ
                      have htdξ : rnd = (zf_rudc X n1ξ npξ Lwξ).1 := htdξ
                      have htdξ := (Eq.symm htdξ)
                      have hdoξ : zo_doC X n1ξ npξ Lwξ K.1 rn1ξ rn2ξ = zf_rudc X n1ξ npξ Lwξ := by
                        unfold zo_doC
                        rw [if_neg (by omega), if_neg (by omega), if_pos (by omega)]
                      have h13dξ : (zf_rudc X n1ξ npξ Lwξ).2 0 13 = X 0 13 := by
                        rw [← hdoξ]
                        exact zo_doC_0
                      have hCIdξ : zCI A Y F (zf_rudc X n1ξ npξ Lwξ).2 n1ξ npξ Lwξ := by
                        rw [← hdoξ]
                        exact zCI_do hCIξ
                      rw [hdoξ] at hrun9ξ
                      have hXp680ξ := hXdξ.1
                      have hx0680ξ : Md 13 0 = (b0 : Int) := (zM_G hMdξ (hYbξ _ (List.mem_of_getElem? (i := 13) rfl)) 0).symm.trans hXdξ.2.1
                      have hx1680ξ : Md 13 1 = (b1 : Int) := (zM_G hMdξ (hYbξ _ (List.mem_of_getElem? (i := 13) rfl)) 1).symm.trans hXdξ.2.2.1
                      have hx2680ξ : Md 13 2 = (b2 : Int) := (zM_G hMdξ (hYbξ _ (List.mem_of_getElem? (i := 13) rfl)) 2).symm.trans hXdξ.2.2.2.1
                      have hx3680ξ : Md 13 3 = (b3 : Int) := (zM_G hMdξ (hYbξ _ (List.mem_of_getElem? (i := 13) rfl)) 3).symm.trans hXdξ.2.2.2.2.1
                      have hx4680ξ : Md 13 4 = (b4 : Int) := (zM_G hMdξ (hYbξ _ (List.mem_of_getElem? (i := 13) rfl)) 4).symm.trans hXdξ.2.2.2.2.2.1
                      have hk0680ξ : Gd b0 (2000 + c9ξ) = K.1 := hXcdξ.2.1.1
                      have hk3680ξ : Gd b3 (2000 + c9ξ) = K.2.2.2.1 := hXcdξ.2.2.2.2.1
                      have hs1680ξ : (K.2.1 = none ∧ Gd b1 (2000 + c9ξ) = -1) ∨ ∃ x, K.2.1 = some x ∧ zXp (fun j => Gd cd (2000 + j)) sz true (Gd b1 (2000 + c9ξ)) x := hXcdξ.2.2.1
                      have hs2680ξ : (K.2.2.1 = none ∧ Gd b2 (2000 + c9ξ) = -1) ∨ ∃ x, K.2.2.1 = some x ∧ zXp (fun j => Gd cd (2000 + j)) sz true (Gd b2 (2000 + c9ξ)) x := hXcdξ.2.2.2.1
                      have hs4680ξ : (K.2.2.2.2 = none ∧ Gd b4 (2000 + c9ξ) = -1) ∨ ∃ x, K.2.2.2.2 = some x ∧ zXp (fun j => Gd cd (2000 + j)) sz true (Gd b4 (2000 + c9ξ)) x := hXcdξ.2.2.2.2.2.imp id (fun ⟨x, h1ξ, h2ξ, _⟩ => ⟨x, h1ξ, h2ξ⟩)
                      have h13bξ : X 0 13 ≤ 200000 := by omega
                      refine zp_store (L' := [(9, 0, rnd), (7, 1, rn2ξ), (5, 1, rn1ξ), (4, 0, (kk : Int)), (3, 0, K.1), (0, 2, (A 0 : Int)), (1, 2, (A 13 : Int)), (2, 0, (c9ξ : Int))]) (pc := 175) hx hb hnLξ (zd_X11_isClauseRun (175, .istore 9, 2, 0, []) (List.mem_of_getElem? (i := 81) rfl)) rfl rfl rfl ?_
                      refine zp_goto (tgt := 192) (pc := 177) hx hb (zd_X11_isClauseRun (177, .goto 15, 3, 0, []) (List.mem_of_getElem? (i := 82) rfl)) rfl ?_
                      refine zp_load (pc := 192) hx hb (zd_X11_isClauseRun (192, .iload 9, 2, 0, []) (List.mem_of_getElem? (i := 89) rfl)) rfl (j := 0) rfl ?_
                      refine zp_if (pc := 194) (tgt := 199) hx hb (zd_X11_isClauseRun (194, .ifCond .ge 5, 3, 0, []) (List.mem_of_getElem? (i := 90) rfl)) rfl (fun (hc681ξ : 0 ≤ rnd) => ?_) (fun (hc681ξ : ¬ (0 ≤ rnd)) => ?_)
                      · refine zp_load (pc := 199) hx hb (zd_X11_isClauseRun (199, .aload_n 0, 1, 0, []) (List.mem_of_getElem? (i := 93) rfl)) rfl (j := 5) rfl ?_
                        refine zp_dup (pc := 200) hx hb (zd_X11_isClauseRun (200, .dup, 1, 0, []) (List.mem_of_getElem? (i := 94) rfl)) (show (2 : Nat) ≠ 1 by decide) ?_
                        refine zp_getf (n := (X 0 13)) (pc := 201) hx hb hEξ hwξ (zd_X11_isClauseRun (201, .getfield 233, 3, 0, []) (List.mem_of_getElem? (i := 95) rfl)) (j := 63) rfl rfl rfl (zM_P hMdξ (hYbξ _ (List.mem_of_getElem? (i := 0) rfl))) (((zM_G hMdξ (hYbξ _ (List.mem_of_getElem? (i := 0) rfl)) 13).trans (hVMdξ 0 13 (by decide))).trans h13dξ) ?_
                        refine zp_kn (k := 13) (a := (A 0)) hwξ (show zp_fd 12 13 = some (11, 0, 0, (-2147483648), 2147483647) from rfl) rfl (zM_P hMdξ (hYbξ _ (List.mem_of_getElem? (i := 0) rfl))) (fun hf682ξ => ?_)
                        have hf682bξ := zp_int hf682ξ
                        rw [(((zM_G hMdξ (hYbξ _ (List.mem_of_getElem? (i := 0) rfl)) 13).trans (hVMdξ 0 13 (by decide))).trans h13dξ)] at hf682bξ
                        clear hf682ξ
                        refine zp_const (pc := 204) hx hb (zd_X11_isClauseRun (204, .iconst 1, 1, 0, []) (List.mem_of_getElem? (i := 96) rfl)) rfl rfl ?_
                        refine zp_add (n := ((X 0 13) + 1)) (pc := 205) hx hb (zd_X11_isClauseRun (205, .iadd, 1, 0, []) (List.mem_of_getElem? (i := 97) rfl)) (by omega) (zp_r0 (by omega) (by omega)) ?_
                        refine zp_putf (pc := 206) hx hb hEξ hwξ heffξ (zd_X11_isClauseRun (206, .putfield 233, 3, 0, []) (List.mem_of_getElem? (i := 98) rfl)) (j := 63) rfl rfl rfl (zM_P hMdξ (hYbξ _ (List.mem_of_getElem? (i := 0) rfl))) (zp_o0 (by omega) (by omega) (by omega) (by omega)) ?_
                        refine zp_load (pc := 209) hx hb (zd_X11_isClauseRun (209, .iload_n 3, 1, 0, []) (List.mem_of_getElem? (i := 99) rfl)) rfl (j := 4) rfl ?_
                        refine zp_const (pc := 210) hx hb (zd_X11_isClauseRun (210, .iconst 2, 1, 0, []) (List.mem_of_getElem? (i := 100) rfl)) rfl rfl ?_
                        refine zp_icmp (pc := 211) (tgt := 220) hx hb (zd_X11_isClauseRun (211, .if_icmp .ne 9, 3, 0, []) (List.mem_of_getElem? (i := 101) rfl)) rfl (fun (hc683ξ : ¬ K.1 = 2) => ?_) (fun (hc683ξ : ¬ (¬ K.1 = 2)) => ?_)
                        · exfalso
                          omega
                        · refine zp_load (pc := 214) hx hb (zd_X11_isClauseRun (214, .aload_n 0, 1, 0, []) (List.mem_of_getElem? (i := 102) rfl)) rfl (j := 5) rfl ?_
                          refine zp_load (pc := 215) hx hb (zd_X11_isClauseRun (215, .iload 9, 2, 0, []) (List.mem_of_getElem? (i := 103) rfl)) rfl (j := 0) rfl ?_
                          refine zp_putf (pc := 217) hx hb hEξ hwξ heffξ (zd_X11_isClauseRun (217, .putfield 94, 3, 0, []) (List.mem_of_getElem? (i := 104) rfl)) (j := 64) rfl rfl rfl (zM_P hMdξ (hYbξ _ (List.mem_of_getElem? (i := 0) rfl))) (zp_o0 (by omega) (by omega) (by omega) (by omega)) ?_
                          refine zp_iinc (L' := [(4, 0, ((kk : Int) + 1)), (9, 0, rnd), (7, 1, rn2ξ), (5, 1, rn1ξ), (3, 0, K.1), (0, 2, (A 0 : Int)), (1, 2, (A 13 : Int)), (2, 0, (c9ξ : Int))]) (n := ((kk : Int) + 1)) (pc := 220) hx hb hnLξ (zd_X11_isClauseRun (220, .iinc 4 1, 3, 0, []) (List.mem_of_getElem? (i := 105) rfl)) (j := 3) rfl (by omega) (zp_r0 (by omega) (by omega)) rfl rfl ?_
                          refine zp_goto (tgt := 10) (pc := 223) hx hb (zd_X11_isClauseRun (223, .goto (-213), 3, 0, []) (List.mem_of_getElem? (i := 106) rfl)) rfl ?_
                          have hrunξ : zo_runC X n1ξ npξ Lwξ K = (1, (zp_set (zp_set (zf_rudc X n1ξ npξ Lwξ).2 0 13 ((X 0 13) + 1)) 0 14 rnd)) := by
                            rw [hrun9ξ, if_neg (by omega)]
                            rw [if_pos (by omega), htdξ]
                          rw [hrunξ] at hfinξ
                          have hfinξ : zo_tmC n1ξ npξ Lwξ K K.2.2.2.1.toNat V = zo_tmC n1ξ npξ Lwξ K t (zp_set (zp_set (zf_rudc X n1ξ npξ Lwξ).2 0 13 ((X 0 13) + 1)) 0 14 rnd) := hfinξ
                          refine zp_drop (L' := [(4, 0, ((kk : Int) + 1)), (3, 0, K.1), (0, 2, (A 0 : Int)), (1, 2, (A 13 : Int)), (2, 0, (c9ξ : Int))]) (by simp) ?_
                          exact iht (kk + 1) (zp_set (zp_set (zf_rudc X n1ξ npξ Lwξ).2 0 13 ((X 0 13) + 1)) 0 14 rnd) _ (by omega) (zCI_0 (zCI_0 hCIdξ)) (zo_13b (by omega) (Or.inr ⟨_, rfl⟩)) ⟨(zp_set (zp_set Md 0 13 ((X 0 13) + 1)) 0 14 rnd), (zM_set (zM_set hMdξ (hYbξ _ (List.mem_of_getElem? (i := 0) rfl)) (zFx hFxξ (o := 0) (k := 13) (by decide) (by decide))) (hYbξ _ (List.mem_of_getElem? (i := 0) rfl)) (zFx hFxξ (o := 0) (k := 14) (by decide) (by decide))), (zV_set (zV_set hVMdξ)), trivial⟩ (zo_X_s (zo_X_s hXdξ (zM_P hMdξ (hYbξ _ (List.mem_of_getElem? (i := 0) rfl))) (by decide)) (zM_P hMdξ (hYbξ _ (List.mem_of_getElem? (i := 0) rfl))) (by decide)) (zo_Xc_s (zo_X_s hXdξ (zM_P hMdξ (hYbξ _ (List.mem_of_getElem? (i := 0) rfl))) (by decide)) (zo_Xc_s hXdξ hXcdξ (zM_P hMdξ (hYbξ _ (List.mem_of_getElem? (i := 0) rfl))) (by decide)) (zM_P hMdξ (hYbξ _ (List.mem_of_getElem? (i := 0) rfl))) (by decide)) hfinξ
                      · refine zp_const (pc := 197) hx hb (zd_X11_isClauseRun (197, .iconst 0, 1, 0, []) (List.mem_of_getElem? (i := 91) rfl)) rfl rfl ?_
                        refine zp_zret (pc := 198) (n := 0) hx hb hEξ hQξ hU5ξ rfl (by decide) (zd_X11_isClauseRun (198, .ireturn, 1, 0, []) (List.mem_of_getElem? (i := 92) rfl)) (j := 0) rfl (zp_o0 (by omega) (by omega) (by omega) (by omega)) ?_
                        rw [hpsξ]
                        refine ⟨rfl, ?_⟩
                        have hrunξ : zo_runC X n1ξ npξ Lwξ K = (0, (zf_rudc X n1ξ npξ Lwξ).2) := by
                          rw [hrun9ξ]
                          exact if_pos (by omega)
                        rw [hrunξ] at hfinξ
                        have hfinξ : zo_tmC n1ξ npξ Lwξ K K.2.2.2.1.toNat V = (false, (zf_rudc X n1ξ npξ Lwξ).2) := hfinξ
                        show zMVc A Y F (zo_tmC n1ξ npξ Lwξ K K.2.2.2.1.toNat V).2 u.1 _ ∧ ((0 : Int) = 1 ↔ (zo_tmC n1ξ npξ Lwξ K K.2.2.2.1.toNat V).1 = true)
                        rw [hfinξ]
                        exact ⟨⟨Md, hMdξ, hVMdξ, trivial⟩, fun h => absurd h (by decide), fun h => absurd (show (false : Bool) = true from h) (by decide)⟩
                    by_cases hc684ξ : K.1 = 3
                    · refine zp_tin (tgt := 180) (off := 65) (pc := 115) hx hb (zd_X11_isClauseRun (115, .tableswitch 77 0 3 #[29, 41, 56, 65], 29, 0, []) (List.mem_of_getElem? (i := 64) rfl)) (by rw [hc684ξ]; decide) (by rw [hc684ξ]; decide) (by rw [hc684ξ]; decide) rfl ?_
                      refine zp_load (pc := 180) hx hb (zd_X11_isClauseRun (180, .aload_n 0, 1, 0, []) (List.mem_of_getElem? (i := 83) rfl)) rfl (j := 5) rfl ?_
                      refine zp_load (pc := 181) hx hb (zd_X11_isClauseRun (181, .lload 5, 2, 0, []) (List.mem_of_getElem? (i := 84) rfl)) rfl (j := 2) rfl ?_
                      refine zp_l2i (pc := 183) hx hb (zd_X11_isClauseRun (183, .l2i, 1, 0, []) (List.mem_of_getElem? (i := 85) rfl)) (fun x685 r_x685 e_x685 => ?_)
                      have i_x685 := zp_rg0 r_x685
                      have hx_x685ξ := e_x685 (zp_r0 (by omega) (by omega))
                      have hx_x685ξ : rn1ξ = x685 := Eq.symm hx_x685ξ
                      subst hx_x685ξ
                      have hd60ξ := hCIξ.2.2.2.2.2.1.1
                      have hd69ξ : X 2 6 ≤ 9999 := by have := hCIξ.2.2.2.2.2.1.2; omega
                      have htuξ := hCIξ.2.2.2.2.1
                      refine zp_call (pc := 184) (how := 0) (idx := 277) (mi := 114) (S := []) hx hb hEξ hwξ heffξ hrmξ (zX_mbyc hWξ A Y F X) rfl (j := 41) rfl rfl (by decide +kernel) (zd_X11_isClauseRun (184, .invokevirtual 277, 3, 0, []) (List.mem_of_getElem? (i := 86) rfl)) [(A 0 : Int), rn1ξ] rfl ⟨zp_o2 (zM_P hM2ξ (hYbξ _ (List.mem_of_getElem? (i := 0) rfl))), zp_o0 (by omega) (by omega) (by omega) (by omega), trivial⟩ (Nat.le_of_ble_eq_true rfl) ⟨⟨M2, hM2ξ, hVM2ξ, trivial⟩, rfl, hYF0ξ, hCIξ.2.2.2.2.2.2.1.1, hCIξ.2.2.2.2.2.2.1.2⟩ (fun al halξ rnd Pd Gd hextdξ hfrdξ hokdξ hcsdξ hpsidξ => ?_)
                      obtain rfl := List.mem_singleton.mp halξ
                      have hrdξ := zp_int (hokdξ _ rfl).1
                      obtain ⟨hPedξ, ⟨Md, hMdξ, hVMdξ, -⟩, htdξ⟩ := hpsidξ
                      subst hPedξ
                      have hXdξ := zo_X_f hX2ξ hfrdξ (by decide)
                      have hXcdξ := zo_Xc_f hX2ξ hXc2ξ hfrdξ (by decide)
                      clear hextdξ hfrdξ hcsdξ hokdξ
                      have hVMdξ : ∀ o k, zNc o → Md o k = (zf_mbyc X rn1ξ).2 o k := hVMdξ
                      have htdξ : rnd = (zf_mbyc X rn1ξ).1 := htdξ
                      have htdξ := (Eq.symm htdξ)
                      have hdoξ : zo_doC X n1ξ npξ Lwξ K.1 rn1ξ rn2ξ = zf_mbyc X rn1ξ := by
                        unfold zo_doC
                        rw [if_neg (by omega), if_neg (by omega), if_neg (by omega)]
                      have h13dξ : (zf_mbyc X rn1ξ).2 0 13 = X 0 13 := by
                        rw [← hdoξ]
                        exact zo_doC_0
                      have hCIdξ : zCI A Y F (zf_mbyc X rn1ξ).2 n1ξ npξ Lwξ := by
                        rw [← hdoξ]
                        exact zCI_do hCIξ
                      rw [hdoξ] at hrun9ξ
                      have hXp686ξ := hXdξ.1
                      have hx0686ξ : Md 13 0 = (b0 : Int) := (zM_G hMdξ (hYbξ _ (List.mem_of_getElem? (i := 13) rfl)) 0).symm.trans hXdξ.2.1
                      have hx1686ξ : Md 13 1 = (b1 : Int) := (zM_G hMdξ (hYbξ _ (List.mem_of_getElem? (i := 13) rfl)) 1).symm.trans hXdξ.2.2.1
                      have hx2686ξ : Md 13 2 = (b2 : Int) := (zM_G hMdξ (hYbξ _ (List.mem_of_getElem? (i := 13) rfl)) 2).symm.trans hXdξ.2.2.2.1
                      have hx3686ξ : Md 13 3 = (b3 : Int) := (zM_G hMdξ (hYbξ _ (List.mem_of_getElem? (i := 13) rfl)) 3).symm.trans hXdξ.2.2.2.2.1
                      have hx4686ξ : Md 13 4 = (b4 : Int) := (zM_G hMdξ (hYbξ _ (List.mem_of_getElem? (i := 13) rfl)) 4).symm.trans hXdξ.2.2.2.2.2.1
                      have hk0686ξ : Gd b0 (2000 + c9ξ) = K.1 := hXcdξ.2.1.1
                      have hk3686ξ : Gd b3 (2000 + c9ξ) = K.2.2.2.1 := hXcdξ.2.2.2.2.1
                      have hs1686ξ : (K.2.1 = none ∧ Gd b1 (2000 + c9ξ) = -1) ∨ ∃ x, K.2.1 = some x ∧ zXp (fun j => Gd cd (2000 + j)) sz true (Gd b1 (2000 + c9ξ)) x := hXcdξ.2.2.1
                      have hs2686ξ : (K.2.2.1 = none ∧ Gd b2 (2000 + c9ξ) = -1) ∨ ∃ x, K.2.2.1 = some x ∧ zXp (fun j => Gd cd (2000 + j)) sz true (Gd b2 (2000 + c9ξ)) x := hXcdξ.2.2.2.1
                      have hs4686ξ : (K.2.2.2.2 = none ∧ Gd b4 (2000 + c9ξ) = -1) ∨ ∃ x, K.2.2.2.2 = some x ∧ zXp (fun j => Gd cd (2000 + j)) sz true (Gd b4 (2000 + c9ξ)) x := hXcdξ.2.2.2.2.2.imp id (fun ⟨x, h1ξ, h2ξ, _⟩ => ⟨x, h1ξ, h2ξ⟩)
                      have h13bξ : X 0 13 ≤ 200000 := by omega
                      refine zp_store (L' := [(9, 0, rnd), (7, 1, rn2ξ), (5, 1, rn1ξ), (4, 0, (kk : Int)), (3, 0, K.1), (0, 2, (A 0 : Int)), (1, 2, (A 13 : Int)), (2, 0, (c9ξ : Int))]) (pc := 187) hx hb hnLξ (zd_X11_isClauseRun (187, .istore 9, 2, 0, []) (List.mem_of_getElem? (i := 87) rfl)) rfl rfl rfl ?_
                      refine zp_goto (tgt := 192) (pc := 189) hx hb (zd_X11_isClauseRun (189, .goto 3, 3, 0, []) (List.mem_of_getElem? (i := 88) rfl)) rfl ?_
                      refine zp_load (pc := 192) hx hb (zd_X11_isClauseRun (192, .iload 9, 2, 0, []) (List.mem_of_getElem? (i := 89) rfl)) rfl (j := 0) rfl ?_
                      refine zp_if (pc := 194) (tgt := 199) hx hb (zd_X11_isClauseRun (194, .ifCond .ge 5, 3, 0, []) (List.mem_of_getElem? (i := 90) rfl)) rfl (fun (hc687ξ : 0 ≤ rnd) => ?_) (fun (hc687ξ : ¬ (0 ≤ rnd)) => ?_)
                      · refine zp_load (pc := 199) hx hb (zd_X11_isClauseRun (199, .aload_n 0, 1, 0, []) (List.mem_of_getElem? (i := 93) rfl)) rfl (j := 5) rfl ?_
                        refine zp_dup (pc := 200) hx hb (zd_X11_isClauseRun (200, .dup, 1, 0, []) (List.mem_of_getElem? (i := 94) rfl)) (show (2 : Nat) ≠ 1 by decide) ?_
                        refine zp_getf (n := (X 0 13)) (pc := 201) hx hb hEξ hwξ (zd_X11_isClauseRun (201, .getfield 233, 3, 0, []) (List.mem_of_getElem? (i := 95) rfl)) (j := 63) rfl rfl rfl (zM_P hMdξ (hYbξ _ (List.mem_of_getElem? (i := 0) rfl))) (((zM_G hMdξ (hYbξ _ (List.mem_of_getElem? (i := 0) rfl)) 13).trans (hVMdξ 0 13 (by decide))).trans h13dξ) ?_
                        refine zp_kn (k := 13) (a := (A 0)) hwξ (show zp_fd 12 13 = some (11, 0, 0, (-2147483648), 2147483647) from rfl) rfl (zM_P hMdξ (hYbξ _ (List.mem_of_getElem? (i := 0) rfl))) (fun hf688ξ => ?_)
                        have hf688bξ := zp_int hf688ξ
                        rw [(((zM_G hMdξ (hYbξ _ (List.mem_of_getElem? (i := 0) rfl)) 13).trans (hVMdξ 0 13 (by decide))).trans h13dξ)] at hf688bξ
                        clear hf688ξ
                        refine zp_const (pc := 204) hx hb (zd_X11_isClauseRun (204, .iconst 1, 1, 0, []) (List.mem_of_getElem? (i := 96) rfl)) rfl rfl ?_
                        refine zp_add (n := ((X 0 13) + 1)) (pc := 205) hx hb (zd_X11_isClauseRun (205, .iadd, 1, 0, []) (List.mem_of_getElem? (i := 97) rfl)) (by omega) (zp_r0 (by omega) (by omega)) ?_
                        refine zp_putf (pc := 206) hx hb hEξ hwξ heffξ (zd_X11_isClauseRun (206, .putfield 233, 3, 0, []) (List.mem_of_getElem? (i := 98) rfl)) (j := 63) rfl rfl rfl (zM_P hMdξ (hYbξ _ (List.mem_of_getElem? (i := 0) rfl))) (zp_o0 (by omega) (by omega) (by omega) (by omega)) ?_
                        refine zp_load (pc := 209) hx hb (zd_X11_isClauseRun (209, .iload_n 3, 1, 0, []) (List.mem_of_getElem? (i := 99) rfl)) rfl (j := 4) rfl ?_
                        refine zp_const (pc := 210) hx hb (zd_X11_isClauseRun (210, .iconst 2, 1, 0, []) (List.mem_of_getElem? (i := 100) rfl)) rfl rfl ?_
                        refine zp_icmp (pc := 211) (tgt := 220) hx hb (zd_X11_isClauseRun (211, .if_icmp .ne 9, 3, 0, []) (List.mem_of_getElem? (i := 101) rfl)) rfl (fun (hc689ξ : ¬ K.1 = 2) => ?_) (fun (hc689ξ : ¬ (¬ K.1 = 2)) => ?_)
                        · refine zp_iinc (L' := [(4, 0, ((kk : Int) + 1)), (9, 0, rnd), (7, 1, rn2ξ), (5, 1, rn1ξ), (3, 0, K.1), (0, 2, (A 0 : Int)), (1, 2, (A 13 : Int)), (2, 0, (c9ξ : Int))]) (n := ((kk : Int) + 1)) (pc := 220) hx hb hnLξ (zd_X11_isClauseRun (220, .iinc 4 1, 3, 0, []) (List.mem_of_getElem? (i := 105) rfl)) (j := 3) rfl (by omega) (zp_r0 (by omega) (by omega)) rfl rfl ?_
                          refine zp_goto (tgt := 10) (pc := 223) hx hb (zd_X11_isClauseRun (223, .goto (-213), 3, 0, []) (List.mem_of_getElem? (i := 106) rfl)) rfl ?_
                          have hrunξ : zo_runC X n1ξ npξ Lwξ K = (1, (zp_set (zf_mbyc X rn1ξ).2 0 13 ((X 0 13) + 1))) := by
                            rw [hrun9ξ, if_neg (by omega)]
                            rw [if_neg (by omega)]
                          rw [hrunξ] at hfinξ
                          have hfinξ : zo_tmC n1ξ npξ Lwξ K K.2.2.2.1.toNat V = zo_tmC n1ξ npξ Lwξ K t (zp_set (zf_mbyc X rn1ξ).2 0 13 ((X 0 13) + 1)) := hfinξ
                          refine zp_drop (L' := [(4, 0, ((kk : Int) + 1)), (3, 0, K.1), (0, 2, (A 0 : Int)), (1, 2, (A 13 : Int)), (2, 0, (c9ξ : Int))]) (by simp) ?_
                          exact iht (kk + 1) (zp_set (zf_mbyc X rn1ξ).2 0 13 ((X 0 13) + 1)) _ (by omega) (zCI_0 hCIdξ) (zo_13b (by omega) (Or.inl rfl)) ⟨(zp_set Md 0 13 ((X 0 13) + 1)), (zM_set hMdξ (hYbξ _ (List.mem_of_getElem? (i := 0) rfl)) (zFx hFxξ (o := 0) (k := 13) (by decide) (by decide))), (zV_set hVMdξ), trivial⟩ (zo_X_s hXdξ (zM_P hMdξ (hYbξ _ (List.mem_of_getElem? (i := 0) rfl))) (by decide)) (zo_Xc_s hXdξ hXcdξ (zM_P hMdξ (hYbξ _ (List.mem_of_getElem? (i := 0) rfl))) (by decide)) hfinξ
                        · exfalso
                          omega
                      · refine zp_const (pc := 197) hx hb (zd_X11_isClauseRun (197, .iconst 0, 1, 0, []) (List.mem_of_getElem? (i := 91) rfl)) rfl rfl ?_
                        refine zp_zret (pc := 198) (n := 0) hx hb hEξ hQξ hU5ξ rfl (by decide) (zd_X11_isClauseRun (198, .ireturn, 1, 0, []) (List.mem_of_getElem? (i := 92) rfl)) (j := 0) rfl (zp_o0 (by omega) (by omega) (by omega) (by omega)) ?_
                        rw [hpsξ]
                        refine ⟨rfl, ?_⟩
                        have hrunξ : zo_runC X n1ξ npξ Lwξ K = (0, (zf_mbyc X rn1ξ).2) := by
                          rw [hrun9ξ]
                          exact if_pos (by omega)
                        rw [hrunξ] at hfinξ
                        have hfinξ : zo_tmC n1ξ npξ Lwξ K K.2.2.2.1.toNat V = (false, (zf_mbyc X rn1ξ).2) := hfinξ
                        show zMVc A Y F (zo_tmC n1ξ npξ Lwξ K K.2.2.2.1.toNat V).2 u.1 _ ∧ ((0 : Int) = 1 ↔ (zo_tmC n1ξ npξ Lwξ K K.2.2.2.1.toNat V).1 = true)
                        rw [hfinξ]
                        exact ⟨⟨Md, hMdξ, hVMdξ, trivial⟩, fun h => absurd h (by decide), fun h => absurd (show (false : Bool) = true from h) (by decide)⟩
                    exfalso
                    omega
                  · exfalso
                    omega
          · refine zp_goto (tgt := 220) (pc := 48) hx hb (zd_X11_isClauseRun (48, .goto 172, 3, 0, []) (List.mem_of_getElem? (i := 28) rfl)) rfl ?_
            refine zp_iinc (L' := [(4, 0, ((kk : Int) + 1)), (3, 0, K.1), (0, 2, (A 0 : Int)), (1, 2, (A 13 : Int)), (2, 0, (c9ξ : Int))]) (n := ((kk : Int) + 1)) (pc := 220) hx hb hnLξ (zd_X11_isClauseRun (220, .iinc 4 1, 3, 0, []) (List.mem_of_getElem? (i := 105) rfl)) (j := 0) rfl (by omega) (zp_r0 (by omega) (by omega)) rfl rfl ?_
            refine zp_goto (tgt := 10) (pc := 223) hx hb (zd_X11_isClauseRun (223, .goto (-213), 3, 0, []) (List.mem_of_getElem? (i := 106) rfl)) rfl ?_
            have hrunξ : zo_runC X n1ξ npξ Lwξ K = (1, X) := by
              unfold zo_runC
              rw [if_neg]
              unfold zo_tbC
              rw [hq0ξ]
              intro z9ξ
              exact absurd (of_decide_eq_true z9ξ) (by omega)
            rw [hrunξ] at hfinξ
            have hfinξ : zo_tmC n1ξ npξ Lwξ K K.2.2.2.1.toNat V = zo_tmC n1ξ npξ Lwξ K t X := hfinξ
            refine zp_drop (L' := [(4, 0, ((kk : Int) + 1)), (3, 0, K.1), (0, 2, (A 0 : Int)), (1, 2, (A 13 : Int)), (2, 0, (c9ξ : Int))]) (by simp) ?_
            exact iht (kk + 1) X _ (by omega) hCIξ (by omega) ⟨M0ξ, hM0ξ, hVM0ξ, trivial⟩ hX0ξ hXc0ξ hfinξ
  have hXp690ξ := hX0ξ.1
  have hx0690ξ : M 13 0 = (b0 : Int) := (zM_G hMξ (hYbξ _ (List.mem_of_getElem? (i := 13) rfl)) 0).symm.trans hX0ξ.2.1
  have hx1690ξ : M 13 1 = (b1 : Int) := (zM_G hMξ (hYbξ _ (List.mem_of_getElem? (i := 13) rfl)) 1).symm.trans hX0ξ.2.2.1
  have hx2690ξ : M 13 2 = (b2 : Int) := (zM_G hMξ (hYbξ _ (List.mem_of_getElem? (i := 13) rfl)) 2).symm.trans hX0ξ.2.2.2.1
  have hx3690ξ : M 13 3 = (b3 : Int) := (zM_G hMξ (hYbξ _ (List.mem_of_getElem? (i := 13) rfl)) 3).symm.trans hX0ξ.2.2.2.2.1
  have hx4690ξ : M 13 4 = (b4 : Int) := (zM_G hMξ (hYbξ _ (List.mem_of_getElem? (i := 13) rfl)) 4).symm.trans hX0ξ.2.2.2.2.2.1
  have hk0690ξ : (zp_n u.2.1) b0 (2000 + c9ξ) = K.1 := hXc0ξ.2.1.1
  have hk3690ξ : (zp_n u.2.1) b3 (2000 + c9ξ) = K.2.2.2.1 := hXc0ξ.2.2.2.2.1
  have hs1690ξ : (K.2.1 = none ∧ (zp_n u.2.1) b1 (2000 + c9ξ) = -1) ∨ ∃ x, K.2.1 = some x ∧ zXp (fun j => (zp_n u.2.1) cd (2000 + j)) sz true ((zp_n u.2.1) b1 (2000 + c9ξ)) x := hXc0ξ.2.2.1
  have hs2690ξ : (K.2.2.1 = none ∧ (zp_n u.2.1) b2 (2000 + c9ξ) = -1) ∨ ∃ x, K.2.2.1 = some x ∧ zXp (fun j => (zp_n u.2.1) cd (2000 + j)) sz true ((zp_n u.2.1) b2 (2000 + c9ξ)) x := hXc0ξ.2.2.2.1
  have hs4690ξ : (K.2.2.2.2 = none ∧ (zp_n u.2.1) b4 (2000 + c9ξ) = -1) ∨ ∃ x, K.2.2.2.2 = some x ∧ zXp (fun j => (zp_n u.2.1) cd (2000 + j)) sz true ((zp_n u.2.1) b4 (2000 + c9ξ)) x := hXc0ξ.2.2.2.2.2.imp id (fun ⟨x, h1ξ, h2ξ, _⟩ => ⟨x, h1ξ, h2ξ⟩)
  refine zp_load (pc := 0) hx hb (zd_X11_isClauseRun (0, .aload_n 1, 1, 0, []) (List.mem_of_getElem? (i := 0) rfl)) rfl (j := 1) rfl ?_
  refine zp_getf (n := (b0 : Int)) (pc := 1) hx hb hEξ hwξ (zd_X11_isClauseRun (1, .getfield 243, 3, 0, []) (List.mem_of_getElem? (i := 1) rfl)) (j := 41) rfl rfl rfl (zM_P hMξ (hYbξ _ (List.mem_of_getElem? (i := 13) rfl))) ((zM_G hMξ (hYbξ _ (List.mem_of_getElem? (i := 13) rfl)) 0).trans hx0690ξ) ?_
  refine zp_load (pc := 4) hx hb (zd_X11_isClauseRun (4, .iload_n 2, 1, 0, []) (List.mem_of_getElem? (i := 2) rfl)) rfl (j := 2) rfl ?_
  refine zp_iald (j := c9ξ) (v := K.1) (pc := 5) hx hb hwξ (zd_X11_isClauseRun (5, .iaload, 1, 0, []) (List.mem_of_getElem? (i := 3) rfl)) (show zp_ia 1 30 = some (12, 0, 0, (-2147483648), 2147483647) from rfl) hXp690ξ.2.1 (by omega) (by omega) hk0690ξ (fun hk691ξ => ?_)
  have hk691bξ := zp_int hk691ξ
  refine zp_store (L' := [(3, 0, K.1), (0, 2, (A 0 : Int)), (1, 2, (A 13 : Int)), (2, 0, (c9ξ : Int))]) (pc := 6) hx hb hnLξ (zd_X11_isClauseRun (6, .istore_n 3, 1, 0, []) (List.mem_of_getElem? (i := 4) rfl)) rfl rfl rfl ?_
  refine zp_const (pc := 7) hx hb (zd_X11_isClauseRun (7, .iconst 0, 1, 0, []) (List.mem_of_getElem? (i := 5) rfl)) rfl rfl ?_
  refine zp_store (L' := [(4, 0, 0), (3, 0, K.1), (0, 2, (A 0 : Int)), (1, 2, (A 13 : Int)), (2, 0, (c9ξ : Int))]) (pc := 8) hx hb hnLξ (zd_X11_isClauseRun (8, .istore 4, 2, 0, []) (List.mem_of_getElem? (i := 6) rfl)) rfl rfl rfl ?_
  refine zp_drop (L' := [(4, 0, 0), (3, 0, K.1), (0, 2, (A 0 : Int)), (1, 2, (A 13 : Int)), (2, 0, (c9ξ : Int))]) (by simp) ?_
  exact h10ξ K.2.2.2.1.toNat 0 V _ (by omega) hCI0ξ (by omega) ⟨M, hMξ, hVξ, trivial⟩ hX0ξ hXc0ξ rfl
