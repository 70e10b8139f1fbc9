/-! part lo: calls that ask alone, known by their effects: what stands -/
/-- the class's scratch -/
noncomputable def zScr : List Nat := [4, 5, 13, 21, 66, 67, 68, 69, 70]
noncomputable def zEc (eff : List (Nat × Nat × Nat)) : Bool := zFc.all (fun r => zYc.any (fun q => q.1 == r.1 && zp_nfb eff q.2 r.2.1)) && (zTF.all (fun q => zp_nfb eff q.1 q.2) && (zYc.all (fun q => decide (q.1 ∈ zScr) || zp_ncb eff q.2) && zTY.all (fun t => zp_ncb eff t)))
theorem zMVc_fr {A : Nat → Nat} {Y : List (Nat × Nat)} {F : List (Nat × Nat × Nat)} {V : Nat → Nat → Int} {P P' : Nat → Option Nat} {G G' : Nat → Nat → Int} {eff : List (Nat × Nat × Nat)} {ps : List Int} (h : zMVc A Y F V P G) (hYcξ : zMc Y F) (hfrξ : zp_fr eff ps P G G') (hextξ : ∀ a t, P a = some t → P' a = some t) (hecξ : zEc eff = true) : zMVc A Y F V P' G' := by
  unfold zEc at hecξ
  simp only [Bool.and_eq_true] at hecξ
  obtain ⟨h1ξ, h2ξ, h3ξ, h4ξ⟩ := hecξ
  obtain ⟨M, hMξ, hVξ, -⟩ := h
  have hFxξ := zMc_fx hYcξ h1ξ h2ξ
  obtain ⟨m1ξ, m2ξ, m3ξ, m4ξ⟩ := hMξ
  refine ⟨fun o k => if o ∈ zScr then G' (A o) k else M o k, ⟨fun q hq9ξ => ⟨hextξ _ _ (m1ξ q hq9ξ).1, fun k => ?_⟩, fun r hr9ξ => ?_, m3ξ, m4ξ⟩, fun o k ho9ξ => ?_, trivial⟩
  · show G' (A q.1) k = if q.1 ∈ zScr then G' (A q.1) k else M q.1 k
    by_cases eξ : q.1 ∈ zScr
    · rw [if_pos eξ]
    · rw [if_neg eξ]
      have h5ξ : zp_ncb eff q.2 = true := by
        rcases hYcξ.2.2.2 q hq9ξ with h6ξ | ⟨-, h6ξ⟩
        · have h7ξ := List.all_eq_true.mp h3ξ q h6ξ
          rw [Bool.or_eq_true, decide_eq_true_eq] at h7ξ
          exact h7ξ.resolve_left eξ
        · exact List.all_eq_true.mp h4ξ _ h6ξ
      rw [zp_nc hfrξ (m1ξ q hq9ξ).1 h5ξ k]
      exact (m1ξ q hq9ξ).2 k
  · show (if r.1 ∈ zScr then G' (A r.1) r.2.1 else M r.1 r.2.1) = _
    by_cases eξ : r.1 ∈ zScr
    · rw [if_pos eξ]
      obtain ⟨t, t1ξ, t2ξ⟩ := hFxξ r hr9ξ
      rw [zp_nf hfrξ (m1ξ _ t1ξ).1 t2ξ]
      exact ((m1ξ _ t1ξ).2 _).trans (m2ξ r hr9ξ)
    · rw [if_neg eξ]
      exact m2ξ r hr9ξ
  · show (if o ∈ zScr then G' (A o) k else M o k) = V o k
    rw [if_neg (show ¬ o ∈ zScr from ho9ξ)]
    exact hVξ o k ho9ξ
/-- least, orderly, fits, guards, round, game of the class -/
theorem zEc_249 : zEc (zk_Ke zK_249) = true := by decide +kernel
theorem zEc_258 : zEc (zk_Ke zK_258) = true := by decide +kernel
theorem zEc_270 : zEc (zk_Ke zK_270) = true := by decide +kernel
theorem zEc_279 : zEc (zk_Ke zK_279) = true := by decide +kernel
theorem zEc_280 : zEc (zk_Ke zK_280) = true := by decide +kernel
/-- the reference -/
noncomputable def zEr (eff : List (Nat × Nat × Nat)) : Bool := zFr.all (fun r => zYr.any (fun q => q.1 == r.1 && zp_nfb eff q.2 r.2.1)) && zp_ncb eff 75
theorem zMVr_fr {A : Nat → Nat} {V : Nat → Nat → Int} {P P' : Nat → Option Nat} {G G' : Nat → Nat → Int} {eff : List (Nat × Nat × Nat)} {ps : List Int} (h : zMVr A V P G) (hfrξ : zp_fr eff ps P G G') (hextξ : ∀ a t, P a = some t → P' a = some t) (hecξ : zEr eff = true) : ∃ V', zMVr A V' P' G' ∧ ∀ o t k, (o, t) ∈ zYr → (zp_nfb eff t k = true ∨ zp_ncb eff t = true) → zNs o k → V' o k = V o k := by
  unfold zEr at hecξ
  rw [Bool.and_eq_true] at hecξ
  obtain ⟨M, hMξ, hVξ, hSξ⟩ := h
  obtain ⟨M', hM9ξ, hk9ξ⟩ := zM_eff hMξ hfrξ hextξ (zM_fb hecξ.1)
  exact ⟨M', ⟨M', hM9ξ, fun _ _ _ => rfl, fun j hjξ => by rw [hk9ξ 35 75 _ (List.mem_of_getElem? (i := 18) rfl) (Or.inr hecξ.2)]; exact hSξ j hjξ⟩, fun o t k ho9ξ he hn9ξ => (hk9ξ o t k ho9ξ he).trans (hVξ o k hn9ξ)⟩
/-- what the relation of both sides rests on in the reference -/
noncomputable def zCl : List Nat := [2, 3, 4, 5, 6, 7, 12, 31, 32, 33, 62]
noncomputable def zCk : List Nat := [1, 8, 11, 13, 18, 20, 30, 47, 59, 63]
noncomputable def zCa (o k : Nat) : Prop := o ∈ zCl ∨ (o = 0 ∧ k ∈ zCk)
noncomputable def zCt : List Nat := [58, 59, 60, 61, 62, 63, 66, 72, 73, 74, 91]
noncomputable def zEa (eff : List (Nat × Nat × Nat)) : Bool := zEr eff && (zCt.all (fun t => zp_ncb eff t) && zCk.all (fun k => zp_nfb eff 13 k))
theorem zCl_s : ∀ o ∈ zCl, o ∈ zNl ∧ ∃ t ∈ zCt, (o, t) ∈ zYr := by decide
theorem zCk_s : ∀ k ∈ zCk, k < 64 ∧ k ≠ 34 ∧ k ≠ 38 ∧ k ≠ 39 ∧ k ≠ 40 := by decide
theorem zCa_s {o k : Nat} (h : zCa o k) : zNs o k := by
  rcases h with h | ⟨h, h2ξ⟩
  · exact Or.inl (zCl_s o h).1
  · exact Or.inr ⟨h, zCk_s k h2ξ⟩
theorem zMVr_ask {A : Nat → Nat} {V : Nat → Nat → Int} {P P' : Nat → Option Nat} {G G' : Nat → Nat → Int} {eff : List (Nat × Nat × Nat)} {ps : List Int} (h : zMVr A V P G) (hfrξ : zp_fr eff ps P G G') (hextξ : ∀ a t, P a = some t → P' a = some t) (hecξ : zEa eff = true) : ∃ V', zMVr A V' P' G' ∧ ∀ o k, zCa o k → V' o k = V o k := by
  unfold zEa at hecξ
  rw [Bool.and_eq_true, Bool.and_eq_true] at hecξ
  obtain ⟨V', h1ξ, h2ξ⟩ := zMVr_fr h hfrξ hextξ hecξ.1
  refine ⟨V', h1ξ, fun o k hc9ξ => ?_⟩
  have hn9ξ := zCa_s hc9ξ
  rcases hc9ξ with hc9ξ | ⟨rfl, hc9ξ⟩
  · obtain ⟨-, t, htξ, hy9ξ⟩ := zCl_s o hc9ξ
    exact h2ξ o t k hy9ξ (Or.inr (List.all_eq_true.mp hecξ.2.1 t htξ)) hn9ξ
  · exact h2ξ 0 13 k (List.mem_of_getElem? (i := 0) rfl) (Or.inl (List.all_eq_true.mp hecξ.2.2 k hc9ξ)) hn9ξ
/-- guards, round, game of the reference -/
theorem zEa_gu : zEa (zk_Ke zK_1111) = true := by decide +kernel
theorem zEa_rd : zEa (zk_Ke zK_rd) = true := by decide +kernel
theorem zEa_gm : zEa (zk_Ke zK_gm) = true := by decide +kernel
/-- cells of the core are among them -/
theorem zCr_a {V V' : Nat → Nat → Int} (h : ∀ o k, zCa o k → V' o k = V o k) : ∀ o k, zCr o k → V' o k = V o k := fun o k hc9ξ => h o k (by
  unfold zCr at hc9ξ
  have e2ξ : (2 : Nat) ∈ zCl := by decide
  have e3ξ : (3 : Nat) ∈ zCl := by decide
  have e6ξ : (6 : Nat) ∈ zCl := by decide
  have e7ξ : (7 : Nat) ∈ zCl := by decide
  rcases hc9ξ with rfl | rfl | ⟨rfl, -⟩ | rfl | ⟨rfl, hk9ξ⟩
  · exact Or.inl e2ξ
  · exact Or.inl e3ξ
  · exact Or.inl e6ξ
  · exact Or.inl e7ξ
  · refine Or.inr ⟨rfl, ?_⟩
    rcases hk9ξ with rfl | rfl | rfl | rfl <;> decide)
