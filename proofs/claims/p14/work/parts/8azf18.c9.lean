/-! part c9: the reference: law, exactly -/
/-- a law's text in the row of a reference, behind b -/
noncomputable def zRl (R : Nat → Int) (b : Nat) (L : List yK) : Prop := L.length ≤ 12 ∧ R (b + 1) = (L.length : Int) ∧ zLs (fun j => R (b + 2 + j)) (fun q => R (b + 98 + 2 * q)) (fun q => R (b + 98 + 2 * q + 1)) 400 0 L
/-- what comes of law -/
noncomputable def zDl (a : Nat) (G G' : Nat → Nat → Int) (B : Nat → Int) (ln : Nat) (rn : Int) : Prop := G' a 13 = 0 ∧ 0 ≤ G' a 30 ∧ G' a 20 = 0 ∧
  (zv G a 3 3 = 6 → rn = -5 ∧ (∀ j, j < 5580 → zv G' a 3 j = zv G a 3 j) ∧ G' a 18 = G a 18) ∧
  (¬ zv G a 3 3 = 6 → ∃ s, yT (zy_so B ln) (zy_wo B ln) (zy_to B ln) (yt_cl (zy_so B ln) (zy_wo B ln) (zy_to B ln) (ylf false B ln)) 12 0 0 s ∧ ((∃ q, s = Sum.inl q ∧ rn = -6 ∧ (∀ j, j < 5580 → zv G' a 3 j = zv G a 3 j) ∧ G' a 18 = (zy_fr B ln q : Int)) ∨ ∃ (L : List yK) (n : Nat), s = Sum.inr L ∧ n < 6 ∧ zv G a 3 3 = (n : Int) ∧ rn = (n : Int) ∧ G' a 18 = -1 ∧ zv G' a 3 3 = (n : Int) + 1 ∧ (∀ j, j < 5580 → j ≠ 3 → (j < 180 + 900 * n ∨ 1080 + 900 * n ≤ j) → zv G' a 3 j = zv G a 3 j) ∧ zRl (zv G' a 3) (180 + 900 * n) L))
theorem zLs_len {C op ar : Nat → Int} {N : Nat} {L : List yK} (h : zLs C op ar N 0 L) {c : Nat} (hc : c < L.length) : ∃ K, zLc C op ar N c K := by
  obtain ⟨K, h1, h2⟩ := zLs_at h hc
  rw [Nat.zero_add] at h2
  exact ⟨K, h2⟩
/-- what the world asks of a clause -/
theorem zLc_ok {a c N : Nat} {G : Nat → Nat → Int} {K : yK} (h : zLc (zv G a 22) (zv G a 24) (zv G a 25) N c K) (hN : G a 23 = (N : Int)) : zl_ok a G c := by
  obtain ⟨h1, h2, h3, h4, h5, h6⟩ := h
  have h56 : 0 ≤ zv G a 22 (8 * c + 5) ∧ zv G a 22 (8 * c + 5) ≤ (N : Int) ∧ 0 ≤ zv G a 22 (8 * c + 6) ∧ zv G a 22 (8 * c + 6) ≤ (N : Int) := by
    rcases h6 with ⟨g1, g2, g3, g4⟩ | ⟨y, g1, g2, g3⟩
    · omega
    · have := zLp_r g2
      omega
  refine ⟨fun j j1 j2 => ?_, fun z => ?_, fun z => ?_⟩
  · rw [hN]
    have hj : j = 3 ∨ j = 4 ∨ j = 5 ∨ j = 6 := by omega
    rcases hj with rfl | rfl | rfl | rfl <;> omega
  · rcases h6 with ⟨g1, g2, g3, g4⟩ | ⟨y, g1, g2, g3⟩
    · omega
    · exact (zLp_r g2).2.2.2
  · rcases h4 with ⟨g1, g2⟩ | ⟨x, g1, g2, g3⟩
    · exact absurd (h1.trans g2) z
    · exact (zLp_r g3).2.2.2