/-! part mp: all of the relation holds at first -/
/-- the row at first -/
noncomputable def zR0 (j : Nat) : Int := if j = 4 then -1 else if j = 6 then 7 else if j = 8 then 1000 else if j = 10 then -1 else 0
theorem zR0_0 {j : Nat} (h : j ≠ 4 ∧ j ≠ 6 ∧ j ≠ 8 ∧ j ≠ 10) : zR0 j = 0 := by
  unfold zR0
  rw [if_neg h.1, if_neg h.2.1, if_neg h.2.2.1, if_neg h.2.2.2]
theorem zR0_b {j : Nat} : -1 ≤ zR0 j ∧ zR0 j ≤ 1000 := by
  unfold zR0
  repeat' split
  all_goals omega
theorem zPl_ge : ∀ j, j < 180 → 11 ≤ j → 2000 ≤ (zPl j).2 ∧ ((30 ≤ (zPl j).1 ∧ (zPl j).1 < 40) ∨ (50 ≤ (zPl j).1 ∧ (zPl j).1 < 53)) := by decide +kernel
theorem zFull_1 {A : Nat → Nat} {Y : List (Nat × Nat)} {F : List (Nat × Nat × Nat)} {V W : Nat → Nat → Int} (hV3 : ∀ j, j < 5580 → V 3 (2000 + j) = zR0 j) (v0 : V 0 1 = 0 ∧ V 0 8 = 0 ∧ V 0 11 = 0 ∧ V 0 13 = 0 ∧ V 0 18 = -1 ∧ V 0 20 = 0 ∧ V 0 30 = 0 ∧ V 0 47 = -1 ∧ V 0 59 = -1 ∧ V 0 63 = -1) (v2 : ∀ j, V 2 (2000 + j) = 0) (v12 : ∀ j, V 12 (2000 + j) = 0) (v5 : ∀ k, k < 2 → V 5 (2000 + k) = 0) (vw : (∀ k : Nat, k < 9 → V 31 (2000 + k) = ywd.getD k 0) ∧ (∀ k : Nat, k < 7 → V 32 (2000 + k) = ywo.getD k 0) ∧ ∀ k : Nat, k < 5 → V 33 (2000 + k) = ywh.getD k 0) (w1 : W 1 1 = 0 ∧ W 1 3 = 0 ∧ W 1 9 = 0 ∧ W 1 14 = 0 ∧ W 1 15 = -1 ∧ W 1 16 = 7 ∧ W 1 17 = 0) (w2 : W 2 3 = 1000 ∧ W 2 4 = 0 ∧ W 2 5 = -1 ∧ W 2 6 = 0) (wz : ∀ o j, ((30 ≤ o ∧ o < 40) ∨ (50 ≤ o ∧ o < 53)) → W o (2000 + j) = 0) (w3 : W 3 3 = 0 ∧ 0 ≤ W 3 2 ∧ W 3 2 ≤ 15) (w0 : W 0 15 = -1 ∧ W 0 17 = 0 ∧ W 0 18 = 0) (w20 : ∀ j, W 20 (2000 + j) = 0) (w12 : W 12 2 = -1) (w6 : W 6 3 = -1) (w22 : ∀ k, k < 2 → W 22 (2000 + k) = -1) (w11 : W 11 1 = 0) (w71 : ∀ j, W 71 (2000 + j) = 0) : zFull A Y F V W := by
  obtain ⟨a1, a8, a11, a13, a18, a20, a30, a47, a59, a63⟩ := v0
  obtain ⟨b1, b3, b9, b14, b15, b16, b17⟩ := w1
  obtain ⟨c3, c4, c5, c6⟩ := w2
  have rz : ∀ j, j < 5580 → (j ≠ 4 ∧ j ≠ 6 ∧ j ≠ 8 ∧ j ≠ 10) → V 3 (2000 + j) = 0 := fun j hj h => (hV3 j hj).trans (zR0_0 h)
  have r4 : V 3 (2000 + 4) = -1 := hV3 4 (by decide)
  have r6 : V 3 (2000 + 6) = 7 := hV3 6 (by decide)
  have r8 : V 3 (2000 + 8) = 1000 := hV3 8 (by decide)
  have r10 : V 3 (2000 + 10) = -1 := hV3 10 (by decide)
  have rb : ∀ j, j < 5580 → -2147483648 ≤ V 3 (2000 + j) ∧ V 3 (2000 + j) ≤ 2147483647 := fun j hj => by
    rw [hV3 j hj]
    have h9 := zR0_b (j := j)
    omega
  have hr : zRr V W := fun j hj => by
    rw [zRc_pl]
    by_cases h11 : j < 11
    · have h9 : j = 0 ∨ j = 1 ∨ j = 2 ∨ j = 3 ∨ j = 4 ∨ j = 5 ∨ j = 6 ∨ j = 7 ∨ j = 8 ∨ j = 9 ∨ j = 10 := by omega
      rcases h9 with rfl | rfl | rfl | rfl | rfl | rfl | rfl | rfl | rfl | rfl | rfl
      · exact b1.trans (rz 0 (by decide) (by decide)).symm
      · exact b3.trans (rz 1 (by decide) (by decide)).symm
      · exact b9.trans (rz 2 (by decide) (by decide)).symm
      · exact b14.trans (rz 3 (by decide) (by decide)).symm
      · exact b15.trans r4.symm
      · exact c6.trans (rz 5 (by decide) (by decide)).symm
      · exact b16.trans r6.symm
      · exact b17.trans (rz 7 (by decide) (by decide)).symm
      · exact c3.trans r8.symm
      · exact c4.trans (rz 9 (by decide) (by decide)).symm
      · exact c5.trans r10.symm
    · obtain ⟨h1, h2⟩ := zPl_ge j hj (by omega)
      obtain ⟨i, hi⟩ : ∃ i, (zPl j).2 = 2000 + i := ⟨(zPl j).2 - 2000, by omega⟩
      rw [hi, wz _ i h2]
      exact (rz j (by omega) (by omega)).symm
  have hok : zRok (zRw V) 0 0 := by
    refine ⟨⟨by decide, by decide, rz 1 (by decide) (by decide), rz 0 (by decide) (by decide), fun w hw => absurd hw (Nat.not_lt_zero w), fun p hp => absurd hp (Nat.not_lt_zero p)⟩, ?_, ?_, ?_, fun p hp => absurd hp (Nat.not_lt_zero p), ?_, fun p _ h2 => ⟨rz _ (by omega) (by omega), rz _ (by omega) (by omega)⟩, fun j hj => rb j (by omega), fun w hw => absurd hw (Nat.not_lt_zero w)⟩
    · show -1 ≤ V 3 (2000 + 10) ∧ V 3 (2000 + 10) ≤ 12
      omega
    · show 0 ≤ V 3 (2000 + 5) ∧ V 3 (2000 + 5) ≤ 999
      rw [rz 5 (by decide) (by decide)]
      decide
    · show 0 ≤ V 3 (2000 + 8) ∧ V 3 (2000 + 8) ≤ 9999
      omega
    · show 0 ≤ V 3 (2000 + 9) ∧ V 3 (2000 + 9) ≤ 1
      rw [rz 9 (by decide) (by decide)]
      decide
  have hst : zSt V W := ⟨w0.2.2.trans a1.symm, (w20 _).trans (v2 _).symm, (w20 _).trans (v2 _).symm, (w20 _).trans (v2 _).symm, (w20 _).trans (v2 _).symm, (w20 _).trans (v2 _).symm⟩
  obtain ⟨f, hf⟩ : ∃ f : Nat, W 3 2 = (f : Int) := zp_nat w3.2.1
  refine ⟨0, 0, [], ⟨hr, hok, ⟨rb, Or.inl ⟨r4, rfl⟩, fun _ _ _ _ => rfl, fun K hK => absurd hK List.not_mem_nil, a20⟩, a47, hst, zUU_0 (f := f) a8 w3.1 hf (by omega)⟩, Or.inl ⟨Or.inl (by omega), rfl⟩, ⟨0, rz 3 (by decide) (by decide), by decide, ?_, fun i hi => absurd hi (Nat.not_lt_zero i)⟩, ⟨⟨0, by decide, rz 2 (by decide) (by decide), fun s hs => absurd hs (Nat.not_lt_zero s)⟩, fun w hw => absurd hw (Nat.not_lt_zero w), fun w hw => absurd hw (Nat.not_lt_zero w), ?_, rz 177 (by decide) (by decide), rz 178 (by decide) (by decide), rz 179 (by decide) (by decide)⟩, ⟨w11.trans a13.symm, by omega, fun j _ => (w71 j).trans (v12 j).symm, fun j => ?_⟩, ⟨w0.2.1.trans a11.symm, w12.trans a18.symm, w0.1.trans a59.symm⟩, ⟨a63.trans w6.symm, by omega, fun h => absurd a63 h⟩, ⟨Or.inl ⟨v5 0 (by decide), w22 0 (by decide)⟩, Or.inl ⟨v5 1 (by decide), w22 1 (by decide)⟩, fun _ => w22 0 (by decide)⟩, by omega, vw⟩
  · show -1 ≤ V 3 (2000 + 4) ∧ V 3 (2000 + 4) < ((0 : Nat) : Int)
    omega
  · show 0 ≤ V 3 (2000 + 6) ∧ V 3 (2000 + 6) ≤ 12
    omega
  · rw [v12]
    decide
