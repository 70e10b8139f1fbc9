/-! part k4: the class over logical cells: image, back -/
noncomputable def zIMy : List (Nat × Nat) := [(0, 93), (12, 2), (1, 42), (2, 43), (3, 44), (4, 45), (5, 46), (6, 47), (7, 48), (8, 49), (9, 50), (10, 51), (11, 52), (13, 17), (14, 18), (15, 19)]
noncomputable def zIMf : List (Nat × Nat × Nat) := [(0, 0, 1), (0, 2, 2), (0, 4, 3), (0, 5, 4), (0, 6, 5), (0, 7, 6), (0, 8, 7), (0, 10, 8), (0, 11, 9), (0, 12, 10), (0, 13, 11), (0, 18, 12), (12, 0, 13), (12, 1, 14), (12, 2, 15)]
/-- an image: its cells from c on -/
noncomputable def zIM (Y : List (Nat × Nat)) (F : List (Nat × Nat × Nat)) (c : Nat) : Prop := 100 ≤ c ∧ (∀ q ∈ zIMy, (c + q.1, q.2) ∈ Y) ∧ ∀ r ∈ zIMf, (c + r.1, r.2.1, c + r.2.2) ∈ F
/-- names: the town's cells below 100, an image's from 101 on; and the other way round -/
noncomputable def zτb (c o : Nat) : Nat := if o < 100 then o else if o = 101 then c else if o = 102 then c + 12 else if o < 145 then c + (o - 129) else c + (o - 137)
noncomputable def zτi (c o : Nat) : Nat := if 100 ≤ o then o - 100 else if o = 1 then c else if o = 2 then c + 12 else if o < 45 then c + (o - 29) else c + (o - 37)
noncomputable def zρb (o : Nat) : Option Nat := if o = 1 ∨ o = 2 ∨ (30 ≤ o ∧ o ≤ 40) ∨ (50 ≤ o ∧ o ≤ 52) then some o else none
noncomputable def zρi (c o : Nat) : Option Nat := if c ≤ o ∧ o < c + 16 then some (if o = c then 1 else if o = c + 12 then 2 else if o < c + 12 then o - c + 29 else o - c + 37) else none
theorem zM_map {A : Nat → Nat} {Y : List (Nat × Nat)} {F : List (Nat × Nat × Nat)} {M : Nat → Nat → Int} {P : Nat → Option Nat} {G : Nat → Nat → Int} (h : zM A Y F M P G) {τ : Nat → Nat} {Y2 : List (Nat × Nat)} {F2 : List (Nat × Nat × Nat)} (hYξ : ∀ q ∈ Y2, (τ q.1, q.2) ∈ Y) (hFξ : ∀ r ∈ F2, (τ r.1, r.2.1, τ r.2.2) ∈ F) (hi : ∀ q ∈ Y2, ∀ r ∈ Y2, τ q.1 = τ r.1 → q.1 = r.1) : zM (fun o => A (τ o)) Y2 F2 (fun o k => M (τ o) k) P G := ⟨fun q hqξ => h.1 _ (hYξ q hqξ), fun r hrξ => h.2.1 _ (hFξ r hrξ), fun q hqξ r hrξ e => hi q hqξ r hrξ (h.2.2.1 _ (hYξ q hqξ) _ (hYξ r hrξ) e), fun r hrξ => h.2.2.2 (τ r.1, r.2.1, τ r.2.2) (hFξ r hrξ)⟩
/-- the memory with the named cells as M2 hasξ them -/
noncomputable def zPut (ρ : Nat → Option Nat) (M M2 : Nat → Nat → Int) : Nat → Nat → Int := fun o k => match ρ o with
  | some d => M2 d k
  | none => M o k
theorem zPut_s {ρ : Nat → Option Nat} {M M2 : Nat → Nat → Int} {o d k : Nat} (h : ρ o = some d) : zPut ρ M M2 o k = M2 d k := by
  unfold zPut
  rw [h]
theorem zPut_n {ρ : Nat → Option Nat} {M M2 : Nat → Nat → Int} {o k : Nat} (h : ρ o = none) : zPut ρ M M2 o k = M o k := by
  unfold zPut
  rw [h]
theorem zM_put {A : Nat → Nat} {Y : List (Nat × Nat)} {F : List (Nat × Nat × Nat)} {M : Nat → Nat → Int} {P : Nat → Option Nat} {G : Nat → Nat → Int} (h : zM A Y F M P G) {τ : Nat → Nat} {Y2 : List (Nat × Nat)} {F2 : List (Nat × Nat × Nat)} {M2 : Nat → Nat → Int} {G' : Nat → Nat → Int} (h2ξ : zM (fun o => A (τ o)) Y2 F2 M2 P G') (hYξ : ∀ q ∈ Y2, (τ q.1, q.2) ∈ Y) (hfrξ : zFrR (fun o => A (τ o)) G G') {ρ : Nat → Option Nat} (h3ξ : ∀ o d, ρ o = some d → o = τ d ∧ ∃ t, (d, t) ∈ Y2) (h4ξ : ∀ d ∈ [1, 2, 30, 31, 32, 33, 34, 35, 36, 37, 38, 39, 40, 50, 51, 52], ρ (τ d) = some d ∧ ∃ t, (d, t) ∈ Y2) (hstξ : ∀ r ∈ F, ∀ d, ρ r.1 = some d → M2 d r.2.1 = M r.1 r.2.1) : zM A Y F (zPut ρ M M2) P G' := by
  refine ⟨fun q hqξ => ⟨(h.1 q hqξ).1, fun k => ?_⟩, fun r hrξ => ?_, h.2.2.1, h.2.2.2⟩
  · cases hdξ : ρ q.1 with
    | some d =>
      obtain ⟨e, t, htξ⟩ := h3ξ _ _ hdξ
      rw [zPut_s hdξ, e]
      exact (h2ξ.1 _ htξ).2 k
    | none =>
      rw [zPut_n hdξ, hfrξ (A q.1) k (fun d hd2ξ e => ?_)]
      · exact (h.1 q hqξ).2 k
      · obtain ⟨g1, t, htξ⟩ := h4ξ d hd2ξ
        have e2 : q.1 = τ d := h.2.2.1 q hqξ _ (hYξ _ htξ) e
        rw [e2, g1] at hdξ
        cases hdξ
  · cases hdξ : ρ r.1 with
    | some d =>
      rw [zPut_s hdξ, hstξ r hrξ d hdξ]
      exact h.2.1 r hrξ
    | none =>
      rw [zPut_n hdξ]
      exact h.2.1 r hrξ
theorem zIM_yy {Y : List (Nat × Nat)} {F : List (Nat × Nat × Nat)} {c : Nat} (hYFξ : zMc Y F) (hIξ : zIM Y F c) : ∀ q ∈ zYy, (zτb c q.1, q.2) ∈ Y := by
  intro q hqξ
  have hqξ : q = (1, 10) ∨ q = (2, 2) ∨ q = (30, 42) ∨ q = (31, 43) ∨ q = (32, 44) ∨ q = (33, 45) ∨ q = (34, 46) ∨ q = (35, 47) ∨ q = (36, 48) ∨ q = (37, 49) ∨ q = (38, 50) ∨ q = (39, 51) ∨ q = (40, 52) ∨ q = (50, 17) ∨ q = (51, 18) ∨ q = (52, 19) ∨ q = (101, 93) ∨ q = (102, 2) ∨ q = (130, 42) ∨ q = (131, 43) ∨ q = (132, 44) ∨ q = (133, 45) ∨ q = (134, 46) ∨ q = (135, 47) ∨ q = (136, 48) ∨ q = (137, 49) ∨ q = (138, 50) ∨ q = (139, 51) ∨ q = (140, 52) ∨ q = (150, 17) ∨ q = (151, 18) ∨ q = (152, 19) := by simpa [zYy] using hqξ
  rcases hqξ with rfl | rfl | rfl | rfl | rfl | rfl | rfl | rfl | rfl | rfl | rfl | rfl | rfl | rfl | rfl | rfl | rfl | rfl | rfl | rfl | rfl | rfl | rfl | rfl | rfl | rfl | rfl | rfl | rfl | rfl | rfl | rfl
  · exact hYFξ.1 (1, 10) (by decide)
  · exact hYFξ.1 (2, 2) (by decide)
  · exact hYFξ.1 (30, 42) (by decide)
  · exact hYFξ.1 (31, 43) (by decide)
  · exact hYFξ.1 (32, 44) (by decide)
  · exact hYFξ.1 (33, 45) (by decide)
  · exact hYFξ.1 (34, 46) (by decide)
  · exact hYFξ.1 (35, 47) (by decide)
  · exact hYFξ.1 (36, 48) (by decide)
  · exact hYFξ.1 (37, 49) (by decide)
  · exact hYFξ.1 (38, 50) (by decide)
  · exact hYFξ.1 (39, 51) (by decide)
  · exact hYFξ.1 (40, 52) (by decide)
  · exact hYFξ.1 (50, 17) (by decide)
  · exact hYFξ.1 (51, 18) (by decide)
  · exact hYFξ.1 (52, 19) (by decide)
  · exact hIξ.2.1 (0, 93) (by decide)
  · exact hIξ.2.1 (12, 2) (by decide)
  · exact hIξ.2.1 (1, 42) (by decide)
  · exact hIξ.2.1 (2, 43) (by decide)
  · exact hIξ.2.1 (3, 44) (by decide)
  · exact hIξ.2.1 (4, 45) (by decide)
  · exact hIξ.2.1 (5, 46) (by decide)
  · exact hIξ.2.1 (6, 47) (by decide)
  · exact hIξ.2.1 (7, 48) (by decide)
  · exact hIξ.2.1 (8, 49) (by decide)
  · exact hIξ.2.1 (9, 50) (by decide)
  · exact hIξ.2.1 (10, 51) (by decide)
  · exact hIξ.2.1 (11, 52) (by decide)
  · exact hIξ.2.1 (13, 17) (by decide)
  · exact hIξ.2.1 (14, 18) (by decide)
  · exact hIξ.2.1 (15, 19) (by decide)
theorem zIM_yf {Y : List (Nat × Nat)} {F : List (Nat × Nat × Nat)} {c : Nat} (hYFξ : zMc Y F) (hIξ : zIM Y F c) : ∀ r ∈ zFy, (zτb c r.1, r.2.1, zτb c r.2.2) ∈ F := by
  intro q hqξ
  have hqξ : q = (1, 0, 30) ∨ q = (1, 2, 31) ∨ q = (1, 4, 32) ∨ q = (1, 5, 33) ∨ q = (1, 6, 34) ∨ q = (1, 7, 35) ∨ q = (1, 8, 36) ∨ q = (1, 10, 37) ∨ q = (1, 11, 38) ∨ q = (1, 12, 39) ∨ q = (1, 13, 40) ∨ q = (1, 18, 2) ∨ q = (2, 0, 50) ∨ q = (2, 1, 51) ∨ q = (2, 2, 52) ∨ q = (101, 0, 130) ∨ q = (101, 2, 131) ∨ q = (101, 4, 132) ∨ q = (101, 5, 133) ∨ q = (101, 6, 134) ∨ q = (101, 7, 135) ∨ q = (101, 8, 136) ∨ q = (101, 10, 137) ∨ q = (101, 11, 138) ∨ q = (101, 12, 139) ∨ q = (101, 13, 140) ∨ q = (101, 18, 102) ∨ q = (102, 0, 150) ∨ q = (102, 1, 151) ∨ q = (102, 2, 152) := by simpa [zFy] using hqξ
  rcases hqξ with rfl | rfl | rfl | rfl | rfl | rfl | rfl | rfl | rfl | rfl | rfl | rfl | rfl | rfl | rfl | rfl | rfl | rfl | rfl | rfl | rfl | rfl | rfl | rfl | rfl | rfl | rfl | rfl | rfl | rfl
  · exact hYFξ.2.1 (1, 0, 30) (by decide)
  · exact hYFξ.2.1 (1, 2, 31) (by decide)
  · exact hYFξ.2.1 (1, 4, 32) (by decide)
  · exact hYFξ.2.1 (1, 5, 33) (by decide)
  · exact hYFξ.2.1 (1, 6, 34) (by decide)
  · exact hYFξ.2.1 (1, 7, 35) (by decide)
  · exact hYFξ.2.1 (1, 8, 36) (by decide)
  · exact hYFξ.2.1 (1, 10, 37) (by decide)
  · exact hYFξ.2.1 (1, 11, 38) (by decide)
  · exact hYFξ.2.1 (1, 12, 39) (by decide)
  · exact hYFξ.2.1 (1, 13, 40) (by decide)
  · exact hYFξ.2.1 (1, 18, 2) (by decide)
  · exact hYFξ.2.1 (2, 0, 50) (by decide)
  · exact hYFξ.2.1 (2, 1, 51) (by decide)
  · exact hYFξ.2.1 (2, 2, 52) (by decide)
  · exact hIξ.2.2 (0, 0, 1) (by decide)
  · exact hIξ.2.2 (0, 2, 2) (by decide)
  · exact hIξ.2.2 (0, 4, 3) (by decide)
  · exact hIξ.2.2 (0, 5, 4) (by decide)
  · exact hIξ.2.2 (0, 6, 5) (by decide)
  · exact hIξ.2.2 (0, 7, 6) (by decide)
  · exact hIξ.2.2 (0, 8, 7) (by decide)
  · exact hIξ.2.2 (0, 10, 8) (by decide)
  · exact hIξ.2.2 (0, 11, 9) (by decide)
  · exact hIξ.2.2 (0, 12, 10) (by decide)
  · exact hIξ.2.2 (0, 13, 11) (by decide)
  · exact hIξ.2.2 (0, 18, 12) (by decide)
  · exact hIξ.2.2 (12, 0, 13) (by decide)
  · exact hIξ.2.2 (12, 1, 14) (by decide)
  · exact hIξ.2.2 (12, 2, 15) (by decide)
theorem zIM_yi {c : Nat} (hcξ : 100 ≤ c) : ∀ q ∈ zYy, ∀ r ∈ zYy, zτb c q.1 = zτb c r.1 → q.1 = r.1 := by
  have h9ξ : ∀ q ∈ zYy, (q.1 = 1 ∨ q.1 = 2 ∨ (30 ≤ q.1 ∧ q.1 ≤ 40) ∨ (50 ≤ q.1 ∧ q.1 ≤ 52)) ∨ (q.1 = 101 ∨ q.1 = 102 ∨ (130 ≤ q.1 ∧ q.1 ≤ 140) ∨ (150 ≤ q.1 ∧ q.1 ≤ 152)) := by decide
  intro q hqξ r hrξ e
  have h1ξ := h9ξ q hqξ
  have h2ξ := h9ξ r hrξ
  unfold zτb at e
  repeat' split at e
  all_goals omega
theorem zIM_zy {Y : List (Nat × Nat)} {F : List (Nat × Nat × Nat)} {c : Nat} (hYFξ : zMc Y F) (hIξ : zIM Y F c) : ∀ q ∈ zYz, (zτi c q.1, q.2) ∈ Y := by
  intro q hqξ
  have hqξ : q = (1, 93) ∨ q = (2, 2) ∨ q = (30, 42) ∨ q = (31, 43) ∨ q = (32, 44) ∨ q = (33, 45) ∨ q = (34, 46) ∨ q = (35, 47) ∨ q = (36, 48) ∨ q = (37, 49) ∨ q = (38, 50) ∨ q = (39, 51) ∨ q = (40, 52) ∨ q = (50, 17) ∨ q = (51, 18) ∨ q = (52, 19) ∨ q = (101, 10) ∨ q = (102, 2) ∨ q = (130, 42) ∨ q = (131, 43) ∨ q = (132, 44) ∨ q = (133, 45) ∨ q = (134, 46) ∨ q = (135, 47) ∨ q = (136, 48) ∨ q = (137, 49) ∨ q = (138, 50) ∨ q = (139, 51) ∨ q = (140, 52) ∨ q = (150, 17) ∨ q = (151, 18) ∨ q = (152, 19) := by simpa [zYz] using hqξ
  rcases hqξ with rfl | rfl | rfl | rfl | rfl | rfl | rfl | rfl | rfl | rfl | rfl | rfl | rfl | rfl | rfl | rfl | rfl | rfl | rfl | rfl | rfl | rfl | rfl | rfl | rfl | rfl | rfl | rfl | rfl | rfl | rfl | rfl
  · exact hIξ.2.1 (0, 93) (by decide)
  · exact hIξ.2.1 (12, 2) (by decide)
  · exact hIξ.2.1 (1, 42) (by decide)
  · exact hIξ.2.1 (2, 43) (by decide)
  · exact hIξ.2.1 (3, 44) (by decide)
  · exact hIξ.2.1 (4, 45) (by decide)
  · exact hIξ.2.1 (5, 46) (by decide)
  · exact hIξ.2.1 (6, 47) (by decide)
  · exact hIξ.2.1 (7, 48) (by decide)
  · exact hIξ.2.1 (8, 49) (by decide)
  · exact hIξ.2.1 (9, 50) (by decide)
  · exact hIξ.2.1 (10, 51) (by decide)
  · exact hIξ.2.1 (11, 52) (by decide)
  · exact hIξ.2.1 (13, 17) (by decide)
  · exact hIξ.2.1 (14, 18) (by decide)
  · exact hIξ.2.1 (15, 19) (by decide)
  · exact hYFξ.1 (1, 10) (by decide)
  · exact hYFξ.1 (2, 2) (by decide)
  · exact hYFξ.1 (30, 42) (by decide)
  · exact hYFξ.1 (31, 43) (by decide)
  · exact hYFξ.1 (32, 44) (by decide)
  · exact hYFξ.1 (33, 45) (by decide)
  · exact hYFξ.1 (34, 46) (by decide)
  · exact hYFξ.1 (35, 47) (by decide)
  · exact hYFξ.1 (36, 48) (by decide)
  · exact hYFξ.1 (37, 49) (by decide)
  · exact hYFξ.1 (38, 50) (by decide)
  · exact hYFξ.1 (39, 51) (by decide)
  · exact hYFξ.1 (40, 52) (by decide)
  · exact hYFξ.1 (50, 17) (by decide)
  · exact hYFξ.1 (51, 18) (by decide)
  · exact hYFξ.1 (52, 19) (by decide)
theorem zIM_zf {Y : List (Nat × Nat)} {F : List (Nat × Nat × Nat)} {c : Nat} (hYFξ : zMc Y F) (hIξ : zIM Y F c) : ∀ r ∈ zFz, (zτi c r.1, r.2.1, zτi c r.2.2) ∈ F := by
  intro q hqξ
  have hqξ : q = (1, 0, 30) ∨ q = (1, 2, 31) ∨ q = (1, 4, 32) ∨ q = (1, 5, 33) ∨ q = (1, 6, 34) ∨ q = (1, 7, 35) ∨ q = (1, 8, 36) ∨ q = (1, 10, 37) ∨ q = (1, 11, 38) ∨ q = (1, 12, 39) ∨ q = (1, 13, 40) ∨ q = (1, 18, 2) ∨ q = (2, 0, 50) ∨ q = (2, 1, 51) ∨ q = (2, 2, 52) ∨ q = (101, 0, 130) ∨ q = (101, 2, 131) ∨ q = (101, 4, 132) ∨ q = (101, 5, 133) ∨ q = (101, 6, 134) ∨ q = (101, 7, 135) ∨ q = (101, 8, 136) ∨ q = (101, 10, 137) ∨ q = (101, 11, 138) ∨ q = (101, 12, 139) ∨ q = (101, 13, 140) ∨ q = (101, 18, 102) ∨ q = (102, 0, 150) ∨ q = (102, 1, 151) ∨ q = (102, 2, 152) := by simpa [zFz] using hqξ
  rcases hqξ with rfl | rfl | rfl | rfl | rfl | rfl | rfl | rfl | rfl | rfl | rfl | rfl | rfl | rfl | rfl | rfl | rfl | rfl | rfl | rfl | rfl | rfl | rfl | rfl | rfl | rfl | rfl | rfl | rfl | rfl
  · exact hIξ.2.2 (0, 0, 1) (by decide)
  · exact hIξ.2.2 (0, 2, 2) (by decide)
  · exact hIξ.2.2 (0, 4, 3) (by decide)
  · exact hIξ.2.2 (0, 5, 4) (by decide)
  · exact hIξ.2.2 (0, 6, 5) (by decide)
  · exact hIξ.2.2 (0, 7, 6) (by decide)
  · exact hIξ.2.2 (0, 8, 7) (by decide)
  · exact hIξ.2.2 (0, 10, 8) (by decide)
  · exact hIξ.2.2 (0, 11, 9) (by decide)
  · exact hIξ.2.2 (0, 12, 10) (by decide)
  · exact hIξ.2.2 (0, 13, 11) (by decide)
  · exact hIξ.2.2 (0, 18, 12) (by decide)
  · exact hIξ.2.2 (12, 0, 13) (by decide)
  · exact hIξ.2.2 (12, 1, 14) (by decide)
  · exact hIξ.2.2 (12, 2, 15) (by decide)
  · exact hYFξ.2.1 (1, 0, 30) (by decide)
  · exact hYFξ.2.1 (1, 2, 31) (by decide)
  · exact hYFξ.2.1 (1, 4, 32) (by decide)
  · exact hYFξ.2.1 (1, 5, 33) (by decide)
  · exact hYFξ.2.1 (1, 6, 34) (by decide)
  · exact hYFξ.2.1 (1, 7, 35) (by decide)
  · exact hYFξ.2.1 (1, 8, 36) (by decide)
  · exact hYFξ.2.1 (1, 10, 37) (by decide)
  · exact hYFξ.2.1 (1, 11, 38) (by decide)
  · exact hYFξ.2.1 (1, 12, 39) (by decide)
  · exact hYFξ.2.1 (1, 13, 40) (by decide)
  · exact hYFξ.2.1 (1, 18, 2) (by decide)
  · exact hYFξ.2.1 (2, 0, 50) (by decide)
  · exact hYFξ.2.1 (2, 1, 51) (by decide)
  · exact hYFξ.2.1 (2, 2, 52) (by decide)
theorem zIM_zi {c : Nat} (hcξ : 100 ≤ c) : ∀ q ∈ zYz, ∀ r ∈ zYz, zτi c q.1 = zτi c r.1 → q.1 = r.1 := by
  have h9ξ : ∀ q ∈ zYz, (q.1 = 1 ∨ q.1 = 2 ∨ (30 ≤ q.1 ∧ q.1 ≤ 40) ∨ (50 ≤ q.1 ∧ q.1 ≤ 52)) ∨ (q.1 = 101 ∨ q.1 = 102 ∨ (130 ≤ q.1 ∧ q.1 ≤ 140) ∨ (150 ≤ q.1 ∧ q.1 ≤ 152)) := by decide
  intro q hqξ r hrξ e
  have h1ξ := h9ξ q hqξ
  have h2ξ := h9ξ r hrξ
  unfold zτi at e
  repeat' split at e
  all_goals omega
theorem zf_tcy_s {V : Nat → Nat → Int} : ∀ q ∈ ([(1, 0), (1, 2), (1, 4), (1, 5), (1, 6), (1, 7), (1, 8), (1, 10), (1, 11), (1, 12), (1, 13), (1, 18), (2, 0), (2, 1), (2, 2)] : List (Nat × Nat)), (zf_tcy V).2 q.1 q.2 = V q.1 q.2 := by
  intro q hqξ
  have hqξ : q = (1, 0) ∨ q = (1, 2) ∨ q = (1, 4) ∨ q = (1, 5) ∨ q = (1, 6) ∨ q = (1, 7) ∨ q = (1, 8) ∨ q = (1, 10) ∨ q = (1, 11) ∨ q = (1, 12) ∨ q = (1, 13) ∨ q = (1, 18) ∨ q = (2, 0) ∨ q = (2, 1) ∨ q = (2, 2) := by simpa using hqξ
  rcases hqξ with rfl | rfl | rfl | rfl | rfl | rfl | rfl | rfl | rfl | rfl | rfl | rfl | rfl | rfl | rfl
  · rfl
  · rfl
  · rfl
  · rfl
  · rfl
  · rfl
  · rfl
  · rfl
  · rfl
  · rfl
  · rfl
  · rfl
  · rfl
  · rfl
  · rfl
theorem zf_tcz_s {V : Nat → Nat → Int} : ∀ q ∈ ([(1, 0), (1, 2), (1, 4), (1, 5), (1, 6), (1, 7), (1, 8), (1, 10), (1, 11), (1, 12), (1, 13), (1, 18), (2, 0), (2, 1), (2, 2)] : List (Nat × Nat)), (zf_tcz V).2 q.1 q.2 = V q.1 q.2 := by
  intro q hqξ
  have hqξ : q = (1, 0) ∨ q = (1, 2) ∨ q = (1, 4) ∨ q = (1, 5) ∨ q = (1, 6) ∨ q = (1, 7) ∨ q = (1, 8) ∨ q = (1, 10) ∨ q = (1, 11) ∨ q = (1, 12) ∨ q = (1, 13) ∨ q = (1, 18) ∨ q = (2, 0) ∨ q = (2, 1) ∨ q = (2, 2) := by simpa using hqξ
  rcases hqξ with rfl | rfl | rfl | rfl | rfl | rfl | rfl | rfl | rfl | rfl | rfl | rfl | rfl | rfl | rfl
  · rfl
  · rfl
  · rfl
  · rfl
  · rfl
  · rfl
  · rfl
  · rfl
  · rfl
  · rfl
  · rfl
  · rfl
  · rfl
  · rfl
  · rfl
theorem zρb_1 {c o d : Nat} (h : zρb o = some d) : o = zτb c d ∧ ∃ t, (d, t) ∈ zYy := by
  unfold zρb at h
  split at h
  · rename_i h1ξ
    cases h
    refine ⟨by unfold zτb; rw [if_pos (by omega)], ?_⟩
    have h2ξ : ∀ o, o < 53 → (o = 1 ∨ o = 2 ∨ (30 ≤ o ∧ o ≤ 40) ∨ (50 ≤ o ∧ o ≤ 52)) → zYy.any (fun q => q.1 == o) = true := by decide
    obtain ⟨q, hqξ, e⟩ := List.any_eq_true.mp (h2ξ o (by omega) h1ξ)
    rw [beq_iff_eq] at e
    exact ⟨q.2, by rw [← e]; exact hqξ⟩
  · cases h
theorem zρb_2 {c : Nat} : ∀ d ∈ ([1, 2, 30, 31, 32, 33, 34, 35, 36, 37, 38, 39, 40, 50, 51, 52] : List Nat), zρb (zτb c d) = some d ∧ ∃ t, (d, t) ∈ zYy := by
  intro d hdξ
  have h1ξ : ∀ d ∈ ([1, 2, 30, 31, 32, 33, 34, 35, 36, 37, 38, 39, 40, 50, 51, 52] : List Nat), (d = 1 ∨ d = 2 ∨ (30 ≤ d ∧ d ≤ 40) ∨ (50 ≤ d ∧ d ≤ 52)) ∧ zYy.any (fun q => q.1 == d) = true := by decide
  obtain ⟨h2ξ, h3ξ⟩ := h1ξ d hdξ
  have e : zτb c d = d := by unfold zτb; rw [if_pos (by omega)]
  refine ⟨?_, ?_⟩
  · rw [e]
    unfold zρb
    rw [if_pos h2ξ]
  · obtain ⟨q, hqξ, e⟩ := List.any_eq_true.mp h3ξ
    rw [beq_iff_eq] at e
    exact ⟨q.2, by rw [← e]; exact hqξ⟩
theorem zρi_1 {c o d : Nat} (h : zρi c o = some d) : o = zτi c d ∧ ∃ t, (d, t) ∈ zYz := by
  unfold zρi at h
  split at h
  · rename_i h1ξ
    have h := Option.some.inj h
    have h2ξ : (d = 1 ∨ d = 2 ∨ (30 ≤ d ∧ d ≤ 40) ∨ (50 ≤ d ∧ d ≤ 52)) ∧ o = zτi c d := by
      subst h
      unfold zτi
      repeat' split
      all_goals omega
    refine ⟨h2ξ.2, ?_⟩
    have h3ξ : ∀ o, o < 53 → (o = 1 ∨ o = 2 ∨ (30 ≤ o ∧ o ≤ 40) ∨ (50 ≤ o ∧ o ≤ 52)) → zYz.any (fun q => q.1 == o) = true := by decide
    obtain ⟨q, hqξ, e⟩ := List.any_eq_true.mp (h3ξ d (by omega) h2ξ.1)
    rw [beq_iff_eq] at e
    exact ⟨q.2, by rw [← e]; exact hqξ⟩
  · cases h
theorem zρi_2 {c : Nat} : ∀ d ∈ ([1, 2, 30, 31, 32, 33, 34, 35, 36, 37, 38, 39, 40, 50, 51, 52] : List Nat), zρi c (zτi c d) = some d ∧ ∃ t, (d, t) ∈ zYz := by
  intro d hdξ
  have h1ξ : ∀ d ∈ ([1, 2, 30, 31, 32, 33, 34, 35, 36, 37, 38, 39, 40, 50, 51, 52] : List Nat), (d = 1 ∨ d = 2 ∨ (30 ≤ d ∧ d ≤ 40) ∨ (50 ≤ d ∧ d ≤ 52)) ∧ zYz.any (fun q => q.1 == d) = true := by decide
  obtain ⟨h2ξ, h3ξ⟩ := h1ξ d hdξ
  refine ⟨?_, ?_⟩
  · unfold zρi zτi
    repeat' split
    all_goals first | omega | (congr 1; omega)
  · obtain ⟨q, hqξ, e⟩ := List.any_eq_true.mp h3ξ
    rw [beq_iff_eq] at e
    exact ⟨q.2, by rw [← e]; exact hqξ⟩
theorem zNy_y : ∀ q ∈ zYy, zNy q.1 := by decide
theorem zNy_z : ∀ q ∈ zYz, zNy q.1 := by decide
theorem zNc_100 {x : Nat} (h : 100 ≤ x) : zNc x := fun h5ξ => by
  have h3ξ : ∀ x ∈ ([4, 5, 13, 21, 66, 67, 68, 69, 70] : List Nat), x < 100 := by decide
  have := h3ξ _ h5ξ
  omega
theorem zNc_b {c o : Nat} (hcξ : 100 ≤ c) (h : zNy o) : zNc (zτb c o) := by
  have h2ξ : ∀ o ∈ ([1, 2, 30, 31, 32, 33, 34, 35, 36, 37, 38, 39, 40, 50, 51, 52, 101, 102, 130, 131, 132, 133, 134, 135, 136, 137, 138, 139, 140, 150, 151, 152] : List Nat), (o < 53 ∧ zNc o) ∨ (100 < o ∧ o < 153 ∧ (o < 103 ∨ 129 < o)) := by decide
  rcases h2ξ o h with ⟨h4ξ, h5ξ⟩ | h4ξ
  · rw [show zτb c o = o by unfold zτb; rw [if_pos (by omega)]]
    exact h5ξ
  · refine zNc_100 ?_
    unfold zτb
    repeat' split
    all_goals omega
theorem zNc_i {c o : Nat} (hcξ : 100 ≤ c) (h : zNy o) : zNc (zτi c o) := by
  have h2ξ : ∀ o ∈ ([1, 2, 30, 31, 32, 33, 34, 35, 36, 37, 38, 39, 40, 50, 51, 52, 101, 102, 130, 131, 132, 133, 134, 135, 136, 137, 138, 139, 140, 150, 151, 152] : List Nat), (o < 53 ∧ (o < 3 ∨ 29 < o) ∧ 0 < o) ∨ (100 < o ∧ zNc (o - 100)) := by decide
  rcases h2ξ o h with h4ξ | ⟨h4ξ, h5ξ⟩
  · refine zNc_100 ?_
    unfold zτi
    repeat' split
    all_goals omega
  · rw [show zτi c o = o - 100 by unfold zτi; rw [if_pos (by omega)]]
    exact h5ξ
/-- back: the town's own -/
noncomputable def zT_bk (c : Nat) (V : Nat → Nat → Int) : Nat → Nat → Int := zPut zρb V (zf_tcy (fun o k => V (zτb c o) k)).2
/-- image: the image's -/
noncomputable def zT_im (c : Nat) (V : Nat → Nat → Int) : Nat → Nat → Int := zPut (zρi c) V (zf_tcz (fun o k => V (zτi c o) k)).2
theorem zT_bks {A : Nat → Nat} {Y : List (Nat × Nat)} {F : List (Nat × Nat × Nat)} {M : Nat → Nat → Int} {P : Nat → Option Nat} {G : Nat → Nat → Int} {c : Nat} {V M2 : Nat → Nat → Int} (h : zM A Y F M P G) (hYFξ : zMc Y F) (hcξ : 100 ≤ c) (hVξ : ∀ o k, zNc o → M o k = V o k) (h2ξ : ∀ o k, zNy o → M2 o k = (zf_tcy (fun o k => V (zτb c o) k)).2 o k) : ∀ r ∈ F, ∀ d, zρb r.1 = some d → M2 d r.2.1 = M r.1 r.2.1 := fun r hrξ d hdξ => by
  obtain ⟨e, t, htξ⟩ := zρb_1 (c := c) hdξ
  have hltξ : r.1 < 100 := by
    unfold zρb at hdξ
    split at hdξ
    · omega
    · cases hdξ
  have h1ξ : r ∈ zFc := by
    rcases hYFξ.2.2.1 r hrξ with h1ξ | ⟨h1ξ, -⟩
    · exact h1ξ
    · omega
  have h7ξ : ∀ r ∈ zFc, ∀ d, d < 53 → zρb r.1 = some d → (d, r.2.1) ∈ ([(1, 0), (1, 2), (1, 4), (1, 5), (1, 6), (1, 7), (1, 8), (1, 10), (1, 11), (1, 12), (1, 13), (1, 18), (2, 0), (2, 1), (2, 2)] : List (Nat × Nat)) := by decide
  have hd53ξ : d < 53 := by
    unfold zρb at hdξ
    split at hdξ
    · cases hdξ; omega
    · cases hdξ
  have h8ξ := zNy_y _ htξ
  rw [h2ξ d _ h8ξ, zf_tcy_s _ (h7ξ r h1ξ d hd53ξ hdξ), e]
  exact (hVξ _ _ (zNc_b hcξ h8ξ)).symm
theorem zT_ims {A : Nat → Nat} {Y : List (Nat × Nat)} {F : List (Nat × Nat × Nat)} {M : Nat → Nat → Int} {P : Nat → Option Nat} {G : Nat → Nat → Int} {c : Nat} {V M2 : Nat → Nat → Int} (h : zM A Y F M P G) (hYFξ : zMc Y F) (hIξ : zIM Y F c) (hVξ : ∀ o k, zNc o → M o k = V o k) (h2ξ : ∀ o k, zNy o → M2 o k = (zf_tcz (fun o k => V (zτi c o) k)).2 o k) : ∀ r ∈ F, ∀ d, zρi c r.1 = some d → M2 d r.2.1 = M r.1 r.2.1 := fun r hrξ d hdξ => by
  obtain ⟨e, t, htξ⟩ := zρi_1 (c := c) hdξ
  have hgeξ : 100 ≤ r.1 := by
    unfold zρi at hdξ
    split at hdξ
    · have := hIξ.1; omega
    · cases hdξ
  have h1ξ : ∃ t, (r.1, t) ∈ Y ∧ (t, r.2.1) ∈ zTF := by
    rcases hYFξ.2.2.1 r hrξ with h1ξ | ⟨-, h1ξ⟩
    · have h9ξ : ∀ r ∈ zFc, r.1 < 100 := by decide
      have := h9ξ r h1ξ
      omega
    · exact h1ξ
  obtain ⟨t2, g1, g2⟩ := h1ξ
  have g3 := zIM_zy hYFξ hIξ _ htξ
  have g4 : some t = some t2 := by
    have e1 := (h.1 _ g1).1
    have e2 := (h.1 _ g3).1
    dsimp only at e1 e2
    rw [← e] at e2
    exact e2.symm.trans e1
  obtain rfl := Option.some.inj g4
  have h7ξ : ∀ q ∈ zYz, q.1 < 100 → ∀ s ∈ zTF, s.1 = q.2 → (q.1, s.2) ∈ ([(1, 0), (1, 2), (1, 4), (1, 5), (1, 6), (1, 7), (1, 8), (1, 10), (1, 11), (1, 12), (1, 13), (1, 18), (2, 0), (2, 1), (2, 2)] : List (Nat × Nat)) := by decide
  have hd53ξ : d < 100 := by
    unfold zρi at hdξ
    split at hdξ
    · have := Option.some.inj hdξ
      repeat' split at this
      all_goals omega
    · cases hdξ
  have h8ξ := zNy_z _ htξ
  rw [h2ξ d _ h8ξ, zf_tcz_s _ (h7ξ _ htξ hd53ξ _ g2 rfl), e]
  exact (hVξ _ _ (zNc_i hIξ.1 h8ξ)).symm
theorem zT_bkv {M M2 V : Nat → Nat → Int} {c : Nat} (hVξ : ∀ o k, zNc o → M o k = V o k) (h2ξ : ∀ o k, zNy o → M2 o k = (zf_tcy (fun o k => V (zτb c o) k)).2 o k) : ∀ o k, zNc o → zPut zρb M M2 o k = zT_bk c V o k := fun o k hoξ => by
  unfold zT_bk
  cases hdξ : zρb o with
  | some d =>
    obtain ⟨-, t, htξ⟩ := zρb_1 (c := c) hdξ
    rw [zPut_s hdξ, zPut_s hdξ]
    exact h2ξ d k (zNy_y _ htξ)
  | none =>
    rw [zPut_n hdξ, zPut_n hdξ]
    exact hVξ o k hoξ
theorem zT_imv {M M2 V : Nat → Nat → Int} {c : Nat} (hVξ : ∀ o k, zNc o → M o k = V o k) (h2ξ : ∀ o k, zNy o → M2 o k = (zf_tcz (fun o k => V (zτi c o) k)).2 o k) : ∀ o k, zNc o → zPut (zρi c) M M2 o k = zT_im c V o k := fun o k hoξ => by
  unfold zT_im
  cases hdξ : zρi c o with
  | some d =>
    obtain ⟨-, t, htξ⟩ := zρi_1 (c := c) hdξ
    rw [zPut_s hdξ, zPut_s hdξ]
    exact h2ξ d k (zNy_z _ htξ)
  | none =>
    rw [zPut_n hdξ, zPut_n hdξ]
    exact hVξ o k hoξ
noncomputable def zEIm : List (Nat × Nat × Nat) := [(12, 13, 0), (12, 14, 0), (12, 15, 0), (12, 17, 0), (12, 18, 0), (10, 1, 0), (10, 3, 0), (10, 9, 0), (10, 14, 0), (10, 15, 0), (10, 16, 0), (10, 17, 0), (2, 3, 0), (2, 4, 0), (2, 5, 0), (2, 6, 0), (11, 2, 0), (11, 3, 0), (0, 1, 0), (0, 2, 0), (6, 2, 0), (1, 1, 0), (1, 2, 0), (1, 3, 0), (7, 1, 0), (7, 2, 0), (7, 3, 0), (7, 4, 0), (7, 5, 0), (14, 1001, 0), (15, 1001, 0), (16, 1001, 0), (17, 1001, 0), (18, 1001, 0), (19, 1001, 0), (27, 1001, 0), (28, 1001, 0), (29, 1001, 0), (42, 1001, 0), (43, 1001, 0), (44, 1001, 0), (45, 1001, 0), (46, 1001, 0), (47, 1001, 0), (48, 1001, 0), (49, 1001, 0), (50, 1001, 0), (51, 1001, 0), (53, 1001, 0), (54, 1001, 0), (56, 1001, 0), (57, 1001, 0), (52, 1001, 0), (93, 1, 0), (93, 3, 0), (93, 9, 0), (93, 14, 0), (93, 15, 0), (93, 16, 0), (93, 17, 0), (55, 1001, 0)]
noncomputable def zK_bkc : zk_K := (zt_mn 178, prog_1_method_48_code, 3, (Option.some Jvm.ClassFile.FieldType.int), 1, 11, [(2, 12, 0, 0), (0, 0, (-2147483648), 2147483647)], [(some (0, 0, (-2), 0), [])], zEIm, (3, 240, 0, 0))
noncomputable def zφ_bkc (A : Nat → Nat) (Y : List (Nat × Nat)) (F : List (Nat × Nat × Nat)) (V : Nat → Nat → Int) : (Nat → Option Nat) → (Nat → Nat → Int) → List Int → Prop := fun P G ps => zMVc A Y F V P G ∧ ps.getD 0 0 = (A 0 : Int) ∧ zMc Y F ∧ ∀ k : Nat, k < 2 → V 22 (2000 + k) = -1 ∨ ∃ c, V 22 (2000 + k) = (A c : Int) ∧ zIM Y F c
noncomputable def zψ_bkc (A : Nat → Nat) (Y : List (Nat × Nat)) (F : List (Nat × Nat × Nat)) (V : Nat → Nat → Int) : (Nat → Option Nat) → (Nat → Nat → Int) → List Int → (Nat → Option Nat) → (Nat → Nat → Int) → Int → Prop := fun P G ps P' G' rn => P' = P ∧ ((¬ (0 ≤ (ps.getD 1 0) ∧ (ps.getD 1 0) ≤ 1) ∧ rn = -1 ∧ zMVc A Y F (zf_rfs V (-1)).2 P' G') ∨ ((0 ≤ (ps.getD 1 0) ∧ (ps.getD 1 0) ≤ 1) ∧ ((V 22 (2000 + (ps.getD 1 0).toNat) = -1 ∧ rn = -2 ∧ zMVc A Y F (zf_rfs V (-2)).2 P' G') ∨ ∃ c, V 22 (2000 + (ps.getD 1 0).toNat) = (A c : Int) ∧ zIM Y F c ∧ rn = 0 ∧ zMVc A Y F (zf_ans (zf_clr3 (zT_bk c V)).2 0).2 P' G')))
theorem zX_bkc {l : Launch} {w : zk_W} (hWξ : zh_W w) (A : Nat → Nat) (Y : List (Nat × Nat)) (F : List (Nat × Nat × Nat)) (V : Nat → Nat → Int) : zk_metX l w zt_dv zt_TB zK_bkc (zp_A (zφ_bkc A Y F V)) (zp_B (zψ_bkc A Y F V)) ∧ zk_cok w zt_TB zK_bkc := by
  refine zp_methX (cn := "WoundTown") zp_lkallW hWξ (pl := 1328) rfl (by decide +kernel) (fun p e R s m args below meth c Q u hx hb hEξ hQξ hU5ξ heffξ hnLξ hokξ hφ => ?_)
  have hwξ := hWξ.1
  obtain ⟨p0ξ, p1ξ, hpsξ, tk0, tk1⟩ := zp_ps2 hokξ
  have hrmξ : zk_Kr (zk_ev (zt_types, zp_lkW, zt_dv, [], [], zp_lcW, zK_bkc)) = zk_Kr zK_bkc := rfl
  rw [hpsξ] at hφ ⊢
  have hφ : zMVc A Y F V u.1 (zp_n u.2.1) ∧ p0ξ = (A 0 : Int) ∧ zMc Y F ∧ ∀ k : Nat, k < 2 → V 22 (2000 + k) = -1 ∨ ∃ c, V 22 (2000 + k) = (A c : Int) ∧ zIM Y F c := hφ
  obtain ⟨⟨M, hMξ, hVξ, hSbξ⟩, rfl, hYFξ, himξ⟩ := hφ
  have hYF0ξ := hYFξ
  obtain ⟨hYbξ, hFbξ, hFxξ, -⟩ := hYFξ
  have hi1ξ := zp_int tk1
  show zp_J p l e R s m args below meth c Q w u [] 0 [(0, 2, (A 0 : Int)), (1, 0, p1ξ)] [] u.1 (zp_n u.2.1)
  refine zp_load (pc := 0) hx hb (zd_X11_back (0, .iload_n 1, 1, 0, []) (List.mem_of_getElem? (i := 0) rfl)) rfl (j := 1) rfl ?_
  refine zp_const (pc := 1) hx hb (zd_X11_back (1, .iconst 0, 1, 0, []) (List.mem_of_getElem? (i := 1) rfl)) rfl rfl ?_
  refine zp_const (pc := 2) hx hb (zd_X11_back (2, .iconst 1, 1, 0, []) (List.mem_of_getElem? (i := 2) rfl)) rfl rfl ?_
  refine zp_call (pc := 3) (how := 1) (idx := 107) (mi := 15) (S := []) hx hb hEξ hwξ heffξ hrmξ (zX_iwn hWξ) rfl (j := 10) rfl rfl (by decide +kernel) (zd_X11_back (3, .invokestatic 107, 3, 0, []) (List.mem_of_getElem? (i := 3) rfl)) [p1ξ, 0, 1] rfl ⟨zp_o0 (by omega) (by omega) (by omega) (by omega), zp_o0 (by omega) (by omega) (by omega) (by omega), zp_o0 (by omega) (by omega) (by omega) (by omega), trivial⟩ (Nat.le_of_ble_eq_true rfl) trivial (fun al halξ rnn493ξ Pn493 Gn493 hextn493ξ hfrn493ξ hokn493ξ hcsn493ξ hpsin493ξ => ?_)
  obtain rfl := List.mem_singleton.mp halξ
  have hrn493ξ := zp_int (hokn493ξ _ rfl).1
  obtain ⟨hPen493ξ, hGen493ξ, htn493ξ⟩ := hpsin493ξ
  rw [hPen493ξ, hGen493ξ]
  clear hextn493ξ hfrn493ξ hcsn493ξ hPen493ξ hGen493ξ
  have htn493ξ : rnn493ξ = 1 ↔ 0 ≤ p1ξ ∧ p1ξ ≤ 1 := htn493ξ
  refine zp_if (pc := 6) (tgt := 15) hx hb (zd_X11_back (6, .ifCond .ne 9, 3, 0, []) (List.mem_of_getElem? (i := 4) rfl)) rfl (fun (hc494ξ : ¬ rnn493ξ = 0) => ?_) (fun (hc494ξ : ¬ (¬ rnn493ξ = 0)) => ?_)
  · have hbt495ξ := (Iff.mp htn493ξ) (by omega)
    refine zp_load (pc := 15) hx hb (zd_X11_back (15, .aload_n 0, 1, 0, []) (List.mem_of_getElem? (i := 9) rfl)) rfl (j := 0) rfl ?_
    refine zp_getf (n := (A 22 : Int)) (pc := 16) hx hb hEξ hwξ (zd_X11_back (16, .getfield 16, 3, 0, []) (List.mem_of_getElem? (i := 10) rfl)) (j := 51) rfl rfl rfl (zM_P hMξ (hYbξ _ (List.mem_of_getElem? (i := 0) rfl))) ((zM_G hMξ (hYbξ _ (List.mem_of_getElem? (i := 0) rfl)) 1).trans (zM_F hMξ (hFbξ _ (List.mem_of_getElem? (i := 1) rfl)))) ?_
    refine zp_load (pc := 19) hx hb (zd_X11_back (19, .iload_n 1, 1, 0, []) (List.mem_of_getElem? (i := 11) rfl)) rfl (j := 1) rfl ?_
    refine zp_aald (j := p1ξ.toNat) (v := (V 22 (2000 + p1ξ.toNat))) (len := 2) (x := 93) (lo := (-1)) (hi := 0) (pc := 20) hx hb hwξ (zd_X11_back (20, .aaload, 1, 0, []) (List.mem_of_getElem? (i := 12) rfl)) rfl (zM_P hMξ (hYbξ _ (List.mem_of_getElem? (i := 16) rfl))) (by omega) (by omega) ((zM_G hMξ (hYbξ _ (List.mem_of_getElem? (i := 16) rfl)) (2000 + p1ξ.toNat)).trans (hVξ 22 (2000 + p1ξ.toNat) (by decide))) (fun hk497ξ => ?_)
    refine zp_store (L' := [(2, 2, (V 22 (2000 + p1ξ.toNat))), (0, 2, (A 0 : Int)), (1, 0, p1ξ)]) (pc := 21) hx hb hnLξ (zd_X11_back (21, .astore_n 2, 1, 0, []) (List.mem_of_getElem? (i := 13) rfl)) rfl rfl rfl ?_
    refine zp_load (pc := 22) hx hb (zd_X11_back (22, .aload_n 2, 1, 0, []) (List.mem_of_getElem? (i := 14) rfl)) rfl (j := 0) rfl ?_
    rcases himξ p1ξ.toNat (by omega) with hc9ξ | ⟨c9ξ, hc9ξ, hI9ξ⟩
    · rw [hc9ξ]
      refine zp_nnn (pc := 23) hx hb (by decide) (zd_X11_back (23, .ifnonnull 10, 3, 0, []) (List.mem_of_getElem? (i := 15) rfl)) ?_
      refine zp_load (pc := 26) hx hb (zd_X11_back (26, .aload_n 0, 1, 0, []) (List.mem_of_getElem? (i := 16) rfl)) rfl (j := 1) rfl ?_
      refine zp_const (pc := 27) hx hb (zd_X11_back (27, .bipush (-2), 2, 0, []) (List.mem_of_getElem? (i := 17) rfl)) rfl rfl ?_
      refine zp_call (pc := 29) (how := 0) (idx := 111) (mi := 16) (S := []) hx hb hEξ hwξ heffξ hrmξ (zX_rfs hWξ A Y F V) rfl (j := 11) rfl rfl (by decide +kernel) (zd_X11_back (29, .invokevirtual 111, 3, 0, []) (List.mem_of_getElem? (i := 18) rfl)) [(A 0 : Int), (-2)] rfl ⟨zp_o2 (zM_P hMξ (hYbξ _ (List.mem_of_getElem? (i := 0) rfl))), zp_o0 (by omega) (by omega) (by omega) (by omega), trivial⟩ (Nat.le_of_ble_eq_true rfl) ⟨⟨M, hMξ, hVξ, trivial⟩, rfl, hYF0ξ⟩ (fun al halξ rna498ξ Pa498 Ga498 hexta498ξ hfra498ξ hoka498ξ hcsa498ξ hpsia498ξ => ?_)
      obtain rfl := List.mem_singleton.mp halξ
      have hra498ξ := zp_int (hoka498ξ _ rfl).1
      obtain ⟨hPea498ξ, ⟨Ma498, hMa498ξ, hVa498ξ, hSba498ξ⟩, hta498ξ⟩ := hpsia498ξ
      subst hPea498ξ
      clear hexta498ξ hfra498ξ hcsa498ξ hoka498ξ
      have hVa498ξ : ∀ o k, zNc o → Ma498 o k = (zf_rfs V (-2)).2 o k := hVa498ξ
      have hta498ξ : rna498ξ = ((zf_rfs V (-2)).1) := hta498ξ
      have hta498ξ := (Eq.symm hta498ξ)
      subst hta498ξ
      have hrvξ : ((zf_rfs V (-2)).1) = -2 := by unfold zf_rfs; rw [if_neg (by decide), if_neg (by decide), if_neg (by decide), if_neg (by decide), if_pos rfl]
      refine zp_iret (pc := 32) (n := ((zf_rfs V (-2)).1)) hx hb hEξ hQξ hU5ξ rfl (by decide) (zd_X11_back (32, .ireturn, 1, 0, []) (List.mem_of_getElem? (i := 19) rfl)) (j := 0) rfl (zp_o0 (by rw [hrvξ]; omega) (by rw [hrvξ]; omega) (by rw [hrvξ]; omega) (by rw [hrvξ]; omega)) ?_
      rw [hpsξ]
      refine ⟨rfl, ?_⟩
      show (¬ (0 ≤ p1ξ ∧ p1ξ ≤ 1) ∧ ((zf_rfs V (-2)).1) = -1 ∧ zMVc A Y F (zf_rfs V (-1)).2 u.1 _) ∨ ((0 ≤ p1ξ ∧ p1ξ ≤ 1) ∧ ((V 22 (2000 + p1ξ.toNat) = -1 ∧ ((zf_rfs V (-2)).1) = -2 ∧ zMVc A Y F (zf_rfs V (-2)).2 u.1 _) ∨ ∃ c, V 22 (2000 + p1ξ.toNat) = (A c : Int) ∧ zIM Y F c ∧ ((zf_rfs V (-2)).1) = 0 ∧ zMVc A Y F (zf_ans (zf_clr3 (zT_bk c V)).2 0).2 u.1 _))
      exact Or.inr ⟨by omega, Or.inl ⟨hc9ξ, hrvξ, ⟨Ma498, hMa498ξ, hVa498ξ, trivial⟩⟩⟩
    · rw [hc9ξ]
      refine zp_nnr (pc := 23) (tgt := 33) hx hb (zd_X11_back (23, .ifnonnull 10, 3, 0, []) (List.mem_of_getElem? (i := 15) rfl)) rfl ?_
      refine zp_load (pc := 33) hx hb (zd_X11_back (33, .aload_n 0, 1, 0, []) (List.mem_of_getElem? (i := 20) rfl)) rfl (j := 1) rfl ?_
      refine zp_getf (n := (A 1 : Int)) (pc := 34) hx hb hEξ hwξ (zd_X11_back (34, .getfield 10, 3, 0, []) (List.mem_of_getElem? (i := 21) rfl)) (j := 50) rfl rfl rfl (zM_P hMξ (hYbξ _ (List.mem_of_getElem? (i := 0) rfl))) ((zM_G hMξ (hYbξ _ (List.mem_of_getElem? (i := 0) rfl)) 0).trans (zM_F hMξ (hFbξ _ (List.mem_of_getElem? (i := 0) rfl)))) ?_
      refine zp_load (pc := 37) hx hb (zd_X11_back (37, .aload_n 2, 1, 0, []) (List.mem_of_getElem? (i := 22) rfl)) rfl (j := 0) rfl ?_
      have hmTt499ξ := zM_map hMξ (zIM_yy hYF0ξ hI9ξ) (zIM_yf hYF0ξ hI9ξ) (zIM_yi hI9ξ.1)
      refine zp_call (pc := 38) (how := 0) (idx := 434) (mi := 177) (S := []) hx hb hEξ hwξ heffξ hrmξ (zX_tcy hWξ (fun o => A (zτb c9ξ o)) (fun o k => V (zτb c9ξ o) k)) rfl (j := 65) rfl rfl (by decide +kernel) (zd_X11_back (38, .invokevirtual 434, 3, 0, []) (List.mem_of_getElem? (i := 23) rfl)) [(A 1 : Int), (A c9ξ : Int)] rfl ⟨zp_o2 (zM_P hMξ (hYbξ _ (List.mem_of_getElem? (i := 1) rfl))), zp_o2 (zM_P hMξ (hI9ξ.2.1 (0, 93) (by decide))), trivial⟩ (Nat.le_of_ble_eq_true rfl) ⟨⟨_, hmTt499ξ, fun o k h => hVξ _ _ (zNc_b hI9ξ.1 h), trivial⟩, rfl, rfl⟩ (fun al halξ rnt499ξ Pt499 Gt499 hextt499ξ hfrt499ξ hokt499ξ hcst499ξ hpsit499ξ => ?_)
      obtain rfl := List.mem_singleton.mp halξ
      obtain ⟨hPet499ξ, ⟨Mt499, hMt499ξ, hVt499ξ, -⟩, hRt499ξ⟩ := hpsit499ξ
      subst hPet499ξ
      clear hextt499ξ hfrt499ξ hcst499ξ hokt499ξ
      have hM8t499ξ := zM_put (ρ := zρb) hMξ hMt499ξ (zIM_yy hYF0ξ hI9ξ) hRt499ξ (fun o d h => zρb_1 h) zρb_2 (zT_bks hMξ hYF0ξ hI9ξ.1 hVξ hVt499ξ)
      have hV8t499ξ : ∀ o k, zNc o → zPut zρb M Mt499 o k = zT_bk c9ξ V o k := zT_bkv hVξ hVt499ξ
      refine zp_load (pc := 41) hx hb (zd_X11_back (41, .aload_n 0, 1, 0, []) (List.mem_of_getElem? (i := 24) rfl)) rfl (j := 1) rfl ?_
      refine zp_getf (n := (A 3 : Int)) (pc := 42) hx hb hEξ hwξ (zd_X11_back (42, .getfield 23, 3, 0, []) (List.mem_of_getElem? (i := 25) rfl)) (j := 52) rfl rfl rfl (zM_P hM8t499ξ (hYbξ _ (List.mem_of_getElem? (i := 0) rfl))) ((zM_G hM8t499ξ (hYbξ _ (List.mem_of_getElem? (i := 0) rfl)) 2).trans (zM_F hM8t499ξ (hFbξ _ (List.mem_of_getElem? (i := 2) rfl)))) ?_
      refine zp_call (pc := 45) (how := 0) (idx := 124) (mi := 19) (S := []) hx hb hEξ hwξ heffξ hrmξ (zX_clr3 hWξ A Y F (zT_bk c9ξ V)) rfl (j := 13) rfl rfl (by decide +kernel) (zd_X11_back (45, .invokevirtual 124, 3, 0, []) (List.mem_of_getElem? (i := 26) rfl)) [(A 3 : Int)] rfl ⟨zp_o2 (zM_P hM8t499ξ (hYbξ _ (List.mem_of_getElem? (i := 3) rfl))), trivial⟩ (Nat.le_of_ble_eq_true rfl) ⟨⟨(zPut zρb M Mt499), hM8t499ξ, hV8t499ξ, trivial⟩, rfl, hYF0ξ⟩ (fun al halξ rna500ξ Pa500 Ga500 hexta500ξ hfra500ξ hoka500ξ hcsa500ξ hpsia500ξ => ?_)
      obtain rfl := List.mem_singleton.mp halξ
      obtain ⟨hPea500ξ, Ma500, hMa500ξ, hVa500ξ, hSba500ξ⟩ := hpsia500ξ
      subst hPea500ξ
      clear hexta500ξ hfra500ξ hcsa500ξ hoka500ξ
      have hVa500ξ : ∀ o k, zNc o → Ma500 o k = (zf_clr3 (zT_bk c9ξ V)).2 o k := hVa500ξ
      refine zp_load (pc := 48) hx hb (zd_X11_back (48, .aload_n 0, 1, 0, []) (List.mem_of_getElem? (i := 27) rfl)) rfl (j := 1) rfl ?_
      refine zp_const (pc := 49) hx hb (zd_X11_back (49, .iconst 0, 1, 0, []) (List.mem_of_getElem? (i := 28) rfl)) rfl rfl ?_
      refine zp_call (pc := 50) (how := 0) (idx := 118) (mi := 17) (S := []) hx hb hEξ hwξ heffξ hrmξ (zX_ans hWξ A Y F (zf_clr3 (zT_bk c9ξ V)).2) rfl (j := 12) rfl rfl (by decide +kernel) (zd_X11_back (50, .invokevirtual 118, 3, 0, []) (List.mem_of_getElem? (i := 29) rfl)) [(A 0 : Int), 0] rfl ⟨zp_o2 (zM_P hMa500ξ (hYbξ _ (List.mem_of_getElem? (i := 0) rfl))), zp_o0 (by omega) (by omega) (by omega) (by omega), trivial⟩ (Nat.le_of_ble_eq_true rfl) ⟨⟨Ma500, hMa500ξ, hVa500ξ, trivial⟩, rfl, hYF0ξ⟩ (fun al halξ rna501ξ Pa501 Ga501 hexta501ξ hfra501ξ hoka501ξ hcsa501ξ hpsia501ξ => ?_)
      obtain rfl := List.mem_singleton.mp halξ
      have hra501ξ := zp_int (hoka501ξ _ rfl).1
      obtain ⟨hPea501ξ, ⟨Ma501, hMa501ξ, hVa501ξ, hSba501ξ⟩, hta501ξ⟩ := hpsia501ξ
      subst hPea501ξ
      clear hexta501ξ hfra501ξ hcsa501ξ hoka501ξ
      have hVa501ξ : ∀ o k, zNc o → Ma501 o k = (zf_ans (zf_clr3 (zT_bk c9ξ V)).2 0).2 o k := hVa501ξ
      have hta501ξ : rna501ξ = ((zf_ans (zf_clr3 (zT_bk c9ξ V)).2 0).1) := hta501ξ
      have hta501ξ := (Eq.symm hta501ξ)
      subst hta501ξ
      have hrvξ : ((zf_ans (zf_clr3 (zT_bk c9ξ V)).2 0).1) = 0 := by rfl
      refine zp_iret (pc := 53) (n := ((zf_ans (zf_clr3 (zT_bk c9ξ V)).2 0).1)) hx hb hEξ hQξ hU5ξ rfl (by decide) (zd_X11_back (53, .ireturn, 1, 0, []) (List.mem_of_getElem? (i := 30) rfl)) (j := 0) rfl (zp_o0 (by rw [hrvξ]; omega) (by rw [hrvξ]; omega) (by rw [hrvξ]; omega) (by rw [hrvξ]; omega)) ?_
      rw [hpsξ]
      refine ⟨rfl, ?_⟩
      show (¬ (0 ≤ p1ξ ∧ p1ξ ≤ 1) ∧ ((zf_ans (zf_clr3 (zT_bk c9ξ V)).2 0).1) = -1 ∧ zMVc A Y F (zf_rfs V (-1)).2 u.1 _) ∨ ((0 ≤ p1ξ ∧ p1ξ ≤ 1) ∧ ((V 22 (2000 + p1ξ.toNat) = -1 ∧ ((zf_ans (zf_clr3 (zT_bk c9ξ V)).2 0).1) = -2 ∧ zMVc A Y F (zf_rfs V (-2)).2 u.1 _) ∨ ∃ c, V 22 (2000 + p1ξ.toNat) = (A c : Int) ∧ zIM Y F c ∧ ((zf_ans (zf_clr3 (zT_bk c9ξ V)).2 0).1) = 0 ∧ zMVc A Y F (zf_ans (zf_clr3 (zT_bk c V)).2 0).2 u.1 _))
      exact Or.inr ⟨by omega, Or.inr ⟨c9ξ, hc9ξ, hI9ξ, hrvξ, ⟨Ma501, hMa501ξ, hVa501ξ, trivial⟩⟩⟩
  · have hbf496ξ : ¬ (0 ≤ p1ξ ∧ p1ξ ≤ 1) := fun h9ξ => absurd ((Iff.mpr htn493ξ) h9ξ) (by omega)
    refine zp_load (pc := 9) hx hb (zd_X11_back (9, .aload_n 0, 1, 0, []) (List.mem_of_getElem? (i := 5) rfl)) rfl (j := 0) rfl ?_
    refine zp_const (pc := 10) hx hb (zd_X11_back (10, .iconst (-1), 1, 0, []) (List.mem_of_getElem? (i := 6) rfl)) rfl rfl ?_
    refine zp_call (pc := 11) (how := 0) (idx := 111) (mi := 16) (S := []) hx hb hEξ hwξ heffξ hrmξ (zX_rfs hWξ A Y F V) rfl (j := 11) rfl rfl (by decide +kernel) (zd_X11_back (11, .invokevirtual 111, 3, 0, []) (List.mem_of_getElem? (i := 7) rfl)) [(A 0 : Int), (-1)] rfl ⟨zp_o2 (zM_P hMξ (hYbξ _ (List.mem_of_getElem? (i := 0) rfl))), zp_o0 (by omega) (by omega) (by omega) (by omega), trivial⟩ (Nat.le_of_ble_eq_true rfl) ⟨⟨M, hMξ, hVξ, trivial⟩, rfl, hYF0ξ⟩ (fun al halξ rna502ξ Pa502 Ga502 hexta502ξ hfra502ξ hoka502ξ hcsa502ξ hpsia502ξ => ?_)
    obtain rfl := List.mem_singleton.mp halξ
    have hra502ξ := zp_int (hoka502ξ _ rfl).1
    obtain ⟨hPea502ξ, ⟨Ma502, hMa502ξ, hVa502ξ, hSba502ξ⟩, hta502ξ⟩ := hpsia502ξ
    subst hPea502ξ
    clear hexta502ξ hfra502ξ hcsa502ξ hoka502ξ
    have hVa502ξ : ∀ o k, zNc o → Ma502 o k = (zf_rfs V (-1)).2 o k := hVa502ξ
    have hta502ξ : rna502ξ = ((zf_rfs V (-1)).1) := hta502ξ
    have hta502ξ := (Eq.symm hta502ξ)
    subst hta502ξ
    have hrvξ : ((zf_rfs V (-1)).1) = -1 := by unfold zf_rfs; rw [if_neg (by decide), if_neg (by decide), if_neg (by decide), if_neg (by decide), if_neg (by decide), if_pos rfl]
    refine zp_iret (pc := 14) (n := ((zf_rfs V (-1)).1)) hx hb hEξ hQξ hU5ξ rfl (by decide) (zd_X11_back (14, .ireturn, 1, 0, []) (List.mem_of_getElem? (i := 8) rfl)) (j := 0) rfl (zp_o0 (by rw [hrvξ]; omega) (by rw [hrvξ]; omega) (by rw [hrvξ]; omega) (by rw [hrvξ]; omega)) ?_
    rw [hpsξ]
    refine ⟨rfl, ?_⟩
    show (¬ (0 ≤ p1ξ ∧ p1ξ ≤ 1) ∧ ((zf_rfs V (-1)).1) = -1 ∧ zMVc A Y F (zf_rfs V (-1)).2 u.1 _) ∨ ((0 ≤ p1ξ ∧ p1ξ ≤ 1) ∧ ((V 22 (2000 + p1ξ.toNat) = -1 ∧ ((zf_rfs V (-1)).1) = -2 ∧ zMVc A Y F (zf_rfs V (-2)).2 u.1 _) ∨ ∃ c, V 22 (2000 + p1ξ.toNat) = (A c : Int) ∧ zIM Y F c ∧ ((zf_rfs V (-1)).1) = 0 ∧ zMVc A Y F (zf_ans (zf_clr3 (zT_bk c V)).2 0).2 u.1 _))
    exact Or.inl ⟨by omega, hrvξ, ⟨Ma502, hMa502ξ, hVa502ξ, trivial⟩⟩
