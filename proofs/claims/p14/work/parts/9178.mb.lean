/-! part mb: images on both sides -/
/-- where an image of the class keeps the row's number j -/
noncomputable def zPi (c j : Nat) : Nat × Nat := (zτb c ((zPl j).1 + 100), (zPl j).2)
/-- the town's places -/
noncomputable def zPk (o k : Nat) : Prop := (o = 1 ∧ (k = 1 ∨ k = 3 ∨ k = 9 ∨ k = 14 ∨ k = 15 ∨ k = 16 ∨ k = 17)) ∨ (o = 2 ∧ (k = 3 ∨ k = 4 ∨ k = 5 ∨ k = 6)) ∨ ((o = 31 ∨ o = 50 ∨ o = 51) ∧ ∃ j, j < 6 ∧ k = 2000 + j) ∨ ((o = 32 ∨ o = 33 ∨ o = 34 ∨ o = 35 ∨ o = 36 ∨ o = 52) ∧ ∃ j, j < 10 ∧ k = 2000 + j) ∨ (o = 30 ∧ ∃ j, j < 64 ∧ k = 2000 + j) ∨ ((o = 37 ∨ o = 38 ∨ o = 39) ∧ ∃ j, j < 8 ∧ k = 2000 + j)
theorem zPk_l {j : Nat} (hj : j < 177) : zPk (zPl j).1 (zPl j).2 := by
  unfold zPl zPk
  by_cases c1 : j < 11
  · rw [if_pos c1]
    have h9 : j = 0 ∨ j = 1 ∨ j = 2 ∨ j = 3 ∨ j = 4 ∨ j = 5 ∨ j = 6 ∨ j = 7 ∨ j = 8 ∨ j = 9 ∨ j = 10 := by omega
    rcases h9 with rfl | rfl | rfl | rfl | rfl | rfl | rfl | rfl | rfl | rfl | rfl <;> simp
  rw [if_neg c1]
  by_cases c2 : j < 29
  · rw [if_pos c2]
    by_cases d0 : (j - 11) % 3 = 0
    · rw [if_pos d0]
      exact Or.inr (Or.inr (Or.inl ⟨Or.inr (Or.inl rfl), (j - 11) / 3, by omega, rfl⟩))
    · rw [if_neg d0]
      by_cases d1 : (j - 11) % 3 = 1
      · rw [if_pos d1]
        exact Or.inr (Or.inr (Or.inl ⟨Or.inl rfl, (j - 11) / 3, by omega, rfl⟩))
      · rw [if_neg d1]
        exact Or.inr (Or.inr (Or.inl ⟨Or.inr (Or.inr rfl), (j - 11) / 3, by omega, rfl⟩))
  rw [if_neg c2]
  by_cases c3 : j < 39
  · rw [if_pos c3]
    exact Or.inr (Or.inr (Or.inr (Or.inl ⟨by simp, j - 29, by omega, rfl⟩)))
  rw [if_neg c3]
  by_cases c4 : j < 89
  · rw [if_pos c4]
    exact Or.inr (Or.inr (Or.inr (Or.inl ⟨by show 32 + (j - 39) % 5 = 32 ∨ 32 + (j - 39) % 5 = 33 ∨ 32 + (j - 39) % 5 = 34 ∨ 32 + (j - 39) % 5 = 35 ∨ 32 + (j - 39) % 5 = 36 ∨ 32 + (j - 39) % 5 = 52; omega, (j - 39) / 5, by omega, rfl⟩)))
  rw [if_neg c4]
  by_cases c5 : j < 153
  · rw [if_pos c5]
    exact Or.inr (Or.inr (Or.inr (Or.inr (Or.inl ⟨rfl, j - 89, by omega, rfl⟩))))
  rw [if_neg c5]
  exact Or.inr (Or.inr (Or.inr (Or.inr (Or.inr ⟨by show 37 + (j - 153) % 3 = 37 ∨ 37 + (j - 153) % 3 = 38 ∨ 37 + (j - 153) % 3 = 39; omega, (j - 153) / 3, by omega, rfl⟩))))
theorem zPk_o {o k : Nat} (h : zPk o k) : o = 1 ∨ o = 2 ∨ (30 ≤ o ∧ o ≤ 40) ∨ (50 ≤ o ∧ o ≤ 52) := by
  unfold zPk at h
  rcases h with ⟨h, -⟩ | ⟨h, -⟩ | ⟨h, -⟩ | ⟨h, -⟩ | ⟨h, -⟩ | ⟨h, -⟩ <;> omega
theorem zcp_at {M : Nat → Nat → Int} {o1 o2 n j : Nat} (h : j < n) : zc_cp M o1 0 o2 0 n o2 (2000 + j) = M o1 (2000 + j) := by
  rw [zc_cp_e (Nat.zero_le _) (by omega)]
  exact congrArg (fun z => M o1 (2000 + z)) (by omega)
set_option maxHeartbeats 4000000 in
theorem zcy_p {X : Nat → Nat → Int} {o k : Nat} (h : zPk o k) : (zf_tcy X).2 o k = X (o + 100) k := by
  unfold zf_tcy zf_gcy
  unfold zPk at h
  rcases h with ⟨rfl, h⟩ | ⟨rfl, h⟩ | ⟨h, j, hj, rfl⟩ | ⟨h, j, hj, rfl⟩ | ⟨rfl, j, hj, rfl⟩ | ⟨h, j, hj, rfl⟩
  · rcases h with rfl | rfl | rfl | rfl | rfl | rfl | rfl <;> simp (disch := omega) only [zp_set_ne, zp_set_self, zc_cp_o, zc_cp_f, zcp_at]
  · rcases h with rfl | rfl | rfl | rfl <;> simp (disch := omega) only [zp_set_ne, zp_set_self, zc_cp_o, zc_cp_f, zcp_at]
  · rcases h with rfl | rfl | rfl <;> simp (disch := omega) only [zp_set_ne, zp_set_self, zc_cp_o, zc_cp_f, zcp_at]
  · rcases h with rfl | rfl | rfl | rfl | rfl | rfl <;> simp (disch := omega) only [zp_set_ne, zp_set_self, zc_cp_o, zc_cp_f, zcp_at]
  · simp (disch := omega) only [zp_set_ne, zp_set_self, zc_cp_o, zc_cp_f, zcp_at]
  · rcases h with rfl | rfl | rfl <;> simp (disch := omega) only [zp_set_ne, zp_set_self, zc_cp_o, zc_cp_f, zcp_at]
set_option maxHeartbeats 4000000 in
theorem zcy_l {X : Nat → Nat → Int} {i : Nat} (h : i < 6) : (zf_tcy X).2 40 (2000 + i) = X 140 (2000 + i) := by
  unfold zf_tcy zf_gcy
  have h9 : i = 0 ∨ i = 1 ∨ i = 2 ∨ i = 3 ∨ i = 4 ∨ i = 5 := by omega
  rcases h9 with rfl | rfl | rfl | rfl | rfl | rfl <;> simp (disch := omega) only [zp_set_ne, zp_set_self, zc_cp_o, zc_cp_f, zcp_at]
set_option maxHeartbeats 4000000 in
theorem zcz_p {X : Nat → Nat → Int} {o k : Nat} (h : zPk o k) : (zf_tcz X).2 o k = X (o + 100) k := by
  unfold zf_tcz zf_gcz
  unfold zPk at h
  rcases h with ⟨rfl, h⟩ | ⟨rfl, h⟩ | ⟨h, j, hj, rfl⟩ | ⟨h, j, hj, rfl⟩ | ⟨rfl, j, hj, rfl⟩ | ⟨h, j, hj, rfl⟩
  · rcases h with rfl | rfl | rfl | rfl | rfl | rfl | rfl <;> simp (disch := omega) only [zp_set_ne, zp_set_self, zc_cp_o, zc_cp_f, zcp_at]
  · rcases h with rfl | rfl | rfl | rfl <;> simp (disch := omega) only [zp_set_ne, zp_set_self, zc_cp_o, zc_cp_f, zcp_at]
  · rcases h with rfl | rfl | rfl <;> simp (disch := omega) only [zp_set_ne, zp_set_self, zc_cp_o, zc_cp_f, zcp_at]
  · rcases h with rfl | rfl | rfl | rfl | rfl | rfl <;> simp (disch := omega) only [zp_set_ne, zp_set_self, zc_cp_o, zc_cp_f, zcp_at]
  · simp (disch := omega) only [zp_set_ne, zp_set_self, zc_cp_o, zc_cp_f, zcp_at]
  · rcases h with rfl | rfl | rfl <;> simp (disch := omega) only [zp_set_ne, zp_set_self, zc_cp_o, zc_cp_f, zcp_at]
set_option maxHeartbeats 4000000 in
theorem zcz_l {X : Nat → Nat → Int} {i : Nat} (h : i < 6) : (zf_tcz X).2 40 (2000 + i) = X 140 (2000 + i) := by
  unfold zf_tcz zf_gcz
  have h9 : i = 0 ∨ i = 1 ∨ i = 2 ∨ i = 3 ∨ i = 4 ∨ i = 5 := by omega
  rcases h9 with rfl | rfl | rfl | rfl | rfl | rfl <;> simp (disch := omega) only [zp_set_ne, zp_set_self, zc_cp_o, zc_cp_f, zcp_at]
/-- back: the town's places as the image's -/
theorem zT_bk_p {c j : Nat} {V : Nat → Nat → Int} (hj : j < 177) : zT_bk c V (zPl j).1 (zPl j).2 = V (zPi c j).1 (zPi c j).2 := by
  have hp := zPk_l hj
  have hr : zρb (zPl j).1 = some (zPl j).1 := by
    unfold zρb
    exact if_pos (zPk_o hp)
  unfold zT_bk
  rw [zPut_s hr, zcy_p hp]
  rfl
theorem zT_bk_l {c i : Nat} {V : Nat → Nat → Int} (hi : i < 6) (hc : 100 ≤ c) : zT_bk c V 40 (2000 + i) = V (c + 11) (2000 + i) := by
  unfold zT_bk
  rw [zPut_s (ρ := zρb) (o := 40) (d := 40) rfl, zcy_l hi]
  show V (zτb c 140) (2000 + i) = _
  rw [show zτb c 140 = c + 11 by unfold zτb; rw [if_neg (by decide), if_neg (by decide), if_neg (by decide), if_pos (by decide)]]
set_option maxHeartbeats 4000000 in
theorem zcy_h {X : Nat → Nat → Int} {o : Nat} (h : o = 37 ∨ o = 38 ∨ o = 39) : (zf_tcy X).2 o (2000 + 8) = X o (2000 + 8) := by
  unfold zf_tcy zf_gcy
  rcases h with rfl | rfl | rfl
  · show zc_cp (zc_cp (zc_cp _ 150 0 50 0 6) 151 0 51 0 6) 152 0 52 0 10 37 (2000 + 8) = _
    simp (disch := omega) only [zp_set_ne, zc_cp_o, zc_cp_n]
  · show zc_cp (zc_cp (zc_cp _ 150 0 50 0 6) 151 0 51 0 6) 152 0 52 0 10 38 (2000 + 8) = _
    simp (disch := omega) only [zp_set_ne, zc_cp_o, zc_cp_n]
  · show zc_cp (zc_cp (zc_cp _ 150 0 50 0 6) 151 0 51 0 6) 152 0 52 0 10 39 (2000 + 8) = _
    simp (disch := omega) only [zp_set_ne, zc_cp_o, zc_cp_n]
theorem zT_bk_h {c o : Nat} {V : Nat → Nat → Int} (h : o = 37 ∨ o = 38 ∨ o = 39) : zT_bk c V o (2000 + 8) = V o (2000 + 8) := by
  have hr : zρb o = some o := by
    unfold zρb
    exact if_pos (by omega)
  unfold zT_bk
  rw [zPut_s hr, zcy_h h]
  show V (zτb c o) (2000 + 8) = _
  rw [show zτb c o = o by unfold zτb; exact if_pos (by omega)]
theorem zT_bk_o {c o k : Nat} {V : Nat → Nat → Int} (h : ¬ (o = 1 ∨ o = 2 ∨ (30 ≤ o ∧ o ≤ 40) ∨ (50 ≤ o ∧ o ≤ 52))) : zT_bk c V o k = V o k := by
  unfold zT_bk
  exact zPut_n (by unfold zρb; exact if_neg h)
/-- image: the image's places as the town's -/
theorem zρi_t {c d : Nat} (hd : d ∈ ([1, 2, 30, 31, 32, 33, 34, 35, 36, 37, 38, 39, 40, 50, 51, 52] : List Nat)) : zρi c (zτb c (d + 100)) = some d := by
  have h9 : zτb c (d + 100) = zτi c d := by
    simp only [List.mem_cons, List.not_mem_nil, or_false] at hd
    unfold zτb zτi
    rcases hd with rfl | rfl | rfl | rfl | rfl | rfl | rfl | rfl | rfl | rfl | rfl | rfl | rfl | rfl | rfl | rfl <;> rfl
  rw [h9]
  exact (zρi_2 d hd).1
theorem zPk_d {o k : Nat} (h : zPk o k) : o ∈ ([1, 2, 30, 31, 32, 33, 34, 35, 36, 37, 38, 39, 40, 50, 51, 52] : List Nat) := by
  simp only [List.mem_cons, List.not_mem_nil, or_false]
  unfold zPk at h
  rcases h with ⟨h, -⟩ | ⟨h, -⟩ | ⟨h, -⟩ | ⟨h, -⟩ | ⟨h, -⟩ | ⟨h, -⟩ <;> omega
theorem zT_im_p {c j : Nat} {V : Nat → Nat → Int} (hj : j < 177) (hc : 100 ≤ c) : zT_im c V (zPi c j).1 (zPi c j).2 = V (zPl j).1 (zPl j).2 := by
  have hp := zPk_l hj
  unfold zT_im
  show zPut (zρi c) V (zf_tcz (fun o k => V (zτi c o) k)).2 (zτb c ((zPl j).1 + 100)) (zPl j).2 = _
  rw [zPut_s (zρi_t (zPk_d hp))]
  show (zf_tcz (fun o k => V (zτi c o) k)).2 (zPl j).1 (zPl j).2 = _
  rw [zcz_p hp]
  show V (zτi c ((zPl j).1 + 100)) (zPl j).2 = _
  rw [show zτi c ((zPl j).1 + 100) = (zPl j).1 by unfold zτi; rw [if_pos (by omega)]; omega]
theorem zT_im_l {c i : Nat} {V : Nat → Nat → Int} (hi : i < 6) : zT_im c V (c + 11) (2000 + i) = V 40 (2000 + i) := by
  have hr : zρi c (c + 11) = some 40 := by
    unfold zρi
    rw [if_pos (by omega), if_neg (by omega), if_neg (by omega), if_pos (by omega)]
    exact congrArg some (by omega)
  unfold zT_im
  rw [zPut_s hr, zcz_l hi]
  rfl
theorem zT_im_o {c o k : Nat} {V : Nat → Nat → Int} (h : ¬ (c ≤ o ∧ o < c + 16)) : zT_im c V o k = V o k := by
  unfold zT_im
  exact zPut_n (by unfold zρi; exact if_neg h)
/-- a new image, as cells -/
noncomputable def zBt (cp c : Nat) (b : Nat → Nat) (o : Nat) : Nat := if o = c then cp else if o = c + 12 then b 2 else if o < c + 12 then b (o - c + 29) else b (o - c + 37)
theorem zBt_0 {cp c : Nat} {b : Nat → Nat} : zBt cp c b (c + 0) = cp := if_pos rfl
theorem zBt_1 {cp c : Nat} {b : Nat → Nat} : zBt cp c b (c + 1) = b 30 := by
  unfold zBt
  rw [if_neg (by omega), if_neg (by omega), if_pos (by omega)]
  exact congrArg b (by omega)
theorem zBt_2 {cp c : Nat} {b : Nat → Nat} : zBt cp c b (c + 2) = b 31 := by
  unfold zBt
  rw [if_neg (by omega), if_neg (by omega), if_pos (by omega)]
  exact congrArg b (by omega)
theorem zBt_3 {cp c : Nat} {b : Nat → Nat} : zBt cp c b (c + 3) = b 32 := by
  unfold zBt
  rw [if_neg (by omega), if_neg (by omega), if_pos (by omega)]
  exact congrArg b (by omega)
theorem zBt_4 {cp c : Nat} {b : Nat → Nat} : zBt cp c b (c + 4) = b 33 := by
  unfold zBt
  rw [if_neg (by omega), if_neg (by omega), if_pos (by omega)]
  exact congrArg b (by omega)
theorem zBt_5 {cp c : Nat} {b : Nat → Nat} : zBt cp c b (c + 5) = b 34 := by
  unfold zBt
  rw [if_neg (by omega), if_neg (by omega), if_pos (by omega)]
  exact congrArg b (by omega)
theorem zBt_6 {cp c : Nat} {b : Nat → Nat} : zBt cp c b (c + 6) = b 35 := by
  unfold zBt
  rw [if_neg (by omega), if_neg (by omega), if_pos (by omega)]
  exact congrArg b (by omega)
theorem zBt_7 {cp c : Nat} {b : Nat → Nat} : zBt cp c b (c + 7) = b 36 := by
  unfold zBt
  rw [if_neg (by omega), if_neg (by omega), if_pos (by omega)]
  exact congrArg b (by omega)
theorem zBt_8 {cp c : Nat} {b : Nat → Nat} : zBt cp c b (c + 8) = b 37 := by
  unfold zBt
  rw [if_neg (by omega), if_neg (by omega), if_pos (by omega)]
  exact congrArg b (by omega)
theorem zBt_9 {cp c : Nat} {b : Nat → Nat} : zBt cp c b (c + 9) = b 38 := by
  unfold zBt
  rw [if_neg (by omega), if_neg (by omega), if_pos (by omega)]
  exact congrArg b (by omega)
theorem zBt_10 {cp c : Nat} {b : Nat → Nat} : zBt cp c b (c + 10) = b 39 := by
  unfold zBt
  rw [if_neg (by omega), if_neg (by omega), if_pos (by omega)]
  exact congrArg b (by omega)
theorem zBt_11 {cp c : Nat} {b : Nat → Nat} : zBt cp c b (c + 11) = b 40 := by
  unfold zBt
  rw [if_neg (by omega), if_neg (by omega), if_pos (by omega)]
  exact congrArg b (by omega)
theorem zBt_12 {cp c : Nat} {b : Nat → Nat} : zBt cp c b (c + 12) = b 2 := by
  unfold zBt
  rw [if_neg (by omega), if_pos rfl]
theorem zBt_13 {cp c : Nat} {b : Nat → Nat} : zBt cp c b (c + 13) = b 50 := by
  unfold zBt
  rw [if_neg (by omega), if_neg (by omega), if_neg (by omega)]
  exact congrArg b (by omega)
theorem zBt_14 {cp c : Nat} {b : Nat → Nat} : zBt cp c b (c + 14) = b 51 := by
  unfold zBt
  rw [if_neg (by omega), if_neg (by omega), if_neg (by omega)]
  exact congrArg b (by omega)
theorem zBt_15 {cp c : Nat} {b : Nat → Nat} : zBt cp c b (c + 15) = b 52 := by
  unfold zBt
  rw [if_neg (by omega), if_neg (by omega), if_neg (by omega)]
  exact congrArg b (by omega)
theorem zBt_t {cp c : Nat} {b : Nat → Nat} {d : Nat} (hd : d ∈ ([1, 2, 30, 31, 32, 33, 34, 35, 36, 37, 38, 39, 40, 50, 51, 52] : List Nat)) : zBt cp c b (zτb c (d + 100)) = zTwA cp b d ∧ c ≤ zτb c (d + 100) ∧ zτb c (d + 100) < c + 16 := by
  simp only [List.mem_cons, List.not_mem_nil, or_false] at hd
  unfold zBt zTwA zτb
  rcases hd with rfl | rfl | rfl | rfl | rfl | rfl | rfl | rfl | rfl | rfl | rfl | rfl | rfl | rfl | rfl | rfl
  all_goals simp
theorem zN_town {A : Nat → Nat} {Y : List (Nat × Nat)} {F : List (Nat × Nat × Nat)} {W : Nat → Nat → Int} {P P' : Nat → Option Nat} {G' : Nat → Nat → Int} {cp : Nat} {b : Nat → Nat} (hY : zMc Y F) (hold : ∀ q ∈ Y, P (A q.1) = some q.2) (h : zMVc A Y F W P' G') (n1 : P cp = none ∧ P' cp = some 93) (n2 : ∀ q ∈ zTW, G' cp q.1 = (b q.2.1 : Int) ∧ P' (b q.2.1) = some q.2.2 ∧ P (b q.2.1) = none) (n3 : ∀ i : Nat, i < 3 → G' (b 2) i = (b (50 + i) : Int) ∧ P' (b (50 + i)) = some (17 + i) ∧ P (b (50 + i)) = none) : ∃ A' Y' F' W' c, zExt A Y F A' Y' F' ∧ zMc Y' F' ∧ zMVc A' Y' F' W' P' G' ∧ (∀ o k, o < 100 → A' o = A o ∧ W' o k = W o k) ∧ (∀ q ∈ Y, ∀ k, W' q.1 k = W q.1 k) ∧ (∀ q ∈ Y, q.1 < c) ∧ A' c = cp ∧ zIM Y' F' c ∧ ∀ o k, c ≤ o → o < c + 16 → W' o k = G' (zBt cp c b o) k := by
  obtain ⟨c, hcd⟩ : ∃ c, c = max (zFrY Y) (zFrF F) := ⟨_, rfl⟩
  have hc := zFr_c (Y := Y) (F := F)
  rw [← hcd] at hc
  have m2 : ∀ f d t : Nat, (f, d, t) ∈ zTW → G' cp f = (b d : Int) ∧ P' (b d) = some t ∧ P (b d) = none := fun f d t hm => n2 _ hm
  have hB : ∀ q ∈ zIMy, P (zBt cp c b (c + q.1)) = none ∧ P' (zBt cp c b (c + q.1)) = some q.2 ∧ q.2 ∈ zTY := by
    intro q hq
    simp only [zIMy, List.mem_cons, List.not_mem_nil, or_false] at hq
    rcases hq with rfl | rfl | rfl | rfl | rfl | rfl | rfl | rfl | rfl | rfl | rfl | rfl | rfl | rfl | rfl | rfl
    · refine ⟨?_, ?_, show (93 : Nat) ∈ zTY by decide⟩
      · rw [zBt_0]
        exact n1.1
      · rw [zBt_0]
        exact n1.2
    · have h9 := m2 18 2 2 (by decide)
      refine ⟨?_, ?_, show (2 : Nat) ∈ zTY by decide⟩
      · rw [zBt_12]
        exact h9.2.2
      · rw [zBt_12]
        exact h9.2.1
    · have h9 := m2 0 30 42 (by decide)
      refine ⟨?_, ?_, show (42 : Nat) ∈ zTY by decide⟩
      · rw [zBt_1]
        exact h9.2.2
      · rw [zBt_1]
        exact h9.2.1
    · have h9 := m2 2 31 43 (by decide)
      refine ⟨?_, ?_, show (43 : Nat) ∈ zTY by decide⟩
      · rw [zBt_2]
        exact h9.2.2
      · rw [zBt_2]
        exact h9.2.1
    · have h9 := m2 4 32 44 (by decide)
      refine ⟨?_, ?_, show (44 : Nat) ∈ zTY by decide⟩
      · rw [zBt_3]
        exact h9.2.2
      · rw [zBt_3]
        exact h9.2.1
    · have h9 := m2 5 33 45 (by decide)
      refine ⟨?_, ?_, show (45 : Nat) ∈ zTY by decide⟩
      · rw [zBt_4]
        exact h9.2.2
      · rw [zBt_4]
        exact h9.2.1
    · have h9 := m2 6 34 46 (by decide)
      refine ⟨?_, ?_, show (46 : Nat) ∈ zTY by decide⟩
      · rw [zBt_5]
        exact h9.2.2
      · rw [zBt_5]
        exact h9.2.1
    · have h9 := m2 7 35 47 (by decide)
      refine ⟨?_, ?_, show (47 : Nat) ∈ zTY by decide⟩
      · rw [zBt_6]
        exact h9.2.2
      · rw [zBt_6]
        exact h9.2.1
    · have h9 := m2 8 36 48 (by decide)
      refine ⟨?_, ?_, show (48 : Nat) ∈ zTY by decide⟩
      · rw [zBt_7]
        exact h9.2.2
      · rw [zBt_7]
        exact h9.2.1
    · have h9 := m2 10 37 49 (by decide)
      refine ⟨?_, ?_, show (49 : Nat) ∈ zTY by decide⟩
      · rw [zBt_8]
        exact h9.2.2
      · rw [zBt_8]
        exact h9.2.1
    · have h9 := m2 11 38 50 (by decide)
      refine ⟨?_, ?_, show (50 : Nat) ∈ zTY by decide⟩
      · rw [zBt_9]
        exact h9.2.2
      · rw [zBt_9]
        exact h9.2.1
    · have h9 := m2 12 39 51 (by decide)
      refine ⟨?_, ?_, show (51 : Nat) ∈ zTY by decide⟩
      · rw [zBt_10]
        exact h9.2.2
      · rw [zBt_10]
        exact h9.2.1
    · have h9 := m2 13 40 52 (by decide)
      refine ⟨?_, ?_, show (52 : Nat) ∈ zTY by decide⟩
      · rw [zBt_11]
        exact h9.2.2
      · rw [zBt_11]
        exact h9.2.1
    · refine ⟨?_, ?_, show (17 : Nat) ∈ zTY by decide⟩
      · rw [zBt_13]
        exact (n3 0 (by decide)).2.2
      · rw [zBt_13]
        exact (n3 0 (by decide)).2.1
    · refine ⟨?_, ?_, show (18 : Nat) ∈ zTY by decide⟩
      · rw [zBt_14]
        exact (n3 1 (by decide)).2.2
      · rw [zBt_14]
        exact (n3 1 (by decide)).2.1
    · refine ⟨?_, ?_, show (19 : Nat) ∈ zTY by decide⟩
      · rw [zBt_15]
        exact (n3 2 (by decide)).2.2
      · rw [zBt_15]
        exact (n3 2 (by decide)).2.1
  have hFB : ∀ r ∈ zIMf, G' (zBt cp c b (c + r.1)) r.2.1 = (zBt cp c b (c + r.2.2) : Int) ∧ r.2.1 < 1000 ∧ ∃ t, (r.1, t) ∈ zIMy ∧ (t, r.2.1) ∈ zTF := by
    clear hB
    intro r hr
    simp only [zIMf, List.mem_cons, List.not_mem_nil, or_false] at hr
    rcases hr with rfl | rfl | rfl | rfl | rfl | rfl | rfl | rfl | rfl | rfl | rfl | rfl | rfl | rfl | rfl
    · have h9 := m2 0 30 42 (by decide)
      refine ⟨?_, show (0 : Nat) < 1000 by decide, 93, by decide, by decide⟩
      rw [zBt_0, zBt_1]
      exact h9.1
    · have h9 := m2 2 31 43 (by decide)
      refine ⟨?_, show (2 : Nat) < 1000 by decide, 93, by decide, by decide⟩
      rw [zBt_0, zBt_2]
      exact h9.1
    · have h9 := m2 4 32 44 (by decide)
      refine ⟨?_, show (4 : Nat) < 1000 by decide, 93, by decide, by decide⟩
      rw [zBt_0, zBt_3]
      exact h9.1
    · have h9 := m2 5 33 45 (by decide)
      refine ⟨?_, show (5 : Nat) < 1000 by decide, 93, by decide, by decide⟩
      rw [zBt_0, zBt_4]
      exact h9.1
    · have h9 := m2 6 34 46 (by decide)
      refine ⟨?_, show (6 : Nat) < 1000 by decide, 93, by decide, by decide⟩
      rw [zBt_0, zBt_5]
      exact h9.1
    · have h9 := m2 7 35 47 (by decide)
      refine ⟨?_, show (7 : Nat) < 1000 by decide, 93, by decide, by decide⟩
      rw [zBt_0, zBt_6]
      exact h9.1
    · have h9 := m2 8 36 48 (by decide)
      refine ⟨?_, show (8 : Nat) < 1000 by decide, 93, by decide, by decide⟩
      rw [zBt_0, zBt_7]
      exact h9.1
    · have h9 := m2 10 37 49 (by decide)
      refine ⟨?_, show (10 : Nat) < 1000 by decide, 93, by decide, by decide⟩
      rw [zBt_0, zBt_8]
      exact h9.1
    · have h9 := m2 11 38 50 (by decide)
      refine ⟨?_, show (11 : Nat) < 1000 by decide, 93, by decide, by decide⟩
      rw [zBt_0, zBt_9]
      exact h9.1
    · have h9 := m2 12 39 51 (by decide)
      refine ⟨?_, show (12 : Nat) < 1000 by decide, 93, by decide, by decide⟩
      rw [zBt_0, zBt_10]
      exact h9.1
    · have h9 := m2 13 40 52 (by decide)
      refine ⟨?_, show (13 : Nat) < 1000 by decide, 93, by decide, by decide⟩
      rw [zBt_0, zBt_11]
      exact h9.1
    · have h9 := m2 18 2 2 (by decide)
      refine ⟨?_, show (18 : Nat) < 1000 by decide, 93, by decide, by decide⟩
      rw [zBt_0, zBt_12]
      exact h9.1
    · refine ⟨?_, show (0 : Nat) < 1000 by decide, 2, by decide, by decide⟩
      rw [zBt_12, zBt_13]
      exact (n3 0 (by decide)).1
    · refine ⟨?_, show (1 : Nat) < 1000 by decide, 2, by decide, by decide⟩
      rw [zBt_12, zBt_14]
      exact (n3 1 (by decide)).1
    · refine ⟨?_, show (2 : Nat) < 1000 by decide, 2, by decide, by decide⟩
      rw [zBt_12, zBt_15]
      exact (n3 2 (by decide)).1
  obtain ⟨A', W', e1, e2, e3, e4, e5⟩ := zN_ext (B := zBt cp c b) (Y2 := zIMy.map (fun q => (c + q.1, q.2))) (F2 := zIMf.map (fun r => (c + r.1, r.2.1, c + r.2.2))) hY hc hold h (fun q hq => by
    obtain ⟨q0, h0, rfl⟩ := List.mem_map.mp hq
    obtain ⟨g1, g2, g3⟩ := hB q0 h0
    exact ⟨Nat.le_add_right _ _, g1, g2, g3⟩) (fun q hq r hr he => by
    obtain ⟨q0, h0, rfl⟩ := List.mem_map.mp hq
    obtain ⟨r0, k0, rfl⟩ := List.mem_map.mp hr
    have h9 : ∀ q ∈ zIMy, ∀ r ∈ zIMy, q.2 = r.2 → q.1 = r.1 := by decide
    have h8 := h9 q0 h0 r0 k0 he
    show c + q0.1 = c + r0.1
    rw [h8]) (fun r hr => by
    obtain ⟨r0, h0, rfl⟩ := List.mem_map.mp hr
    obtain ⟨g1, g2, t, g3, g4⟩ := hFB r0 h0
    exact ⟨Nat.le_add_right _ _, Nat.le_add_right _ _, g1, g2, t, List.mem_map.mpr ⟨(r0.1, t), g3, rfl⟩, g4⟩)
  refine ⟨A', _, _, W', c, e1, e2, e3, fun o k ho => ⟨(e4 o (by omega)).1, (e4 o (by omega)).2 k⟩, fun q hq k => (e4 q.1 (hc.2.1 q hq)).2 k, hc.2.1, ?_, ⟨hc.1, fun q hq => ?_, fun r hr => ?_⟩, fun o k h1 h2 => (e5 o h1).2 k⟩
  · rw [(e5 c (Nat.le_refl _)).1]
    exact if_pos rfl
  · exact List.mem_append_right _ (List.mem_map.mpr ⟨q, hq, rfl⟩)
  · exact List.mem_append_right _ (List.mem_map.mpr ⟨r, hr, rfl⟩)
