/-! part a7: the rows of words that the class asks for (pure) -/
theorem zs_sm_sp {S B : Nat → Int} {st b : Nat} (h : S b = 32) : zs_sm S B st (b + 1) = 0 := by
  show (if S b = 32 then (0 : Int) else _) = 0
  exact if_pos h
noncomputable def za_lc : Nat → Int := fun j => ((([114, 117, 110, 115, 32, 115, 112, 101, 101, 100, 115, 32, 119, 101, 97, 114, 115, 32, 115, 110, 97, 112, 115, 32, 98, 97, 114, 115] : List Nat).getD j 0 : Nat) : Int)
theorem zaw_lc {B : Nat → Int} {st m : Nat} (hB : ∀ i, i < m → 97 ≤ B (st + i) ∧ B (st + i) ≤ 122) : zs_g za_lc 28 B st (m : Int) 0 = if zy_ww B st m = 611795 then 0 else if zy_ww B st m = 654480531 then 1 else if zy_ww B st m = 24282707 then 2 else if zy_ww B st m = 20383251 then 3 else if zy_ww B st m = 67155 then 4 else -1 := by
  rw [zs_pass (S := za_lc) (B := B) (st := st) (a := 0) (b := 4) (n := 28) (m := m) rfl (by decide) (by decide) (by decide +kernel) (by decide +kernel) hB (by decide), show zy_en (zy_ls za_lc 0 (4 - 0)) = 611795 by decide +kernel, show ((zs_ix za_lc 4 : Nat) : Int) = 0 by decide +kernel]
  by_cases h0 : zy_ww B st m = 611795
  · rw [if_pos h0, if_pos h0]
  rw [if_neg h0, if_neg h0]
  rw [zs_pass (S := za_lc) (B := B) (st := st) (a := 5) (b := 11) (n := 28) (m := m) (zs_sm_sp (b := 4) (by decide +kernel)) (by decide) (by decide) (by decide +kernel) (by decide +kernel) hB (by decide), show zy_en (zy_ls za_lc 5 (11 - 5)) = 654480531 by decide +kernel, show ((zs_ix za_lc 11 : Nat) : Int) = 1 by decide +kernel]
  by_cases h1 : zy_ww B st m = 654480531
  · rw [if_pos h1, if_pos h1]
  rw [if_neg h1, if_neg h1]
  rw [zs_pass (S := za_lc) (B := B) (st := st) (a := 12) (b := 17) (n := 28) (m := m) (zs_sm_sp (b := 11) (by decide +kernel)) (by decide) (by decide) (by decide +kernel) (by decide +kernel) hB (by decide), show zy_en (zy_ls za_lc 12 (17 - 12)) = 24282707 by decide +kernel, show ((zs_ix za_lc 17 : Nat) : Int) = 2 by decide +kernel]
  by_cases h2 : zy_ww B st m = 24282707
  · rw [if_pos h2, if_pos h2]
  rw [if_neg h2, if_neg h2]
  rw [zs_pass (S := za_lc) (B := B) (st := st) (a := 18) (b := 23) (n := 28) (m := m) (zs_sm_sp (b := 17) (by decide +kernel)) (by decide) (by decide) (by decide +kernel) (by decide +kernel) hB (by decide), show zy_en (zy_ls za_lc 18 (23 - 18)) = 20383251 by decide +kernel, show ((zs_ix za_lc 23 : Nat) : Int) = 3 by decide +kernel]
  by_cases h3 : zy_ww B st m = 20383251
  · rw [if_pos h3, if_pos h3]
  rw [if_neg h3, if_neg h3]
  rw [zs_pass (S := za_lc) (B := B) (st := st) (a := 24) (b := 28) (n := 28) (m := m) (zs_sm_sp (b := 23) (by decide +kernel)) (by decide) (by decide) (by decide +kernel) (by decide +kernel) hB (by decide), show zy_en (zy_ls za_lc 24 (28 - 24)) = 67155 by decide +kernel, show ((zs_ix za_lc 28 : Nat) : Int) = 4 by decide +kernel]
  by_cases h4 : zy_ww B st m = 67155
  · rw [if_pos h4, if_pos h4]
  rw [if_neg h4, if_neg h4]
  exact zs_g_end (by decide)
noncomputable def za_lw : Nat → Int := fun j => ((([116, 117, 114, 110, 115, 32, 112, 111, 119, 101, 114, 32, 104, 111, 117, 114, 32, 112, 101, 114, 115, 111, 110, 32, 111, 105, 108, 32, 108, 105, 116, 116, 108, 101, 32, 108, 105, 102, 101, 32, 100, 97, 121, 32, 109, 111, 111, 100] : List Nat).getD j 0 : Nat) : Int)
theorem zaw_lw {B : Nat → Int} {st m : Nat} (hB : ∀ i, i < m → 97 ≤ B (st + i) ∧ B (st + i) ≤ 122) : zs_g za_lw 48 B st (m : Int) 0 = if zy_ww B st m = 21678547 then 0 else if zy_ww B st m = 17292466 then 1 else if zy_ww B st m = 278194 then 2 else if zy_ww B st m = 542723566 then 3 else if zy_ww B st m = 15660 then 4 else if zy_ww B st m = 412766597 then 5 else if zy_ww B st m = 402629 then 6 else if zy_ww B st m = 4153 then 7 else if zy_ww B st m = 441828 then 8 else -1 := by
  rw [zs_pass (S := za_lw) (B := B) (st := st) (a := 0) (b := 5) (n := 48) (m := m) rfl (by decide) (by decide) (by decide +kernel) (by decide +kernel) hB (by decide), show zy_en (zy_ls za_lw 0 (5 - 0)) = 21678547 by decide +kernel, show ((zs_ix za_lw 5 : Nat) : Int) = 0 by decide +kernel]
  by_cases h0 : zy_ww B st m = 21678547
  · rw [if_pos h0, if_pos h0]
  rw [if_neg h0, if_neg h0]
  rw [zs_pass (S := za_lw) (B := B) (st := st) (a := 6) (b := 11) (n := 48) (m := m) (zs_sm_sp (b := 5) (by decide +kernel)) (by decide) (by decide) (by decide +kernel) (by decide +kernel) hB (by decide), show zy_en (zy_ls za_lw 6 (11 - 6)) = 17292466 by decide +kernel, show ((zs_ix za_lw 11 : Nat) : Int) = 1 by decide +kernel]
  by_cases h1 : zy_ww B st m = 17292466
  · rw [if_pos h1, if_pos h1]
  rw [if_neg h1, if_neg h1]
  rw [zs_pass (S := za_lw) (B := B) (st := st) (a := 12) (b := 16) (n := 48) (m := m) (zs_sm_sp (b := 11) (by decide +kernel)) (by decide) (by decide) (by decide +kernel) (by decide +kernel) hB (by decide), show zy_en (zy_ls za_lw 12 (16 - 12)) = 278194 by decide +kernel, show ((zs_ix za_lw 16 : Nat) : Int) = 2 by decide +kernel]
  by_cases h2 : zy_ww B st m = 278194
  · rw [if_pos h2, if_pos h2]
  rw [if_neg h2, if_neg h2]
  rw [zs_pass (S := za_lw) (B := B) (st := st) (a := 17) (b := 23) (n := 48) (m := m) (zs_sm_sp (b := 16) (by decide +kernel)) (by decide) (by decide) (by decide +kernel) (by decide +kernel) hB (by decide), show zy_en (zy_ls za_lw 17 (23 - 17)) = 542723566 by decide +kernel, show ((zs_ix za_lw 23 : Nat) : Int) = 3 by decide +kernel]
  by_cases h3 : zy_ww B st m = 542723566
  · rw [if_pos h3, if_pos h3]
  rw [if_neg h3, if_neg h3]
  rw [zs_pass (S := za_lw) (B := B) (st := st) (a := 24) (b := 27) (n := 48) (m := m) (zs_sm_sp (b := 23) (by decide +kernel)) (by decide) (by decide) (by decide +kernel) (by decide +kernel) hB (by decide), show zy_en (zy_ls za_lw 24 (27 - 24)) = 15660 by decide +kernel, show ((zs_ix za_lw 27 : Nat) : Int) = 4 by decide +kernel]
  by_cases h4 : zy_ww B st m = 15660
  · rw [if_pos h4, if_pos h4]
  rw [if_neg h4, if_neg h4]
  rw [zs_pass (S := za_lw) (B := B) (st := st) (a := 28) (b := 34) (n := 48) (m := m) (zs_sm_sp (b := 27) (by decide +kernel)) (by decide) (by decide) (by decide +kernel) (by decide +kernel) hB (by decide), show zy_en (zy_ls za_lw 28 (34 - 28)) = 412766597 by decide +kernel, show ((zs_ix za_lw 34 : Nat) : Int) = 5 by decide +kernel]
  by_cases h5 : zy_ww B st m = 412766597
  · rw [if_pos h5, if_pos h5]
  rw [if_neg h5, if_neg h5]
  rw [zs_pass (S := za_lw) (B := B) (st := st) (a := 35) (b := 39) (n := 48) (m := m) (zs_sm_sp (b := 34) (by decide +kernel)) (by decide) (by decide) (by decide +kernel) (by decide +kernel) hB (by decide), show zy_en (zy_ls za_lw 35 (39 - 35)) = 402629 by decide +kernel, show ((zs_ix za_lw 39 : Nat) : Int) = 6 by decide +kernel]
  by_cases h6 : zy_ww B st m = 402629
  · rw [if_pos h6, if_pos h6]
  rw [if_neg h6, if_neg h6]
  rw [zs_pass (S := za_lw) (B := B) (st := st) (a := 40) (b := 43) (n := 48) (m := m) (zs_sm_sp (b := 39) (by decide +kernel)) (by decide) (by decide) (by decide +kernel) (by decide +kernel) hB (by decide), show zy_en (zy_ls za_lw 40 (43 - 40)) = 4153 by decide +kernel, show ((zs_ix za_lw 43 : Nat) : Int) = 7 by decide +kernel]
  by_cases h7 : zy_ww B st m = 4153
  · rw [if_pos h7, if_pos h7]
  rw [if_neg h7, if_neg h7]
  rw [zs_pass (S := za_lw) (B := B) (st := st) (a := 44) (b := 48) (n := 48) (m := m) (zs_sm_sp (b := 43) (by decide +kernel)) (by decide) (by decide) (by decide +kernel) (by decide +kernel) hB (by decide), show zy_en (zy_ls za_lw 44 (48 - 44)) = 441828 by decide +kernel, show ((zs_ix za_lw 48 : Nat) : Int) = 8 by decide +kernel]
  by_cases h8 : zy_ww B st m = 441828
  · rw [if_pos h8, if_pos h8]
  rw [if_neg h8, if_neg h8]
  exact zs_g_end (by decide)
noncomputable def za_oc : Nat → Int := fun j => ((([119, 105, 110, 100, 32, 107, 101, 121, 32, 114, 117, 110, 32, 109, 101, 110, 100] : List Nat).getD j 0 : Nat) : Int)
theorem zaw_oc {B : Nat → Int} {st m : Nat} (hB : ∀ i, i < m → 97 ≤ B (st + i) ∧ B (st + i) ≤ 122) : zs_g za_oc 17 B st (m : Int) 0 = if zy_ww B st m = 763332 then 0 else if zy_ww B st m = 11449 then 1 else if zy_ww B st m = 19118 then 2 else if zy_ww B st m = 431556 then 3 else -1 := by
  rw [zs_pass (S := za_oc) (B := B) (st := st) (a := 0) (b := 4) (n := 17) (m := m) rfl (by decide) (by decide) (by decide +kernel) (by decide +kernel) hB (by decide), show zy_en (zy_ls za_oc 0 (4 - 0)) = 763332 by decide +kernel, show ((zs_ix za_oc 4 : Nat) : Int) = 0 by decide +kernel]
  by_cases h0 : zy_ww B st m = 763332
  · rw [if_pos h0, if_pos h0]
  rw [if_neg h0, if_neg h0]
  rw [zs_pass (S := za_oc) (B := B) (st := st) (a := 5) (b := 8) (n := 17) (m := m) (zs_sm_sp (b := 4) (by decide +kernel)) (by decide) (by decide) (by decide +kernel) (by decide +kernel) hB (by decide), show zy_en (zy_ls za_oc 5 (8 - 5)) = 11449 by decide +kernel, show ((zs_ix za_oc 8 : Nat) : Int) = 1 by decide +kernel]
  by_cases h1 : zy_ww B st m = 11449
  · rw [if_pos h1, if_pos h1]
  rw [if_neg h1, if_neg h1]
  rw [zs_pass (S := za_oc) (B := B) (st := st) (a := 9) (b := 12) (n := 17) (m := m) (zs_sm_sp (b := 8) (by decide +kernel)) (by decide) (by decide) (by decide +kernel) (by decide +kernel) hB (by decide), show zy_en (zy_ls za_oc 9 (12 - 9)) = 19118 by decide +kernel, show ((zs_ix za_oc 12 : Nat) : Int) = 2 by decide +kernel]
  by_cases h2 : zy_ww B st m = 19118
  · rw [if_pos h2, if_pos h2]
  rw [if_neg h2, if_neg h2]
  rw [zs_pass (S := za_oc) (B := B) (st := st) (a := 13) (b := 17) (n := 17) (m := m) (zs_sm_sp (b := 12) (by decide +kernel)) (by decide) (by decide) (by decide +kernel) (by decide +kernel) hB (by decide), show zy_en (zy_ls za_oc 13 (17 - 13)) = 431556 by decide +kernel, show ((zs_ix za_oc 17 : Nat) : Int) = 3 by decide +kernel]
  by_cases h3 : zy_ww B st m = 431556
  · rw [if_pos h3, if_pos h3]
  rw [if_neg h3, if_neg h3]
  exact zs_g_end (by decide)
noncomputable def za_ow : Nat → Int := fun j => ((([100, 97, 121, 32, 116, 117, 114, 110, 115, 32, 108, 105, 102, 101, 32, 100, 111, 110, 101, 32, 101, 110, 100, 101, 100, 32, 108, 105, 116, 116, 108, 101, 32, 108, 101, 102, 116] : List Nat).getD j 0 : Nat) : Int)
theorem zaw_ow {B : Nat → Int} {st m : Nat} (hB : ∀ i, i < m → 97 ≤ B (st + i) ∧ B (st + i) ≤ 122) : zs_g za_ow 37 B st (m : Int) 0 = if zy_ww B st m = 4153 then 0 else if zy_ww B st m = 21678547 then 1 else if zy_ww B st m = 402629 then 2 else if zy_ww B st m = 146885 then 3 else if zy_ww B st m = 5705892 then 4 else if zy_ww B st m = 412766597 then 5 else if zy_ww B st m = 398548 then 6 else -1 := by
  rw [zs_pass (S := za_ow) (B := B) (st := st) (a := 0) (b := 3) (n := 37) (m := m) rfl (by decide) (by decide) (by decide +kernel) (by decide +kernel) hB (by decide), show zy_en (zy_ls za_ow 0 (3 - 0)) = 4153 by decide +kernel, show ((zs_ix za_ow 3 : Nat) : Int) = 0 by decide +kernel]
  by_cases h0 : zy_ww B st m = 4153
  · rw [if_pos h0, if_pos h0]
  rw [if_neg h0, if_neg h0]
  rw [zs_pass (S := za_ow) (B := B) (st := st) (a := 4) (b := 9) (n := 37) (m := m) (zs_sm_sp (b := 3) (by decide +kernel)) (by decide) (by decide) (by decide +kernel) (by decide +kernel) hB (by decide), show zy_en (zy_ls za_ow 4 (9 - 4)) = 21678547 by decide +kernel, show ((zs_ix za_ow 9 : Nat) : Int) = 1 by decide +kernel]
  by_cases h1 : zy_ww B st m = 21678547
  · rw [if_pos h1, if_pos h1]
  rw [if_neg h1, if_neg h1]
  rw [zs_pass (S := za_ow) (B := B) (st := st) (a := 10) (b := 14) (n := 37) (m := m) (zs_sm_sp (b := 9) (by decide +kernel)) (by decide) (by decide) (by decide +kernel) (by decide +kernel) hB (by decide), show zy_en (zy_ls za_ow 10 (14 - 10)) = 402629 by decide +kernel, show ((zs_ix za_ow 14 : Nat) : Int) = 2 by decide +kernel]
  by_cases h2 : zy_ww B st m = 402629
  · rw [if_pos h2, if_pos h2]
  rw [if_neg h2, if_neg h2]
  rw [zs_pass (S := za_ow) (B := B) (st := st) (a := 15) (b := 19) (n := 37) (m := m) (zs_sm_sp (b := 14) (by decide +kernel)) (by decide) (by decide) (by decide +kernel) (by decide +kernel) hB (by decide), show zy_en (zy_ls za_ow 15 (19 - 15)) = 146885 by decide +kernel, show ((zs_ix za_ow 19 : Nat) : Int) = 3 by decide +kernel]
  by_cases h3 : zy_ww B st m = 146885
  · rw [if_pos h3, if_pos h3]
  rw [if_neg h3, if_neg h3]
  rw [zs_pass (S := za_ow) (B := B) (st := st) (a := 20) (b := 25) (n := 37) (m := m) (zs_sm_sp (b := 19) (by decide +kernel)) (by decide) (by decide) (by decide +kernel) (by decide +kernel) hB (by decide), show zy_en (zy_ls za_ow 20 (25 - 20)) = 5705892 by decide +kernel, show ((zs_ix za_ow 25 : Nat) : Int) = 4 by decide +kernel]
  by_cases h4 : zy_ww B st m = 5705892
  · rw [if_pos h4, if_pos h4]
  rw [if_neg h4, if_neg h4]
  rw [zs_pass (S := za_ow) (B := B) (st := st) (a := 26) (b := 32) (n := 37) (m := m) (zs_sm_sp (b := 25) (by decide +kernel)) (by decide) (by decide) (by decide +kernel) (by decide +kernel) hB (by decide), show zy_en (zy_ls za_ow 26 (32 - 26)) = 412766597 by decide +kernel, show ((zs_ix za_ow 32 : Nat) : Int) = 5 by decide +kernel]
  by_cases h5 : zy_ww B st m = 412766597
  · rw [if_pos h5, if_pos h5]
  rw [if_neg h5, if_neg h5]
  rw [zs_pass (S := za_ow) (B := B) (st := st) (a := 33) (b := 37) (n := 37) (m := m) (zs_sm_sp (b := 32) (by decide +kernel)) (by decide) (by decide) (by decide +kernel) (by decide +kernel) hB (by decide), show zy_en (zy_ls za_ow 33 (37 - 33)) = 398548 by decide +kernel, show ((zs_ix za_ow 37 : Nat) : Int) = 6 by decide +kernel]
  by_cases h6 : zy_ww B st m = 398548
  · rw [if_pos h6, if_pos h6]
  rw [if_neg h6, if_neg h6]
  exact zs_g_end (by decide)
noncomputable def za_by : Nat → Int := fun j => ((([98, 121] : List Nat).getD j 0 : Nat) : Int)
theorem zaw_by {B : Nat → Int} {st m : Nat} (hB : ∀ i, i < m → 97 ≤ B (st + i) ∧ B (st + i) ≤ 122) : zs_g za_by 2 B st (m : Int) 0 = if zy_ww B st m = 89 then 0 else -1 := by
  rw [zs_pass (S := za_by) (B := B) (st := st) (a := 0) (b := 2) (n := 2) (m := m) rfl (by decide) (by decide) (by decide +kernel) (by decide +kernel) hB (by decide), show zy_en (zy_ls za_by 0 (2 - 0)) = 89 by decide +kernel, show ((zs_ix za_by 2 : Nat) : Int) = 0 by decide +kernel]
  by_cases h0 : zy_ww B st m = 89
  · rw [if_pos h0, if_pos h0]
  rw [if_neg h0, if_neg h0]
  exact zs_g_end (by decide)
noncomputable def za_ti : Nat → Int := fun j => ((([116, 105, 109, 101, 115] : List Nat).getD j 0 : Nat) : Int)
theorem zaw_ti {B : Nat → Int} {st m : Nat} (hB : ∀ i, i < m → 97 ≤ B (st + i) ∧ B (st + i) ≤ 122) : zs_g za_ti 5 B st (m : Int) 0 = if zy_ww B st m = 21279923 then 0 else -1 := by
  rw [zs_pass (S := za_ti) (B := B) (st := st) (a := 0) (b := 5) (n := 5) (m := m) rfl (by decide) (by decide) (by decide +kernel) (by decide +kernel) hB (by decide), show zy_en (zy_ls za_ti 0 (5 - 0)) = 21279923 by decide +kernel, show ((zs_ix za_ti 5 : Nat) : Int) = 0 by decide +kernel]
  by_cases h0 : zy_ww B st m = 21279923
  · rw [if_pos h0, if_pos h0]
  rw [if_neg h0, if_neg h0]
  exact zs_g_end (by decide)
noncomputable def za_if : Nat → Int := fun j => ((([105, 102] : List Nat).getD j 0 : Nat) : Int)
theorem zaw_if {B : Nat → Int} {st m : Nat} (hB : ∀ i, i < m → 97 ≤ B (st + i) ∧ B (st + i) ≤ 122) : zs_g za_if 2 B st (m : Int) 0 = if zy_ww B st m = 294 then 0 else -1 := by
  rw [zs_pass (S := za_if) (B := B) (st := st) (a := 0) (b := 2) (n := 2) (m := m) rfl (by decide) (by decide) (by decide +kernel) (by decide +kernel) hB (by decide), show zy_en (zy_ls za_if 0 (2 - 0)) = 294 by decide +kernel, show ((zs_ix za_if 2 : Nat) : Int) = 0 by decide +kernel]
  by_cases h0 : zy_ww B st m = 294
  · rw [if_pos h0, if_pos h0]
  rw [if_neg h0, if_neg h0]
  exact zs_g_end (by decide)
noncomputable def za_or : Nat → Int := fun j => ((([111, 114] : List Nat).getD j 0 : Nat) : Int)
theorem zaw_or {B : Nat → Int} {st m : Nat} (hB : ∀ i, i < m → 97 ≤ B (st + i) ∧ B (st + i) ≤ 122) : zs_g za_or 2 B st (m : Int) 0 = if zy_ww B st m = 498 then 0 else -1 := by
  rw [zs_pass (S := za_or) (B := B) (st := st) (a := 0) (b := 2) (n := 2) (m := m) rfl (by decide) (by decide) (by decide +kernel) (by decide +kernel) hB (by decide), show zy_en (zy_ls za_or 0 (2 - 0)) = 498 by decide +kernel, show ((zs_ix za_or 2 : Nat) : Int) = 0 by decide +kernel]
  by_cases h0 : zy_ww B st m = 498
  · rw [if_pos h0, if_pos h0]
  rw [if_neg h0, if_neg h0]
  exact zs_g_end (by decide)
noncomputable def za_an : Nat → Int := fun j => ((([97, 110, 100] : List Nat).getD j 0 : Nat) : Int)
theorem zaw_an {B : Nat → Int} {st m : Nat} (hB : ∀ i, i < m → 97 ≤ B (st + i) ∧ B (st + i) ≤ 122) : zs_g za_an 3 B st (m : Int) 0 = if zy_ww B st m = 1476 then 0 else -1 := by
  rw [zs_pass (S := za_an) (B := B) (st := st) (a := 0) (b := 3) (n := 3) (m := m) rfl (by decide) (by decide) (by decide +kernel) (by decide +kernel) hB (by decide), show zy_en (zy_ls za_an 0 (3 - 0)) = 1476 by decide +kernel, show ((zs_ix za_an 3 : Nat) : Int) = 0 by decide +kernel]
  by_cases h0 : zy_ww B st m = 1476
  · rw [if_pos h0, if_pos h0]
  rw [if_neg h0, if_neg h0]
  exact zs_g_end (by decide)
noncomputable def za_no : Nat → Int := fun j => ((([110, 111, 116] : List Nat).getD j 0 : Nat) : Int)
theorem zaw_no {B : Nat → Int} {st m : Nat} (hB : ∀ i, i < m → 97 ≤ B (st + i) ∧ B (st + i) ≤ 122) : zs_g za_no 3 B st (m : Int) 0 = if zy_ww B st m = 14836 then 0 else -1 := by
  rw [zs_pass (S := za_no) (B := B) (st := st) (a := 0) (b := 3) (n := 3) (m := m) rfl (by decide) (by decide) (by decide +kernel) (by decide +kernel) hB (by decide), show zy_en (zy_ls za_no 0 (3 - 0)) = 14836 by decide +kernel, show ((zs_ix za_no 3 : Nat) : Int) = 0 by decide +kernel]
  by_cases h0 : zy_ww B st m = 14836
  · rw [if_pos h0, if_pos h0]
  rw [if_neg h0, if_neg h0]
  exact zs_g_end (by decide)
