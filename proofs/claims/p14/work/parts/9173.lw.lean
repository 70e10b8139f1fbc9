/-! part lw: the class over logical cells: a decade -/
/-- the morning of a day -/
noncomputable def zc_m (W : Nat → Nat → Int) (L : List yK) : Nat → Nat → Int := if W 7 5 = -1 ∧ W 7 4 = 0 then (zf_wbd W L).2 else W
/-- a day's run on paper -/
noncomputable def zc_X7 (W : Nat → Nat → Int) (n npξ : Nat) (L : List yK) : (Nat → Int) × (Nat → Int) := zd_hr (zRc W 7 53) n npξ (zd_sp (zRc W 7 53) L (W 7 5)) (zd_ru (zRc W 7 53) L (W 7 5)) (W 7 5) 24
noncomputable def zf_rn7 (W : Nat → Nat → Int) (n npξ : Nat) (L : List yK) : Int × (Nat → Nat → Int) := (zc_ct (zc_X7 W n npξ L) n, (zf_slp7 (zc_put W 55 (zc_X7 W n npξ L))).2)
/-- days: howξ many works ended, what stands -/
noncomputable def zc_dc (n npξ : Nat) (L : List yK) : Nat → Int → (Nat → Nat → Int) → Int × (Nat → Nat → Int)
  | 0, e, W => (e, W)
  | k + 1, e, W => if 999 ≤ W 7 6 then (e, W) else if (zc_m W L) 7 5 = -1 then zc_dc n npξ L k e (zp_set (zc_m W L) 7 6 ((zc_m W L) 7 6 + 1)) else zc_dc n npξ L k (e + (zf_rn7 (zc_m W L) n npξ L).1) (zp_set (zf_rn7 (zc_m W L) n npξ L).2 6 2 ((zf_rn7 (zc_m W L) n npξ L).2 6 2 + 1))
/-- where a decade begins -/
noncomputable def zc_d0 (W : Nat → Nat → Int) (s : Int) : Nat → Nat → Int := zp_set (zp_set (zp_set (zf_kf7_2 W).2 6 3 (W 1 3)) 6 1 s) 6 2 0
noncomputable def zf_ply (W : Nat → Nat → Int) (n npξ : Nat) (L : List yK) (s : Int) (d : Int) : Int × (Nat → Nat → Int) := zc_dc n npξ L d.toNat 0 (zc_d0 W s)
theorem zsw_o {W : Nat → Nat → Int} {o k : Nat} (h : o ≠ 2 ∧ o ≠ 7 ∧ (o < 50 ∨ 56 ≤ o)) : zsw W o k = W o k := by
  unfold zsw
  rw [zs7_i h]
theorem zsw_s2 {W : Nat → Nat → Int} {k : Nat} {v : Int} : zsw (zp_set W 7 k v) = zp_set (zsw W) 2 k v := zsw_set (o := 2)
theorem zsw_s50 {W : Nat → Nat → Int} {k : Nat} {v : Int} : zsw (zp_set W 53 k v) = zp_set (zsw W) 50 k v := zsw_set (o := 50)
theorem zsw_s51 {W : Nat → Nat → Int} {k : Nat} {v : Int} : zsw (zp_set W 54 k v) = zp_set (zsw W) 51 k v := zsw_set (o := 51)
theorem zsw_so {W : Nat → Nat → Int} {o k : Nat} {v : Int} (h : o ≠ 2 ∧ o ≠ 7 ∧ (o < 50 ∨ 56 ≤ o)) : zsw (zp_set W o k v) = zp_set (zsw W) o k v := by
  have h1ξ := zsw_set (W := W) (o := o) (k := k) (v := v)
  rw [zs7_i h] at h1ξ
  exact h1ξ
theorem zsw_put {W : Nat → Nat → Int} {X : (Nat → Int) × (Nat → Int)} : zsw (zc_put W 55 X) = zc_put (zsw W) 52 X := by
  funext o k
  show (if zs7 o = 55 ∧ 2000 ≤ k ∧ k < 2010 then X.1 (k - 2000) else W (zs7 o) k) = if o = 52 ∧ 2000 ≤ k ∧ k < 2010 then X.1 (k - 2000) else W (zs7 o) k
  have h : zs7 o = 55 ↔ o = 52 := by
    refine ⟨fun h => ?_, fun h => by rw [h]; rfl⟩
    have h2ξ := congrArg zs7 h
    rw [zs7_7] at h2ξ
    exact h2ξ
  by_cases c : o = 52 ∧ 2000 ≤ k ∧ k < 2010
  · rw [if_pos c, if_pos ⟨h.mpr c.1, c.2⟩]
  · rw [if_neg c, if_neg (fun z => c ⟨h.mp z.1, z.2⟩)]
theorem zsw_wby {W : Nat → Nat → Int} {t s : Int} : zsw (zf_wby7 W t s).2 = (zf_wby2 (zsw W) t s).2 := by
  unfold zf_wby7 zf_wby2
  have e : (zf_wea2 (zsw W) s).2 2 3 = (zf_wea7 W s).2 7 3 := by
    show zp_set (zsw W) 2 3 (max 0 (zsw W 2 3 - s)) 2 3 = zp_set W 7 3 (max 0 (W 7 3 - s)) 7 3
    rw [zp_set_self, zp_set_self]
    rfl
  by_cases c : (zf_wea7 W s).2 7 3 = 0
  · rw [if_neg (show ¬ ¬ (zf_wea7 W s).2 7 3 = 0 from fun z => z c), if_neg (show ¬ ¬ (zf_wea2 (zsw W) s).2 2 3 = 0 from fun z => z (e.trans c))]
    show zsw (zp_set (zp_set (zp_set W 7 3 (max 0 (W 7 3 - s))) 7 4 1) 7 5 (-1)) = zp_set (zp_set (zp_set (zsw W) 2 3 (max 0 (zsw W 2 3 - s))) 2 4 1) 2 5 (-1)
    rw [zsw_s2, zsw_s2, zsw_s2]
    rfl
  · rw [if_pos c, if_pos (show ¬ (zf_wea2 (zsw W) s).2 2 3 = 0 from fun z => c (e.symm.trans z))]
    show zsw (zp_set (zp_set (zp_set W 7 3 (max 0 (W 7 3 - s))) 7 4 0) 7 5 t) = zp_set (zp_set (zp_set (zsw W) 2 3 (max 0 (zsw W 2 3 - s))) 2 4 0) 2 5 t
    rw [zsw_s2, zsw_s2, zsw_s2]
    rfl
theorem zsw_slp {W : Nat → Nat → Int} : zsw (zf_slp7 W).2 = (zf_slp2 (zsw W)).2 := by
  unfold zf_slp7 zf_slp2
  dsimp only
  simp only [zsw_s2, zsw_s50, zsw_s51]
  rfl
theorem zsw_X7 {W : Nat → Nat → Int} {n npξ : Nat} {L : List yK} : zc_X7 W n npξ L = zc_X (zsw W) 2 50 n npξ L (W 7 5) := by
  unfold zc_X7 zc_X
  rw [zRc_sw]
/-- a day's run, the goings changed -/
theorem zsw_rn7 {W : Nat → Nat → Int} {n npξ : Nat} {L : List yK} : zf_rn7 W n npξ L = (zc_ct (zc_X (zsw W) 2 50 n npξ L (W 7 5)) n, zsw (zf_slp2 (zc_put (zsw W) 52 (zc_X (zsw W) 2 50 n npξ L (W 7 5)))).2) := by
  unfold zf_rn7
  rw [zsw_X7, ← zsw_put, ← zsw_slp, zsw_sw]
/-- what holdsξ at a day of the class's decade -/
noncomputable def zCj (A : Nat → Nat) (Y : List (Nat × Nat)) (F : List (Nat × Nat × Nat)) (W : Nat → Nat → Int) (n1ξ npξ : Nat) (L : List yK) : Prop := zCI A Y F (zsw W) n1ξ npξ L ∧ (0 ≤ W 1 16 ∧ W 1 16 ≤ 12) ∧ 0 ≤ W 6 1 ∧ W 6 1 ≤ 1000002
theorem zCj_lf {A : Nat → Nat} {Y : List (Nat × Nat)} {F : List (Nat × Nat × Nat)} {W : Nat → Nat → Int} {n1ξ npξ : Nat} {L : List yK} (h : zCj A Y F W n1ξ npξ L) : zLF A Y F W L := zLF_f h.1.1 (fun o k hoξ => (zsw_o (by omega)).symm)
theorem zCj_ok {A : Nat → Nat} {Y : List (Nat × Nat)} {F : List (Nat × Nat × Nat)} {W : Nat → Nat → Int} {n1ξ npξ : Nat} {L : List yK} (h : zCj A Y F W n1ξ npξ L) : zc_ok W 7 53 n1ξ npξ := by
  have h1ξ := zCI_ok h.1
  unfold zc_ok at h1ξ ⊢
  rw [zRc_sw] at h1ξ
  exact h1ξ
theorem zCj_e {A : Nat → Nat} {Y : List (Nat × Nat)} {F : List (Nat × Nat × Nat)} {W : Nat → Nat → Int} {n1ξ npξ k : Nat} {v : Int} {L : List yK} (h : zCj A Y F W n1ξ npξ L) (hkξ : k ≠ 1) : zCj A Y F (zp_set W 6 k v) n1ξ npξ L := by
  obtain ⟨h1ξ, h2ξ, h3ξ⟩ := h
  refine ⟨zCI_e (fun o j hoξ => ?_) h1ξ, ?_, ?_⟩
  · rw [zsw_so (by decide)]
    exact zp_set_ne (Or.inl (by omega))
  · rw [zp_set_ne (Or.inl (by decide))]
    exact h2ξ
  · rw [zp_set_ne (Or.inr (Ne.symm hkξ))]
    exact h3ξ
theorem zCj_s {A : Nat → Nat} {Y : List (Nat × Nat)} {F : List (Nat × Nat × Nat)} {W : Nat → Nat → Int} {n1ξ npξ : Nat} {v : Int} {L : List yK} (h : zCj A Y F W n1ξ npξ L) (hvξ : 0 ≤ v ∧ v ≤ 1000002) : zCj A Y F (zp_set W 6 1 v) n1ξ npξ L := by
  obtain ⟨h1ξ, h2ξ, h3ξ⟩ := h
  refine ⟨zCI_e (fun o j hoξ => ?_) h1ξ, ?_, ?_⟩
  · rw [zsw_so (by decide)]
    exact zp_set_ne (Or.inl (by omega))
  · rw [zp_set_ne (Or.inl (by decide))]
    exact h2ξ
  · rw [zp_set_self]
    exact hvξ
theorem zCj_7 {A : Nat → Nat} {Y : List (Nat × Nat)} {F : List (Nat × Nat × Nat)} {W : Nat → Nat → Int} {n1ξ npξ k : Nat} {v : Int} {L : List yK} (h : zCj A Y F W n1ξ npξ L) (hvξ : (k = 5 → -1 ≤ v ∧ v ≤ 12) ∧ (k = 6 → 0 ≤ v ∧ v ≤ 999) ∧ (k = 3 → 0 ≤ v ∧ v ≤ 9999)) : zCj A Y F (zp_set W 7 k v) n1ξ npξ L := by
  obtain ⟨h1ξ, h2ξ, h3ξ⟩ := h
  refine ⟨?_, ?_, ?_⟩
  · rw [zsw_s2]
    exact zCI_2 hvξ h1ξ
  · rw [zp_set_ne (Or.inl (by decide))]
    exact h2ξ
  · rw [zp_set_ne (Or.inl (by decide))]
    exact h3ξ
theorem zf_wby7_n {W : Nat → Nat → Int} {t s : Int} {o k : Nat} (h : o ≠ 7) : (zf_wby7 W t s).2 o k = W o k := zf_wby7_f (fun hmξ => by
  have h9ξ : o = 7 := by simpa using hmξ
  omega)
theorem zCj_wby {A : Nat → Nat} {Y : List (Nat × Nat)} {F : List (Nat × Nat × Nat)} {W : Nat → Nat → Int} {n1ξ npξ : Nat} {t s : Int} {L : List yK} (h : zCj A Y F W n1ξ npξ L) (h0ξ : 0 ≤ t) (h1ξ : t ≤ 12) (hsξ : 0 ≤ s) : zCj A Y F (zf_wby7 W t s).2 n1ξ npξ L := by
  obtain ⟨g1, g2, g3⟩ := h
  refine ⟨?_, ?_, ?_⟩
  · rw [zsw_wby]
    exact zCI_wby h0ξ h1ξ hsξ g1
  · rw [zf_wby7_n (by decide)]
    exact g2
  · rw [zf_wby7_n (by decide)]
    exact g3
theorem zCj_wbd {A : Nat → Nat} {Y : List (Nat × Nat)} {F : List (Nat × Nat × Nat)} {W : Nat → Nat → Int} {n1ξ npξ : Nat} {L : List yK} (h : zCj A Y F W n1ξ npξ L) : zCj A Y F (zf_wbd W L).2 n1ξ npξ L := by
  have n1b := zq_nxb (s := W 6 1)
  have hs1ξ : zCj A Y F (zp_set W 6 1 (zq_nx (W 6 1))) n1ξ npξ L := zCj_s h n1b
  have hs2ξ : zCj A Y F (zp_set (zp_set W 6 1 (zq_nx (W 6 1))) 6 1 (zq_nx (zp_set W 6 1 (zq_nx (W 6 1)) 6 1))) n1ξ npξ L := zCj_s hs1ξ zq_nxb
  have htξ : 0 ≤ min (zq_nx (W 6 1) % 13) (if W 7 6 % 7 = 6 then W 1 16 else 12) ∧ min (zq_nx (W 6 1) % 13) (if W 7 6 % 7 = 6 then W 1 16 else 12) ≤ 12 := by
    have h16ξ := h.2.1
    have h13ξ : 0 ≤ zq_nx (W 6 1) % 13 ∧ zq_nx (W 6 1) % 13 < 13 := by omega
    split <;> omega
  unfold zf_wbd
  obtain ⟨t, httξ⟩ : ∃ t, t = min (zq_nx (W 6 1) % 13) (if W 7 6 % 7 = 6 then W 1 16 else 12) := ⟨_, rfl⟩
  rw [← httξ] at htξ ⊢
  split
  · exact zCj_wby hs2ξ htξ.1 htξ.2 (zy_web htξ.1 htξ.2).1
  · exact zCj_7 (k := 4) (v := 1) hs2ξ ⟨fun h9ξ => absurd h9ξ (by decide), fun h9ξ => absurd h9ξ (by decide), fun h9ξ => absurd h9ξ (by decide)⟩
theorem zCj_m {A : Nat → Nat} {Y : List (Nat × Nat)} {F : List (Nat × Nat × Nat)} {W : Nat → Nat → Int} {n1ξ npξ : Nat} {L : List yK} (h : zCj A Y F W n1ξ npξ L) : zCj A Y F (zc_m W L) n1ξ npξ L := by
  unfold zc_m
  split
  · exact zCj_wbd h
  · exact h
theorem zf_slp7_n {W : Nat → Nat → Int} {o k : Nat} (h : o ≠ 7 ∧ o ≠ 53 ∧ o ≠ 54) : (zf_slp7 W).2 o k = W o k := zf_slp7_f (fun hmξ => by
  have h9ξ : o = 7 ∨ o = 53 ∨ o = 54 := by simpa using hmξ
  omega)
theorem zf_rn7_n {W : Nat → Nat → Int} {n npξ : Nat} {L : List yK} {o k : Nat} (h : o ≠ 7 ∧ o ≠ 53 ∧ o ≠ 54 ∧ o ≠ 55) : (zf_rn7 W n npξ L).2 o k = W o k :=
  (zf_slp7_n ⟨h.1, h.2.1, h.2.2.1⟩).trans (if_neg (fun z => h.2.2.2 z.1))
theorem zCj_rn7 {A : Nat → Nat} {Y : List (Nat × Nat)} {F : List (Nat × Nat × Nat)} {W : Nat → Nat → Int} {n1ξ npξ : Nat} {L : List yK} (h : zCj A Y F W n1ξ npξ L) (h9ξ : W 7 6 < 999) : zCj A Y F (zf_rn7 W n1ξ npξ L).2 n1ξ npξ L := by
  obtain ⟨g1, g2, g3⟩ := h
  refine ⟨?_, ?_, ?_⟩
  · rw [zsw_rn7]
    dsimp only
    rw [zsw_sw]
    refine zCI_slp h9ξ (zCI_put (fun w hwξ => ?_) g1)
    have hokξ := zCI_ok g1
    have h1ξ : zRc (zsw W) 2 50 (5 * w + 40) = zsw W 33 (2000 + w) := zRc_w (show w < 10 by have := hokξ.1.1; omega) (show 1 < 5 by decide)
    have h2ξ := zd_hrb (sp := zd_sp (zRc (zsw W) 2 50) L (W 7 5)) (ru := zd_ru (zRc (zsw W) 2 50) L (W 7 5)) (t := W 7 5) hokξ.1 (h := 24) hwξ
    have h3ξ := (zc_ibh (npξ := npξ) (sp := zd_sp (zRc (zsw W) 2 50) L (W 7 5)) (ru := zd_ru (zRc (zsw W) 2 50) L (W 7 5)) (t := W 7 5) (fun w hwξ => (hokξ.1.2.2.2.2.1 w hwξ).2.2.1) hokξ.2 (h := 24) w hwξ).1
    rw [h1ξ] at h3ξ
    exact ⟨h2ξ.1, h3ξ⟩
  · rw [zf_rn7_n (by decide)]
    exact g2
  · rw [zf_rn7_n (by decide)]
    exact g3
theorem zc_m_6 {W : Nat → Nat → Int} {L : List yK} : (zc_m W L) 7 6 = W 7 6 ∧ (zc_m W L) 6 2 = W 6 2 := by
  unfold zc_m zf_wbd zf_wby7 zf_wea7
  repeat' split
  all_goals (refine ⟨?_, ?_⟩ <;> simp (disch := omega) only [zp_set_ne])
/-- where a decade begins, the going is the town's -/
theorem zRc7_0 {V : Nat → Nat → Int} {j : Nat} : zRc (zf_kf7_2 V).2 7 53 j = zRc V 2 50 j := by
  have e50 : ∀ j, j < 6 → (zf_kf7_2 V).2 53 (2000 + j) = V 50 (2000 + j) := fun j hjξ => by
    unfold zf_kf7_2
    dsimp only
    rw [zp_set_ne (Or.inl (by decide)), zp_set_ne (Or.inl (by decide)), zp_set_ne (Or.inl (by decide)), zp_set_ne (Or.inl (by decide)), zc_cp_o (by decide), zc_cp_o (by decide), zc_cp_e (by omega) (by omega), show 0 + (j - 0) = j by omega]
  have e51 : ∀ j, j < 6 → (zf_kf7_2 V).2 54 (2000 + j) = V 51 (2000 + j) := fun j hjξ => by
    unfold zf_kf7_2
    dsimp only
    rw [zp_set_ne (Or.inl (by decide)), zp_set_ne (Or.inl (by decide)), zp_set_ne (Or.inl (by decide)), zp_set_ne (Or.inl (by decide)), zc_cp_o (by decide), zc_cp_e (by omega) (by omega), zc_cp_o (by decide), show 0 + (j - 0) = j by omega]
  have e52 : ∀ j, j < 10 → (zf_kf7_2 V).2 55 (2000 + j) = V 52 (2000 + j) := fun j hjξ => by
    unfold zf_kf7_2
    dsimp only
    rw [zp_set_ne (Or.inl (by decide)), zp_set_ne (Or.inl (by decide)), zp_set_ne (Or.inl (by decide)), zp_set_ne (Or.inl (by decide)), zc_cp_e (by omega) (by omega), zc_cp_o (by decide), zc_cp_o (by decide), show 0 + (j - 0) = j by omega]
  have e3 : (zf_kf7_2 V).2 7 3 = V 2 3 := by
    unfold zf_kf7_2
    dsimp only
    rw [zp_set_ne (Or.inr (by decide)), zp_set_ne (Or.inr (by decide)), zp_set_ne (Or.inr (by decide)), zp_set_self]
  have e4 : (zf_kf7_2 V).2 7 4 = V 2 4 := by
    unfold zf_kf7_2
    dsimp only
    rw [zp_set_ne (Or.inr (by decide)), zp_set_ne (Or.inr (by decide)), zp_set_self]
  have e5 : (zf_kf7_2 V).2 7 5 = V 2 5 := by
    unfold zf_kf7_2
    dsimp only
    rw [zp_set_ne (Or.inr (by decide)), zp_set_self]
  have e6 : (zf_kf7_2 V).2 7 6 = V 2 6 := by (unfold zf_kf7_2; dsimp only; exact zp_set_self)
  have eo : ∀ o k, o ≠ 7 ∧ o ≠ 53 ∧ o ≠ 54 ∧ o ≠ 55 → (zf_kf7_2 V).2 o k = V o k := fun o k hoξ => zf_kf7_2_f (fun hmξ => by
    have h9ξ : o = 7 ∨ o = 53 ∨ o = 54 ∨ o = 55 := by simpa using hmξ
    omega)
  unfold zRc
  refine zite (fun c1 => ?_) (fun c1 => ?_)
  · refine zite (fun _ => eo _ _ (by omega)) (fun _ => ?_)
    refine zite (fun _ => eo _ _ (by omega)) (fun _ => ?_)
    refine zite (fun _ => eo _ _ (by omega)) (fun _ => ?_)
    refine zite (fun _ => eo _ _ (by omega)) (fun _ => ?_)
    refine zite (fun _ => eo _ _ (by omega)) (fun _ => ?_)
    refine zite (fun _ => e6) (fun _ => ?_)
    refine zite (fun _ => eo _ _ (by omega)) (fun _ => ?_)
    refine zite (fun _ => eo _ _ (by omega)) (fun _ => ?_)
    refine zite (fun _ => e3) (fun _ => ?_)
    exact zite (fun _ => e4) (fun _ => e5)
  · refine zite (fun c2 => ?_) (fun c2 => ?_)
    · refine zite (fun _ => e50 _ (by omega)) (fun _ => ?_)
      exact zite (fun _ => eo _ _ (by omega)) (fun _ => e51 _ (by omega))
    · refine zite (fun c3 => e52 _ (by omega)) (fun c3 => ?_)
      refine zite (fun c4 => eo _ _ (by omega)) (fun c4 => ?_)
      exact zite (fun c5 => eo _ _ (by omega)) (fun c5 => eo _ _ (by omega))
theorem zCj_d0 {A : Nat → Nat} {Y : List (Nat × Nat)} {F : List (Nat × Nat × Nat)} {W : Nat → Nat → Int} {n1ξ npξ : Nat} {s : Int} {L : List yK} (h : zCI A Y F W n1ξ npξ L) (hsuξ : 0 ≤ W 1 16 ∧ W 1 16 ≤ 12) (hsξ : 0 ≤ s ∧ s ≤ 1000000) : zCj A Y F (zp_set (zp_set (zp_set (zf_kf7_2 W).2 6 3 (W 1 3)) 6 1 s) 6 2 0) n1ξ npξ L := by
  have eo : ∀ o k, o ≠ 7 ∧ o ≠ 53 ∧ o ≠ 54 ∧ o ≠ 55 → (zf_kf7_2 W).2 o k = W o k := fun o k hoξ => zf_kf7_2_f (fun hmξ => by
    have h9ξ : o = 7 ∨ o = 53 ∨ o = 54 ∨ o = 55 := by simpa using hmξ
    omega)
  obtain ⟨h1ξ, h2ξ, h3ξ, h4ξ, h5ξ, h6ξ, h7ξ, h8ξ⟩ := h
  have hCξ : zCj A Y F (zp_set (zf_kf7_2 W).2 6 1 s) n1ξ npξ L := by
    have hoξ : ∀ o k, (o = 1 ∨ o = 33 ∨ o = 36 ∨ o = 40 ∨ 100 ≤ o) → zsw (zp_set (zf_kf7_2 W).2 6 1 s) o k = W o k := fun o k hkξ => by
      rw [zsw_o (by omega), zp_set_ne (Or.inl (by omega))]
      exact eo o k (by omega)
    have hrξ : ∀ j, zRc (zf_kf7_2 W).2 7 53 j = zRc W 2 50 j := fun j => zRc7_0
    have h2kξ : ∀ k, zsw (zp_set (zf_kf7_2 W).2 6 1 s) 2 k = (zf_kf7_2 W).2 7 k := fun k => zp_set_ne (Or.inl (by decide))
    have h50ξ : ∀ p, p < 6 → zsw (zp_set (zf_kf7_2 W).2 6 1 s) 50 (2000 + p) = W 50 (2000 + p) := fun p hpξ => by
      have h9ξ := hrξ (3 * p + 11)
      rw [zRc_o hpξ, zRc_o hpξ] at h9ξ
      exact (zp_set_ne (Or.inl (by decide))).trans h9ξ
    have h51ξ : ∀ p, p < 6 → zsw (zp_set (zf_kf7_2 W).2 6 1 s) 51 (2000 + p) = W 51 (2000 + p) := fun p hpξ => by
      have h9ξ := hrξ (3 * p + 13)
      rw [zRc_l hpξ, zRc_l hpξ] at h9ξ
      exact (zp_set_ne (Or.inl (by decide))).trans h9ξ
    have h52ξ : ∀ p, p < 10 → zsw (zp_set (zf_kf7_2 W).2 6 1 s) 52 (2000 + p) = W 52 (2000 + p) := fun p hpξ => by
      have h9ξ := hrξ (p + 29)
      rw [zRc_d hpξ, zRc_d hpξ] at h9ξ
      exact (zp_set_ne (Or.inl (by decide))).trans h9ξ
    refine ⟨⟨zLF_f h1ξ (fun o k hkξ => hoξ o k (by omega)), ⟨h2ξ.1, h2ξ.2.1, (hoξ 1 3 (Or.inl rfl)).trans h2ξ.2.2.1, (hoξ 1 1 (Or.inl rfl)).trans h2ξ.2.2.2⟩, fun w hwξ => ?_, fun p hpξ => ?_, ?_, ?_, ?_, fun j hjξ => ?_⟩, ?_, ?_⟩
    · rw [hoξ 36 _ (by omega), hoξ 33 _ (by omega), h52ξ w (by omega)]
      exact h3ξ w hwξ
    · rw [h51ξ p (by omega)]
      exact h4ξ p hpξ
    · rw [h2kξ, show (zf_kf7_2 W).2 7 5 = W 2 5 from hrξ 10]
      exact h5ξ
    · rw [h2kξ, show (zf_kf7_2 W).2 7 6 = W 2 6 from hrξ 5]
      exact h6ξ
    · rw [h2kξ, show (zf_kf7_2 W).2 7 3 = W 2 3 from hrξ 8]
      exact h7ξ
    · rw [h50ξ j hjξ]
      exact h8ξ j hjξ
    · rw [zp_set_ne (Or.inl (by decide)), eo 1 16 (by decide)]
      exact hsuξ
    · rw [zp_set_self]
      omega
  have e : zp_set (zp_set (zf_kf7_2 W).2 6 3 (W 1 3)) 6 1 s = zp_set (zp_set (zf_kf7_2 W).2 6 1 s) 6 3 (W 1 3) := zp_set_comm (Or.inr (by decide))
  rw [e]
  exact zCj_e (zCj_e hCξ (by decide)) (by decide)
noncomputable def zK_ply : zk_K := (zt_mn 171, prog_3_method_2_code, 8, (Option.some Jvm.ClassFile.FieldType.int), 1, 1, [(2, 1, 0, 0), (2, 10, 0, 0), (2, 0, 0, 0), (2, 6, 0, 0), (0, 0, (-2147483648), 2147483647), (0, 0, (-2147483648), 2147483647)], [(some (0, 0, (-2147483648), 2147483647), [])], zUC, (6, 360, 0, 0))
noncomputable def zφ_ply (A : Nat → Nat) (Y : List (Nat × Nat)) (F : List (Nat × Nat × Nat)) (V : Nat → Nat → Int) (n1ξ npξ : Nat) (Lwξ : List yK) : (Nat → Option Nat) → (Nat → Nat → Int) → List Int → Prop := fun P G ps => zMVc A Y F V P G ∧ ps.getD 0 0 = (A 6 : Int) ∧ zMc Y F ∧ (ps.getD 1 0) = (A 1 : Int) ∧ (ps.getD 2 0) = (A 5 : Int) ∧ (ps.getD 3 0) = (A 4 : Int) ∧ zCI A Y F V n1ξ npξ Lwξ ∧ (0 ≤ V 1 16 ∧ V 1 16 ≤ 12) ∧ (0 ≤ (ps.getD 4 0) ∧ (ps.getD 4 0) ≤ 1000000) ∧ 1 ≤ (ps.getD 5 0) ∧ (ps.getD 5 0) ≤ 60
noncomputable def zψ_ply (A : Nat → Nat) (Y : List (Nat × Nat)) (F : List (Nat × Nat × Nat)) (V : Nat → Nat → Int) (n1ξ npξ : Nat) (Lwξ : List yK) : (Nat → Option Nat) → (Nat → Nat → Int) → List Int → (Nat → Option Nat) → (Nat → Nat → Int) → Int → Prop := fun P G ps P' G' rn => P' = P ∧ zMVc A Y F (zf_ply V n1ξ npξ Lwξ (ps.getD 4 0) (ps.getD 5 0)).2 P' G' ∧ rn = (zf_ply V n1ξ npξ Lwξ (ps.getD 4 0) (ps.getD 5 0)).1
theorem zX_ply {l : Launch} {w : zk_W} (hWξ : zh_W w) (A : Nat → Nat) (Y : List (Nat × Nat)) (F : List (Nat × Nat × Nat)) (V : Nat → Nat → Int) (n1ξ npξ : Nat) (Lwξ : List yK) : zk_metX l w zt_dv zt_TB zK_ply (zp_A (zφ_ply A Y F V n1ξ npξ Lwξ)) (zp_B (zψ_ply A Y F V n1ξ npξ Lwξ)) ∧ zk_cok w zt_TB zK_ply := by
  refine zp_methX (cn := "WoundTown$Decade") zp_lkallDc hWξ (pl := 1289) rfl (by decide +kernel) (fun p e R s m args below meth c Q u hx hb hEξ hQξ hU5ξ heffξ hnLξ hokξ hφ => ?_)
  have hwξ := hWξ.1
  obtain ⟨p0ξ, p1ξ, p2ξ, p3ξ, p4ξ, p5ξ, hpsξ, tk0, tk1, tk2, tk3, tk4, tk5⟩ := zp_ps6 hokξ
  have hrmξ : zk_Kr (zk_ev (zt_types, zp_lkDc, zt_dv, [], [], zp_lcDc, zK_ply)) = zk_Kr zK_ply := rfl
  rw [hpsξ] at hφ ⊢
  have hφ : zMVc A Y F V u.1 (zp_n u.2.1) ∧ p0ξ = (A 6 : Int) ∧ zMc Y F ∧ p1ξ = (A 1 : Int) ∧ p2ξ = (A 5 : Int) ∧ p3ξ = (A 4 : Int) ∧ zCI A Y F V n1ξ npξ Lwξ ∧ (0 ≤ V 1 16 ∧ V 1 16 ≤ 12) ∧ (0 ≤ p4ξ ∧ p4ξ ≤ 1000000) ∧ 1 ≤ p5ξ ∧ p5ξ ≤ 60 := hφ
  obtain ⟨⟨M, hMξ, hVξ, hSbξ⟩, rfl, hYFξ, rfl, rfl, rfl, hCIξ, ⟨hsu0ξ, hsu1ξ⟩, ⟨hsd0ξ, hsd1ξ⟩, hd0ξ, hd1ξ⟩ := hφ
  have hYF0ξ := hYFξ
  obtain ⟨hYbξ, hFbξ, hFxξ, -⟩ := hYFξ
  have hi4ξ := zp_int tk4
  have hi5ξ := zp_int tk5
  show zp_J p l e R s m args below meth c Q w u [] 0 [(0, 2, (A 6 : Int)), (1, 2, (A 1 : Int)), (2, 2, (A 5 : Int)), (3, 2, (A 4 : Int)), (4, 0, p4ξ), (5, 0, p5ξ)] [] u.1 (zp_n u.2.1)
  refine zp_load (pc := 0) hx hb (zd_X1_play (0, .aload_n 0, 1, 0, []) (List.mem_of_getElem? (i := 0) rfl)) rfl (j := 0) rfl ?_
  refine zp_getf (n := (A 7 : Int)) (pc := 1) hx hb hEξ hwξ (zd_X1_play (1, .getfield 12, 3, 0, []) (List.mem_of_getElem? (i := 1) rfl)) (j := 9) rfl rfl rfl (zM_P hMξ (hYbξ _ (List.mem_of_getElem? (i := 6) rfl))) ((zM_G hMξ (hYbξ _ (List.mem_of_getElem? (i := 6) rfl)) 0).trans (zM_F hMξ (hFbξ _ (List.mem_of_getElem? (i := 47) rfl)))) ?_
  refine zp_load (pc := 4) hx hb (zd_X1_play (4, .aload_n 1, 1, 0, []) (List.mem_of_getElem? (i := 2) rfl)) rfl (j := 1) rfl ?_
  refine zp_getf (n := (A 2 : Int)) (pc := 5) hx hb hEξ hwξ (zd_X1_play (5, .getfield 22, 3, 0, []) (List.mem_of_getElem? (i := 3) rfl)) (j := 6) rfl rfl rfl (zM_P hMξ (hYbξ _ (List.mem_of_getElem? (i := 1) rfl))) ((zM_G hMξ (hYbξ _ (List.mem_of_getElem? (i := 1) rfl)) 18).trans (zM_F hMξ (hFbξ _ (List.mem_of_getElem? (i := 24) rfl)))) ?_
  refine zp_call (pc := 8) (how := 0) (idx := 25) (mi := 80) (S := []) hx hb hEξ hwξ heffξ hrmξ (zX_kf7_2 hWξ A Y F V) rfl (j := 1) rfl rfl (by decide +kernel) (zd_X1_play (8, .invokevirtual 25, 3, 0, []) (List.mem_of_getElem? (i := 4) rfl)) [(A 7 : Int), (A 2 : Int)] rfl ⟨zp_o2 (zM_P hMξ (hYbξ _ (List.mem_of_getElem? (i := 7) rfl))), zp_o2 (zM_P hMξ (hYbξ _ (List.mem_of_getElem? (i := 2) rfl))), trivial⟩ (Nat.le_of_ble_eq_true rfl) ⟨⟨M, hMξ, hVξ, trivial⟩, rfl, hYF0ξ, rfl⟩ (fun al halξ rna674ξ Pa674 Ga674 hexta674ξ hfra674ξ hoka674ξ hcsa674ξ hpsia674ξ => ?_)
  obtain rfl := List.mem_singleton.mp halξ
  obtain ⟨hPea674ξ, Ma674, hMa674ξ, hVa674ξ, hSba674ξ⟩ := hpsia674ξ
  subst hPea674ξ
  clear hexta674ξ hfra674ξ hcsa674ξ hoka674ξ
  have hVa674ξ : ∀ o k, zNc o → Ma674 o k = (zf_kf7_2 V).2 o k := hVa674ξ
  refine zp_load (pc := 11) hx hb (zd_X1_play (11, .aload_n 0, 1, 0, []) (List.mem_of_getElem? (i := 5) rfl)) rfl (j := 0) rfl ?_
  refine zp_load (pc := 12) hx hb (zd_X1_play (12, .aload_n 1, 1, 0, []) (List.mem_of_getElem? (i := 6) rfl)) rfl (j := 1) rfl ?_
  refine zp_getf (n := (V 1 3)) (pc := 13) hx hb hEξ hwξ (zd_X1_play (13, .getfield 29, 3, 0, []) (List.mem_of_getElem? (i := 7) rfl)) (j := 5) rfl rfl rfl (zM_P hMa674ξ (hYbξ _ (List.mem_of_getElem? (i := 1) rfl))) (((zM_G hMa674ξ (hYbξ _ (List.mem_of_getElem? (i := 1) rfl)) 3).trans (hVa674ξ 1 3 (by decide))).trans (zf_kf7_2_f (by decide))) ?_
  refine zp_kn (k := 3) (a := (A 1)) hwξ (show zp_fd 10 3 = some (9, 0, 0, 0, 10) from rfl) rfl (zM_P hMa674ξ (hYbξ _ (List.mem_of_getElem? (i := 1) rfl))) (fun hf675ξ => ?_)
  have hf675bξ := zp_int hf675ξ
  rw [(((zM_G hMa674ξ (hYbξ _ (List.mem_of_getElem? (i := 1) rfl)) 3).trans (hVa674ξ 1 3 (by decide))).trans (zf_kf7_2_f (by decide)))] at hf675bξ
  clear hf675ξ
  refine zp_putf (pc := 16) hx hb hEξ hwξ heffξ (zd_X1_play (16, .putfield 18, 3, 0, []) (List.mem_of_getElem? (i := 8) rfl)) (j := 12) rfl rfl rfl (zM_P hMa674ξ (hYbξ _ (List.mem_of_getElem? (i := 6) rfl))) (zp_o0 (by omega) (by omega) (by omega) (by omega)) ?_
  refine zp_load (pc := 19) hx hb (zd_X1_play (19, .aload_n 0, 1, 0, []) (List.mem_of_getElem? (i := 9) rfl)) rfl (j := 0) rfl ?_
  refine zp_load (pc := 20) hx hb (zd_X1_play (20, .iload 4, 2, 0, []) (List.mem_of_getElem? (i := 10) rfl)) rfl (j := 4) rfl ?_
  refine zp_putf (pc := 22) hx hb hEξ hwξ heffξ (zd_X1_play (22, .putfield 30, 3, 0, []) (List.mem_of_getElem? (i := 11) rfl)) (j := 10) rfl rfl rfl (zM_P hMa674ξ (hYbξ _ (List.mem_of_getElem? (i := 6) rfl))) (zp_o0 (by omega) (by omega) (by omega) (by omega)) ?_
  refine zp_load (pc := 25) hx hb (zd_X1_play (25, .aload_n 0, 1, 0, []) (List.mem_of_getElem? (i := 12) rfl)) rfl (j := 0) rfl ?_
  refine zp_const (pc := 26) hx hb (zd_X1_play (26, .iconst 0, 1, 0, []) (List.mem_of_getElem? (i := 13) rfl)) rfl rfl ?_
  refine zp_putf (pc := 27) hx hb hEξ hwξ heffξ (zd_X1_play (27, .putfield 33, 3, 0, []) (List.mem_of_getElem? (i := 14) rfl)) (j := 11) rfl rfl rfl (zM_P hMa674ξ (hYbξ _ (List.mem_of_getElem? (i := 6) rfl))) (zp_o0 (by decide) (by decide) (by decide) (by decide)) ?_
  refine zp_const (pc := 30) hx hb (zd_X1_play (30, .iconst 0, 1, 0, []) (List.mem_of_getElem? (i := 15) rfl)) rfl rfl ?_
  refine zp_store (L' := [(6, 0, 0), (0, 2, (A 6 : Int)), (1, 2, (A 1 : Int)), (2, 2, (A 5 : Int)), (3, 2, (A 4 : Int)), (4, 0, p4ξ), (5, 0, p5ξ)]) (pc := 31) hx hb hnLξ (zd_X1_play (31, .istore 6, 2, 0, []) (List.mem_of_getElem? (i := 16) rfl)) rfl rfl rfl ?_
  refine zp_const (pc := 33) hx hb (zd_X1_play (33, .iconst 0, 1, 0, []) (List.mem_of_getElem? (i := 17) rfl)) rfl rfl ?_
  refine zp_store (L' := [(7, 0, 0), (6, 0, 0), (0, 2, (A 6 : Int)), (1, 2, (A 1 : Int)), (2, 2, (A 5 : Int)), (3, 2, (A 4 : Int)), (4, 0, p4ξ), (5, 0, p5ξ)]) (pc := 34) hx hb hnLξ (zd_X1_play (34, .istore 7, 2, 0, []) (List.mem_of_getElem? (i := 18) rfl)) rfl rfl rfl ?_
  obtain ⟨V0, hV0ξ⟩ : ∃ V0 : Nat → Nat → Int, V0 = V := ⟨V, rfl⟩
  subst hV0ξ
  have loop : ∀ (q9ξ k9ξ : Nat) (e9ξ : Int) (V : Nat → Nat → Int) (M : Nat → Nat → Int) (G : Nat → Nat → Int), (q9ξ : Int) + (k9ξ : Int) = p5ξ → 0 ≤ e9ξ → e9ξ ≤ 10 * (k9ξ : Int) → zM A Y F M u.1 G → (∀ o k, zNc o → M o k = V o k) → zCj A Y F V n1ξ npξ Lwξ → 0 ≤ V 6 2 → V 6 2 ≤ (k9ξ : Int) → zc_dc n1ξ npξ Lwξ p5ξ.toNat 0 (zc_d0 V0 p4ξ) = zc_dc n1ξ npξ Lwξ q9ξ e9ξ V → zp_J p l e R s m args below meth c Q w u [] 36 [(7, 0, (k9ξ : Int)), (6, 0, e9ξ), (0, 2, (A 6 : Int)), (1, 2, (A 1 : Int)), (2, 2, (A 5 : Int)), (3, 2, (A 4 : Int)), (4, 0, p4ξ), (5, 0, p5ξ)] [] u.1 G := by
    intro q9ξ
    induction q9ξ with
    | zero =>
      intro k9ξ e9ξ V M G hqξ he0ξ he1ξ hMξ hVξ hCjξ hr0ξ hr1ξ hzξ
      have hk60ξ : (k9ξ : Int) ≤ 60 := by omega
      have he6ξ : e9ξ ≤ 600 := by omega
      have ht5ξ : -1 ≤ V 7 5 ∧ V 7 5 ≤ 12 := hCjξ.1.2.2.2.2.1
      have hd5ξ : 0 ≤ V 7 6 ∧ V 7 6 ≤ 999 := hCjξ.1.2.2.2.2.2.1
      have hl5ξ : 0 ≤ V 7 3 ∧ V 7 3 ≤ 9999 := hCjξ.1.2.2.2.2.2.2.1
      have hn10ξ : n1ξ ≤ 10 := hCjξ.1.2.1.1
      refine zp_load (pc := 36) hx hb (zd_X1_play (36, .iload 7, 2, 0, []) (List.mem_of_getElem? (i := 19) rfl)) rfl (j := 0) rfl ?_
      refine zp_load (pc := 38) hx hb (zd_X1_play (38, .iload 5, 2, 0, []) (List.mem_of_getElem? (i := 20) rfl)) rfl (j := 7) rfl ?_
      refine zp_icmp (pc := 40) (tgt := 140) hx hb (zd_X1_play (40, .if_icmp .ge 100, 3, 0, []) (List.mem_of_getElem? (i := 21) rfl)) rfl (fun (hc676ξ : p5ξ ≤ (k9ξ : Int)) => ?_) (fun (hc676ξ : ¬ (p5ξ ≤ (k9ξ : Int))) => ?_)
      · refine zp_load (pc := 140) hx hb (zd_X1_play (140, .iload 6, 2, 0, []) (List.mem_of_getElem? (i := 69) rfl)) rfl (j := 1) rfl ?_
        refine zp_iret (pc := 142) (n := e9ξ) hx hb hEξ hQξ hU5ξ rfl (by decide) (zd_X1_play (142, .ireturn, 1, 0, []) (List.mem_of_getElem? (i := 70) rfl)) (j := 0) rfl (zp_o0 (by omega) (by omega) (by omega) (by omega)) ?_
        rw [hpsξ]
        refine ⟨rfl, ?_⟩
        have hz9ξ : zf_ply V0 n1ξ npξ Lwξ p4ξ p5ξ = (e9ξ, V) := hzξ
        show zMVc A Y F (zf_ply V0 n1ξ npξ Lwξ p4ξ p5ξ).2 u.1 G ∧ e9ξ = (zf_ply V0 n1ξ npξ Lwξ p4ξ p5ξ).1
        rw [hz9ξ]
        exact ⟨⟨M, hMξ, hVξ, trivial⟩, rfl⟩
      · exfalso
        omega
    | succ q9ξ ih =>
      intro k9ξ e9ξ V M G hqξ he0ξ he1ξ hMξ hVξ hCjξ hr0ξ hr1ξ hzξ
      have hk60ξ : (k9ξ : Int) ≤ 60 := by omega
      have he6ξ : e9ξ ≤ 600 := by omega
      have ht5ξ : -1 ≤ V 7 5 ∧ V 7 5 ≤ 12 := hCjξ.1.2.2.2.2.1
      have hd5ξ : 0 ≤ V 7 6 ∧ V 7 6 ≤ 999 := hCjξ.1.2.2.2.2.2.1
      have hl5ξ : 0 ≤ V 7 3 ∧ V 7 3 ≤ 9999 := hCjξ.1.2.2.2.2.2.2.1
      have hn10ξ : n1ξ ≤ 10 := hCjξ.1.2.1.1
      have rest : V 7 6 < 999 → ∀ (M : Nat → Nat → Int) (G : Nat → Nat → Int), zM A Y F M u.1 G → (∀ o k, zNc o → M o k = (zc_m V Lwξ) o k) → zp_J p l e R s m args below meth c Q w u [] 83 [(7, 0, (k9ξ : Int)), (6, 0, e9ξ), (0, 2, (A 6 : Int)), (1, 2, (A 1 : Int)), (2, 2, (A 5 : Int)), (3, 2, (A 4 : Int)), (4, 0, p4ξ), (5, 0, p5ξ)] [] u.1 G := by
        intro hdayξ M G hMξ hVξ
        have hCmξ := zCj_m hCjξ
        have h6mξ : (zc_m V Lwξ) 7 6 = V 7 6 := zc_m_6.1
        have h62mξ : (zc_m V Lwξ) 6 2 = V 6 2 := zc_m_6.2
        obtain ⟨Vm, hVmξ⟩ : ∃ Vm, Vm = zc_m V Lwξ := ⟨_, rfl⟩
        have hz1ξ : zc_dc n1ξ npξ Lwξ p5ξ.toNat 0 (zc_d0 V0 p4ξ) = if Vm 7 5 = -1 then zc_dc n1ξ npξ Lwξ q9ξ e9ξ (zp_set Vm 7 6 (Vm 7 6 + 1)) else zc_dc n1ξ npξ Lwξ q9ξ (e9ξ + (zf_rn7 Vm n1ξ npξ Lwξ).1) (zp_set (zf_rn7 Vm n1ξ npξ Lwξ).2 6 2 ((zf_rn7 Vm n1ξ npξ Lwξ).2 6 2 + 1)) := by
          rw [hzξ, zc_dc, if_neg (by omega), ← hVmξ]
        rw [← hVmξ] at hCmξ h6mξ h62mξ hVξ
        have htmξ : -1 ≤ Vm 7 5 ∧ Vm 7 5 ≤ 12 := hCmξ.1.2.2.2.2.1
        have hOmξ : ∀ j, j < 6 → 0 ≤ Vm 53 (2000 + j) ∧ Vm 53 (2000 + j) ≤ 9 := hCmξ.1.2.2.2.2.2.2.2
        refine zp_load (pc := 83) hx hb (zd_X1_play (83, .aload_n 0, 1, 0, []) (List.mem_of_getElem? (i := 40) rfl)) rfl (j := 2) rfl ?_
        refine zp_getf (n := (A 7 : Int)) (pc := 84) hx hb hEξ hwξ (zd_X1_play (84, .getfield 12, 3, 0, []) (List.mem_of_getElem? (i := 41) rfl)) (j := 9) rfl rfl rfl (zM_P hMξ (hYbξ _ (List.mem_of_getElem? (i := 6) rfl))) ((zM_G hMξ (hYbξ _ (List.mem_of_getElem? (i := 6) rfl)) 0).trans (zM_F hMξ (hFbξ _ (List.mem_of_getElem? (i := 47) rfl)))) ?_
        refine zp_getf (n := (Vm 7 5)) (pc := 87) hx hb hEξ hwξ (zd_X1_play (87, .getfield 39, 3, 0, []) (List.mem_of_getElem? (i := 42) rfl)) (j := 3) rfl rfl rfl (zM_P hMξ (hYbξ _ (List.mem_of_getElem? (i := 7) rfl))) ((zM_G hMξ (hYbξ _ (List.mem_of_getElem? (i := 7) rfl)) 5).trans (hVξ 7 5 (by decide))) ?_
        refine zp_const (pc := 90) hx hb (zd_X1_play (90, .iconst (-1), 1, 0, []) (List.mem_of_getElem? (i := 43) rfl)) rfl rfl ?_
        refine zp_icmp (pc := 91) (tgt := 110) hx hb (zd_X1_play (91, .if_icmp .ne 19, 3, 0, []) (List.mem_of_getElem? (i := 44) rfl)) rfl (fun (hc677ξ : ¬ (Vm 7 5) = (-1)) => ?_) (fun (hc677ξ : ¬ (¬ (Vm 7 5) = (-1))) => ?_)
        · refine zp_load (pc := 110) hx hb (zd_X1_play (110, .iload 6, 2, 0, []) (List.mem_of_getElem? (i := 53) rfl)) rfl (j := 1) rfl ?_
          refine zp_load (pc := 112) hx hb (zd_X1_play (112, .aload_n 2, 1, 0, []) (List.mem_of_getElem? (i := 54) rfl)) rfl (j := 4) rfl ?_
          refine zp_load (pc := 113) hx hb (zd_X1_play (113, .aload_n 1, 1, 0, []) (List.mem_of_getElem? (i := 55) rfl)) rfl (j := 3) rfl ?_
          refine zp_load (pc := 114) hx hb (zd_X1_play (114, .aload_n 0, 1, 0, []) (List.mem_of_getElem? (i := 56) rfl)) rfl (j := 2) rfl ?_
          refine zp_getf (n := (A 7 : Int)) (pc := 115) hx hb hEξ hwξ (zd_X1_play (115, .getfield 12, 3, 0, []) (List.mem_of_getElem? (i := 57) rfl)) (j := 9) rfl rfl rfl (zM_P hMξ (hYbξ _ (List.mem_of_getElem? (i := 6) rfl))) ((zM_G hMξ (hYbξ _ (List.mem_of_getElem? (i := 6) rfl)) 0).trans (zM_F hMξ (hFbξ _ (List.mem_of_getElem? (i := 47) rfl)))) ?_
          refine zp_call (pc := 118) (how := 0) (idx := 50) (mi := 104) (S := [(0, e9ξ)]) hx hb hEξ hwξ heffξ hrmξ (zX_rns7 hWξ A Y F Vm n1ξ npξ (Vm 7 5) Lwξ) rfl (j := 9) rfl rfl (by decide +kernel) (zd_X1_play (118, .invokevirtual 50, 3, 0, []) (List.mem_of_getElem? (i := 58) rfl)) [(A 5 : Int), (A 1 : Int), (A 7 : Int)] rfl ⟨zp_o2 (zM_P hMξ (hYbξ _ (List.mem_of_getElem? (i := 5) rfl))), zp_o2 (zM_P hMξ (hYbξ _ (List.mem_of_getElem? (i := 1) rfl))), zp_o2 (zM_P hMξ (hYbξ _ (List.mem_of_getElem? (i := 7) rfl))), trivial⟩ (Nat.le_of_ble_eq_true rfl) ⟨⟨M, hMξ, hVξ, trivial⟩, rfl, hYF0ξ, rfl, rfl, rfl, zCj_lf hCmξ, zCj_ok hCmξ, by omega, by omega, ⟨by omega, by omega⟩, hOmξ⟩ (fun al halξ rnr7ξ Pr7 Gr7 hextr7ξ hfrr7ξ hokr7ξ hcsr7ξ hpsir7ξ => ?_)
          obtain rfl := List.mem_singleton.mp halξ
          have hrr7ξ := zp_int (hokr7ξ _ rfl).1
          obtain ⟨hPer7ξ, ⟨Mr7, hMr7ξ, hVr7ξ, hSbr7ξ⟩, htr7ξ⟩ := hpsir7ξ
          subst hPer7ξ
          clear hextr7ξ hfrr7ξ hcsr7ξ hokr7ξ
          have hVr7ξ : ∀ o k, zNc o → Mr7 o k = (zf_rn7 Vm n1ξ npξ Lwξ).2 o k := hVr7ξ
          have htr7ξ : rnr7ξ = (zf_rn7 Vm n1ξ npξ Lwξ).1 := htr7ξ
          have htr7ξ := (Eq.symm htr7ξ)
          subst htr7ξ
          have hcbξ : 0 ≤ (zf_rn7 Vm n1ξ npξ Lwξ).1 ∧ (zf_rn7 Vm n1ξ npξ Lwξ).1 ≤ (n1ξ : Int) := zc_ctb
          have h62rξ : (zf_rn7 Vm n1ξ npξ Lwξ).2 6 2 = V 6 2 := (zf_rn7_n (by decide)).trans h62mξ
          have h62bξ : 0 ≤ (zf_rn7 Vm n1ξ npξ Lwξ).2 6 2 ∧ (zf_rn7 Vm n1ξ npξ Lwξ).2 6 2 ≤ 60 := by omega
          refine zp_add (n := (e9ξ + ((zf_rn7 Vm n1ξ npξ Lwξ).1))) (pc := 121) hx hb (zd_X1_play (121, .iadd, 1, 0, []) (List.mem_of_getElem? (i := 59) rfl)) (by omega) (zp_r0 (by omega) (by omega)) ?_
          refine zp_store (L' := [(6, 0, (e9ξ + ((zf_rn7 Vm n1ξ npξ Lwξ).1))), (7, 0, (k9ξ : Int)), (0, 2, (A 6 : Int)), (1, 2, (A 1 : Int)), (2, 2, (A 5 : Int)), (3, 2, (A 4 : Int)), (4, 0, p4ξ), (5, 0, p5ξ)]) (pc := 122) hx hb hnLξ (zd_X1_play (122, .istore 6, 2, 0, []) (List.mem_of_getElem? (i := 60) rfl)) rfl rfl rfl ?_
          refine zp_load (pc := 124) hx hb (zd_X1_play (124, .aload_n 0, 1, 0, []) (List.mem_of_getElem? (i := 61) rfl)) rfl (j := 2) rfl ?_
          refine zp_dup (pc := 125) hx hb (zd_X1_play (125, .dup, 1, 0, []) (List.mem_of_getElem? (i := 62) rfl)) (show (2 : Nat) ≠ 1 by decide) ?_
          refine zp_getf (n := ((zf_rn7 Vm n1ξ npξ Lwξ).2 6 2)) (pc := 126) hx hb hEξ hwξ (zd_X1_play (126, .getfield 33, 3, 0, []) (List.mem_of_getElem? (i := 63) rfl)) (j := 11) rfl rfl rfl (zM_P hMr7ξ (hYbξ _ (List.mem_of_getElem? (i := 6) rfl))) ((zM_G hMr7ξ (hYbξ _ (List.mem_of_getElem? (i := 6) rfl)) 2).trans (hVr7ξ 6 2 (by decide))) ?_
          refine zp_kn (k := 2) (a := (A 6)) hwξ (show zp_fd 1 2 = some (1, 0, 0, (-2147483648), 2147483647) from rfl) rfl (zM_P hMr7ξ (hYbξ _ (List.mem_of_getElem? (i := 6) rfl))) (fun hf678ξ => ?_)
          have hf678bξ := zp_int hf678ξ
          rw [((zM_G hMr7ξ (hYbξ _ (List.mem_of_getElem? (i := 6) rfl)) 2).trans (hVr7ξ 6 2 (by decide)))] at hf678bξ
          clear hf678ξ
          refine zp_const (pc := 129) hx hb (zd_X1_play (129, .iconst 1, 1, 0, []) (List.mem_of_getElem? (i := 64) rfl)) rfl rfl ?_
          refine zp_add (n := (((zf_rn7 Vm n1ξ npξ Lwξ).2 6 2) + 1)) (pc := 130) hx hb (zd_X1_play (130, .iadd, 1, 0, []) (List.mem_of_getElem? (i := 65) rfl)) (by omega) (zp_r0 (by omega) (by omega)) ?_
          refine zp_putf (pc := 131) hx hb hEξ hwξ heffξ (zd_X1_play (131, .putfield 33, 3, 0, []) (List.mem_of_getElem? (i := 66) rfl)) (j := 11) rfl rfl rfl (zM_P hMr7ξ (hYbξ _ (List.mem_of_getElem? (i := 6) rfl))) (zp_o0 (by omega) (by omega) (by omega) (by omega)) ?_
          refine zp_iinc (L' := [(7, 0, ((k9ξ : Int) + 1)), (6, 0, (e9ξ + ((zf_rn7 Vm n1ξ npξ Lwξ).1))), (0, 2, (A 6 : Int)), (1, 2, (A 1 : Int)), (2, 2, (A 5 : Int)), (3, 2, (A 4 : Int)), (4, 0, p4ξ), (5, 0, p5ξ)]) (n := ((k9ξ : Int) + 1)) (pc := 134) hx hb hnLξ (zd_X1_play (134, .iinc 7 1, 3, 0, []) (List.mem_of_getElem? (i := 67) rfl)) (j := 1) rfl (by omega) (zp_r0 (by omega) (by omega)) rfl rfl ?_
          refine zp_goto (tgt := 36) (pc := 137) hx hb (zd_X1_play (137, .goto (-101), 3, 0, []) (List.mem_of_getElem? (i := 68) rfl)) rfl ?_
          refine zp_drop (L' := [(7, 0, ((k9ξ : Int) + 1)), (6, 0, (e9ξ + ((zf_rn7 Vm n1ξ npξ Lwξ).1))), (0, 2, (A 6 : Int)), (1, 2, (A 1 : Int)), (2, 2, (A 5 : Int)), (3, 2, (A 4 : Int)), (4, 0, p4ξ), (5, 0, p5ξ)]) (by simp) ?_
          refine ih (k9ξ + 1) (e9ξ + ((zf_rn7 Vm n1ξ npξ Lwξ).1)) (zp_set (zf_rn7 Vm n1ξ npξ Lwξ).2 6 2 (((zf_rn7 Vm n1ξ npξ Lwξ).2 6 2) + 1)) (zp_set Mr7 6 2 (((zf_rn7 Vm n1ξ npξ Lwξ).2 6 2) + 1)) (zp_set Gr7 (A 6) 2 (((zf_rn7 Vm n1ξ npξ Lwξ).2 6 2) + 1)) (by omega) (by omega) (by omega) (zM_set hMr7ξ (hYbξ _ (List.mem_of_getElem? (i := 6) rfl)) (zFx hFxξ (o := 6) (k := 2) (by decide) (by decide))) (zV_set hVr7ξ) (zCj_e (zCj_rn7 hCmξ (by omega)) (by decide)) ?_ ?_ ?_
          · rw [zp_set_self]
            omega
          · rw [zp_set_self]
            omega
          · rw [hz1ξ, if_neg (by omega)]
        · refine zp_load (pc := 94) hx hb (zd_X1_play (94, .aload_n 0, 1, 0, []) (List.mem_of_getElem? (i := 45) rfl)) rfl (j := 2) rfl ?_
          refine zp_getf (n := (A 7 : Int)) (pc := 95) hx hb hEξ hwξ (zd_X1_play (95, .getfield 12, 3, 0, []) (List.mem_of_getElem? (i := 46) rfl)) (j := 9) rfl rfl rfl (zM_P hMξ (hYbξ _ (List.mem_of_getElem? (i := 6) rfl))) ((zM_G hMξ (hYbξ _ (List.mem_of_getElem? (i := 6) rfl)) 0).trans (zM_F hMξ (hFbξ _ (List.mem_of_getElem? (i := 47) rfl)))) ?_
          refine zp_dup (pc := 98) hx hb (zd_X1_play (98, .dup, 1, 0, []) (List.mem_of_getElem? (i := 47) rfl)) (show (2 : Nat) ≠ 1 by decide) ?_
          refine zp_getf (n := (Vm 7 6)) (pc := 99) hx hb hEξ hwξ (zd_X1_play (99, .getfield 36, 3, 0, []) (List.mem_of_getElem? (i := 48) rfl)) (j := 4) rfl rfl rfl (zM_P hMξ (hYbξ _ (List.mem_of_getElem? (i := 7) rfl))) ((zM_G hMξ (hYbξ _ (List.mem_of_getElem? (i := 7) rfl)) 6).trans (hVξ 7 6 (by decide))) ?_
          refine zp_const (pc := 102) hx hb (zd_X1_play (102, .iconst 1, 1, 0, []) (List.mem_of_getElem? (i := 49) rfl)) rfl rfl ?_
          refine zp_add (n := ((Vm 7 6) + 1)) (pc := 103) hx hb (zd_X1_play (103, .iadd, 1, 0, []) (List.mem_of_getElem? (i := 50) rfl)) (by omega) (zp_r0 (by omega) (by omega)) ?_
          refine zp_putf (pc := 104) hx hb hEξ hwξ heffξ (zd_X1_play (104, .putfield 36, 3, 0, []) (List.mem_of_getElem? (i := 51) rfl)) (j := 4) rfl rfl rfl (zM_P hMξ (hYbξ _ (List.mem_of_getElem? (i := 7) rfl))) (zp_o0 (by omega) (by omega) (by omega) (by omega)) ?_
          refine zp_goto (tgt := 134) (pc := 107) hx hb (zd_X1_play (107, .goto 27, 3, 0, []) (List.mem_of_getElem? (i := 52) rfl)) rfl ?_
          refine zp_iinc (L' := [(7, 0, ((k9ξ : Int) + 1)), (6, 0, e9ξ), (0, 2, (A 6 : Int)), (1, 2, (A 1 : Int)), (2, 2, (A 5 : Int)), (3, 2, (A 4 : Int)), (4, 0, p4ξ), (5, 0, p5ξ)]) (n := ((k9ξ : Int) + 1)) (pc := 134) hx hb hnLξ (zd_X1_play (134, .iinc 7 1, 3, 0, []) (List.mem_of_getElem? (i := 67) rfl)) (j := 0) rfl (by omega) (zp_r0 (by omega) (by omega)) rfl rfl ?_
          refine zp_goto (tgt := 36) (pc := 137) hx hb (zd_X1_play (137, .goto (-101), 3, 0, []) (List.mem_of_getElem? (i := 68) rfl)) rfl ?_
          refine zp_drop (L' := [(7, 0, ((k9ξ : Int) + 1)), (6, 0, e9ξ), (0, 2, (A 6 : Int)), (1, 2, (A 1 : Int)), (2, 2, (A 5 : Int)), (3, 2, (A 4 : Int)), (4, 0, p4ξ), (5, 0, p5ξ)]) (by simp) ?_
          refine ih (k9ξ + 1) e9ξ (zp_set Vm 7 6 ((Vm 7 6) + 1)) (zp_set M 7 6 ((Vm 7 6) + 1)) (zp_set G (A 7) 6 ((Vm 7 6) + 1)) (by omega) (by omega) (by omega) (zM_set hMξ (hYbξ _ (List.mem_of_getElem? (i := 7) rfl)) (zFx hFxξ (o := 7) (k := 6) (by decide) (by decide))) (zV_set hVξ) (zCj_7 hCmξ ⟨fun h9ξ => absurd h9ξ (by decide), fun _ => ⟨by omega, by omega⟩, fun h9ξ => absurd h9ξ (by decide)⟩) ?_ ?_ ?_
          · rw [zp_set_ne (Or.inl (by decide)), h62mξ]
            exact hr0ξ
          · rw [zp_set_ne (Or.inl (by decide)), h62mξ]
            omega
          · rw [hz1ξ, if_pos (by omega)]
      refine zp_load (pc := 36) hx hb (zd_X1_play (36, .iload 7, 2, 0, []) (List.mem_of_getElem? (i := 19) rfl)) rfl (j := 0) rfl ?_
      refine zp_load (pc := 38) hx hb (zd_X1_play (38, .iload 5, 2, 0, []) (List.mem_of_getElem? (i := 20) rfl)) rfl (j := 7) rfl ?_
      refine zp_icmp (pc := 40) (tgt := 140) hx hb (zd_X1_play (40, .if_icmp .ge 100, 3, 0, []) (List.mem_of_getElem? (i := 21) rfl)) rfl (fun (hc679ξ : p5ξ ≤ (k9ξ : Int)) => ?_) (fun (hc679ξ : ¬ (p5ξ ≤ (k9ξ : Int))) => ?_)
      · exfalso
        omega
      · refine zp_load (pc := 43) hx hb (zd_X1_play (43, .aload_n 0, 1, 0, []) (List.mem_of_getElem? (i := 22) rfl)) rfl (j := 2) rfl ?_
        refine zp_getf (n := (A 7 : Int)) (pc := 44) hx hb hEξ hwξ (zd_X1_play (44, .getfield 12, 3, 0, []) (List.mem_of_getElem? (i := 23) rfl)) (j := 9) rfl rfl rfl (zM_P hMξ (hYbξ _ (List.mem_of_getElem? (i := 6) rfl))) ((zM_G hMξ (hYbξ _ (List.mem_of_getElem? (i := 6) rfl)) 0).trans (zM_F hMξ (hFbξ _ (List.mem_of_getElem? (i := 47) rfl)))) ?_
        refine zp_getf (n := (V 7 6)) (pc := 47) hx hb hEξ hwξ (zd_X1_play (47, .getfield 36, 3, 0, []) (List.mem_of_getElem? (i := 24) rfl)) (j := 4) rfl rfl rfl (zM_P hMξ (hYbξ _ (List.mem_of_getElem? (i := 7) rfl))) ((zM_G hMξ (hYbξ _ (List.mem_of_getElem? (i := 7) rfl)) 6).trans (hVξ 7 6 (by decide))) ?_
        refine zp_const (pc := 50) hx hb (zd_X1_play (50, .sipush 999, 3, 0, []) (List.mem_of_getElem? (i := 25) rfl)) rfl rfl ?_
        refine zp_icmp (pc := 53) (tgt := 140) hx hb (zd_X1_play (53, .if_icmp .ge 87, 3, 0, []) (List.mem_of_getElem? (i := 26) rfl)) rfl (fun (hc680ξ : 999 ≤ (V 7 6)) => ?_) (fun (hc680ξ : ¬ (999 ≤ (V 7 6))) => ?_)
        · refine zp_load (pc := 140) hx hb (zd_X1_play (140, .iload 6, 2, 0, []) (List.mem_of_getElem? (i := 69) rfl)) rfl (j := 1) rfl ?_
          refine zp_iret (pc := 142) (n := e9ξ) hx hb hEξ hQξ hU5ξ rfl (by decide) (zd_X1_play (142, .ireturn, 1, 0, []) (List.mem_of_getElem? (i := 70) rfl)) (j := 0) rfl (zp_o0 (by omega) (by omega) (by omega) (by omega)) ?_
          rw [hpsξ]
          refine ⟨rfl, ?_⟩
          have hz9ξ : zf_ply V0 n1ξ npξ Lwξ p4ξ p5ξ = (e9ξ, V) := (Eq.trans hzξ) (by rw [zc_dc, if_pos (by omega)])
          show zMVc A Y F (zf_ply V0 n1ξ npξ Lwξ p4ξ p5ξ).2 u.1 G ∧ e9ξ = (zf_ply V0 n1ξ npξ Lwξ p4ξ p5ξ).1
          rw [hz9ξ]
          exact ⟨⟨M, hMξ, hVξ, trivial⟩, rfl⟩
        · refine zp_load (pc := 56) hx hb (zd_X1_play (56, .aload_n 0, 1, 0, []) (List.mem_of_getElem? (i := 27) rfl)) rfl (j := 2) rfl ?_
          refine zp_getf (n := (A 7 : Int)) (pc := 57) hx hb hEξ hwξ (zd_X1_play (57, .getfield 12, 3, 0, []) (List.mem_of_getElem? (i := 28) rfl)) (j := 9) rfl rfl rfl (zM_P hMξ (hYbξ _ (List.mem_of_getElem? (i := 6) rfl))) ((zM_G hMξ (hYbξ _ (List.mem_of_getElem? (i := 6) rfl)) 0).trans (zM_F hMξ (hFbξ _ (List.mem_of_getElem? (i := 47) rfl)))) ?_
          refine zp_getf (n := (V 7 5)) (pc := 60) hx hb hEξ hwξ (zd_X1_play (60, .getfield 39, 3, 0, []) (List.mem_of_getElem? (i := 29) rfl)) (j := 3) rfl rfl rfl (zM_P hMξ (hYbξ _ (List.mem_of_getElem? (i := 7) rfl))) ((zM_G hMξ (hYbξ _ (List.mem_of_getElem? (i := 7) rfl)) 5).trans (hVξ 7 5 (by decide))) ?_
          refine zp_const (pc := 63) hx hb (zd_X1_play (63, .iconst (-1), 1, 0, []) (List.mem_of_getElem? (i := 30) rfl)) rfl rfl ?_
          refine zp_icmp (pc := 64) (tgt := 83) hx hb (zd_X1_play (64, .if_icmp .ne 19, 3, 0, []) (List.mem_of_getElem? (i := 31) rfl)) rfl (fun (hc681ξ : ¬ (V 7 5) = (-1)) => ?_) (fun (hc681ξ : ¬ (¬ (V 7 5) = (-1))) => ?_)
          · have hmeξ : zc_m V Lwξ = V := if_neg (fun h9ξ => by omega)
            refine zp_drop (L' := [(7, 0, (k9ξ : Int)), (6, 0, e9ξ), (0, 2, (A 6 : Int)), (1, 2, (A 1 : Int)), (2, 2, (A 5 : Int)), (3, 2, (A 4 : Int)), (4, 0, p4ξ), (5, 0, p5ξ)]) (by simp) ?_
            exact rest (by omega) M G hMξ (by rw [hmeξ]; exact hVξ)
          · refine zp_load (pc := 67) hx hb (zd_X1_play (67, .aload_n 0, 1, 0, []) (List.mem_of_getElem? (i := 32) rfl)) rfl (j := 2) rfl ?_
            refine zp_getf (n := (A 7 : Int)) (pc := 68) hx hb hEξ hwξ (zd_X1_play (68, .getfield 12, 3, 0, []) (List.mem_of_getElem? (i := 33) rfl)) (j := 9) rfl rfl rfl (zM_P hMξ (hYbξ _ (List.mem_of_getElem? (i := 6) rfl))) ((zM_G hMξ (hYbξ _ (List.mem_of_getElem? (i := 6) rfl)) 0).trans (zM_F hMξ (hFbξ _ (List.mem_of_getElem? (i := 47) rfl)))) ?_
            refine zp_getf (n := (V 7 4)) (pc := 71) hx hb hEξ hwξ (zd_X1_play (71, .getfield 42, 3, 0, []) (List.mem_of_getElem? (i := 34) rfl)) (j := 2) rfl rfl rfl (zM_P hMξ (hYbξ _ (List.mem_of_getElem? (i := 7) rfl))) ((zM_G hMξ (hYbξ _ (List.mem_of_getElem? (i := 7) rfl)) 4).trans (hVξ 7 4 (by decide))) ?_
            refine zp_kn (k := 4) (a := (A 7)) hwξ (show zp_fd 2 4 = some (2, 0, 0, 0, 1) from rfl) rfl (zM_P hMξ (hYbξ _ (List.mem_of_getElem? (i := 7) rfl))) (fun hf682ξ => ?_)
            have hf682bξ := zp_int hf682ξ
            rw [((zM_G hMξ (hYbξ _ (List.mem_of_getElem? (i := 7) rfl)) 4).trans (hVξ 7 4 (by decide)))] at hf682bξ
            clear hf682ξ
            refine zp_if (pc := 74) (tgt := 83) hx hb (zd_X1_play (74, .ifCond .ne 9, 3, 0, []) (List.mem_of_getElem? (i := 35) rfl)) rfl (fun (hc683ξ : ¬ (V 7 4) = 0) => ?_) (fun (hc683ξ : ¬ (¬ (V 7 4) = 0)) => ?_)
            · have hmeξ : zc_m V Lwξ = V := if_neg (fun h9ξ => by omega)
              refine zp_drop (L' := [(7, 0, (k9ξ : Int)), (6, 0, e9ξ), (0, 2, (A 6 : Int)), (1, 2, (A 1 : Int)), (2, 2, (A 5 : Int)), (3, 2, (A 4 : Int)), (4, 0, p4ξ), (5, 0, p5ξ)]) (by simp) ?_
              exact rest (by omega) M G hMξ (by rw [hmeξ]; exact hVξ)
            · refine zp_load (pc := 77) hx hb (zd_X1_play (77, .aload_n 0, 1, 0, []) (List.mem_of_getElem? (i := 36) rfl)) rfl (j := 2) rfl ?_
              refine zp_load (pc := 78) hx hb (zd_X1_play (78, .aload_n 1, 1, 0, []) (List.mem_of_getElem? (i := 37) rfl)) rfl (j := 3) rfl ?_
              refine zp_load (pc := 79) hx hb (zd_X1_play (79, .aload_n 3, 1, 0, []) (List.mem_of_getElem? (i := 38) rfl)) rfl (j := 5) rfl ?_
              refine zp_call (pc := 80) (how := 0) (idx := 46) (mi := 172) (S := []) hx hb hEξ hwξ heffξ hrmξ (zX_wbd hWξ A Y F V Lwξ) rfl (j := 2) rfl rfl (by decide +kernel) (zd_X1_play (80, .invokevirtual 46, 3, 0, []) (List.mem_of_getElem? (i := 39) rfl)) [(A 6 : Int), (A 1 : Int), (A 4 : Int)] rfl ⟨zp_o2 (zM_P hMξ (hYbξ _ (List.mem_of_getElem? (i := 6) rfl))), zp_o2 (zM_P hMξ (hYbξ _ (List.mem_of_getElem? (i := 1) rfl))), zp_o2 (zM_P hMξ (hYbξ _ (List.mem_of_getElem? (i := 4) rfl))), trivial⟩ (Nat.le_of_ble_eq_true rfl) ⟨⟨M, hMξ, hVξ, trivial⟩, rfl, hYF0ξ, rfl, rfl, ⟨by omega, by omega⟩, ⟨by omega, by omega⟩, hCjξ.2.1, hCjξ.2.2, zCj_lf hCjξ⟩ (fun al halξ rnwd Pwd Gwd hextwdξ hfrwdξ hokwdξ hcswdξ hpsiwdξ => ?_)
              obtain rfl := List.mem_singleton.mp halξ
              obtain ⟨hPewdξ, Mwd, hMwdξ, hVwdξ, hSbwdξ⟩ := hpsiwdξ
              subst hPewdξ
              clear hextwdξ hfrwdξ hcswdξ hokwdξ
              have hVwdξ : ∀ o k, zNc o → Mwd o k = (zf_wbd V Lwξ).2 o k := hVwdξ
              have hmeξ : zc_m V Lwξ = (zf_wbd V Lwξ).2 := if_pos ⟨by omega, by omega⟩
              refine zp_drop (L' := [(7, 0, (k9ξ : Int)), (6, 0, e9ξ), (0, 2, (A 6 : Int)), (1, 2, (A 1 : Int)), (2, 2, (A 5 : Int)), (3, 2, (A 4 : Int)), (4, 0, p4ξ), (5, 0, p5ξ)]) (by simp) ?_
              exact rest (by omega) Mwd Gwd hMwdξ (by rw [hmeξ]; exact hVwdξ)
  refine zp_drop (L' := [(7, 0, 0), (6, 0, 0), (0, 2, (A 6 : Int)), (1, 2, (A 1 : Int)), (2, 2, (A 5 : Int)), (3, 2, (A 4 : Int)), (4, 0, p4ξ), (5, 0, p5ξ)]) (by simp) ?_
  refine loop p5ξ.toNat 0 0 (zp_set (zp_set (zp_set (zf_kf7_2 V0).2 6 3 (V0 1 3)) 6 1 p4ξ) 6 2 0) (zp_set (zp_set (zp_set Ma674 6 3 (V0 1 3)) 6 1 p4ξ) 6 2 0) (zp_set (zp_set (zp_set Ga674 (A 6) 3 (V0 1 3)) (A 6) 1 p4ξ) (A 6) 2 0) (by omega) (by omega) (by omega) (zM_set (zM_set (zM_set hMa674ξ (hYbξ _ (List.mem_of_getElem? (i := 6) rfl)) (zFx hFxξ (o := 6) (k := 3) (by decide) (by decide))) (hYbξ _ (List.mem_of_getElem? (i := 6) rfl)) (zFx hFxξ (o := 6) (k := 1) (by decide) (by decide))) (hYbξ _ (List.mem_of_getElem? (i := 6) rfl)) (zFx hFxξ (o := 6) (k := 2) (by decide) (by decide))) (zV_set (zV_set (zV_set hVa674ξ))) (zCj_d0 hCIξ ⟨by omega, by omega⟩ ⟨by omega, by omega⟩) ?_ ?_ rfl
  · rw [zp_set_self]
    omega
  · rw [zp_set_self]
    omega
noncomputable def zf_dcdc (V : Nat → Nat → Int) (n1ξ npξ : Nat) (Lwξ : List yK) (p1ξ : Int) (p2ξ : Int) : Int × (Nat → Nat → Int) := if 0 ≤ p1ξ ∧ p1ξ ≤ 1000000 then if 1 ≤ p2ξ ∧ p2ξ ≤ 60 then (((zf_ans (zf_ply V n1ξ npξ Lwξ p1ξ p2ξ).2 ((zf_ply V n1ξ npξ Lwξ p1ξ p2ξ).1)).1), (zf_ans (zf_ply V n1ξ npξ Lwξ p1ξ p2ξ).2 ((zf_ply V n1ξ npξ Lwξ p1ξ p2ξ).1)).2) else (((zf_rfs V (-1)).1), (zf_rfs V (-1)).2) else (((zf_rfs V (-1)).1), (zf_rfs V (-1)).2)
noncomputable def zK_dcdc : zk_K := (zt_mn 170, prog_1_method_45_code, 3, (Option.some Jvm.ClassFile.FieldType.int), 1, 11, [(2, 12, 0, 0), (0, 0, (-2147483648), 2147483647), (0, 0, (-2147483648), 2147483647)], [(some (0, 0, (-2147483648), 2147483647), [])], zUC, (7, 420, 0, 0))
noncomputable def zφ_dcdc (A : Nat → Nat) (Y : List (Nat × Nat)) (F : List (Nat × Nat × Nat)) (V : Nat → Nat → Int) (n1ξ npξ : Nat) (Lwξ : List yK) : (Nat → Option Nat) → (Nat → Nat → Int) → List Int → Prop := fun P G ps => zMVc A Y F V P G ∧ ps.getD 0 0 = (A 0 : Int) ∧ zMc Y F ∧ zCI A Y F V n1ξ npξ Lwξ ∧ 0 ≤ V 1 16 ∧ V 1 16 ≤ 12
noncomputable def zψ_dcdc (A : Nat → Nat) (Y : List (Nat × Nat)) (F : List (Nat × Nat × Nat)) (V : Nat → Nat → Int) (n1ξ npξ : Nat) (Lwξ : List yK) : (Nat → Option Nat) → (Nat → Nat → Int) → List Int → (Nat → Option Nat) → (Nat → Nat → Int) → Int → Prop := fun P G ps P' G' rn => P' = P ∧ zMVc A Y F (zf_dcdc V n1ξ npξ Lwξ (ps.getD 1 0) (ps.getD 2 0)).2 P' G' ∧ rn = (zf_dcdc V n1ξ npξ Lwξ (ps.getD 1 0) (ps.getD 2 0)).1
theorem zX_dcdc {l : Launch} {w : zk_W} (hWξ : zh_W w) (A : Nat → Nat) (Y : List (Nat × Nat)) (F : List (Nat × Nat × Nat)) (V : Nat → Nat → Int) (n1ξ npξ : Nat) (Lwξ : List yK) : zk_metX l w zt_dv zt_TB zK_dcdc (zp_A (zφ_dcdc A Y F V n1ξ npξ Lwξ)) (zp_B (zψ_dcdc A Y F V n1ξ npξ Lwξ)) ∧ zk_cok w zt_TB zK_dcdc := by
  refine zp_methX (cn := "WoundTown") zp_lkallW hWξ (pl := 1284) rfl (by decide +kernel) (fun p e R s m args below meth c Q u hx hb hEξ hQξ hU5ξ heffξ hnLξ hokξ hφ => ?_)
  have hwξ := hWξ.1
  obtain ⟨p0ξ, p1ξ, p2ξ, hpsξ, tk0, tk1, tk2⟩ := zp_ps3 hokξ
  have hrmξ : zk_Kr (zk_ev (zt_types, zp_lkW, zt_dv, [], [], zp_lcW, zK_dcdc)) = zk_Kr zK_dcdc := rfl
  rw [hpsξ] at hφ ⊢
  have hφ : zMVc A Y F V u.1 (zp_n u.2.1) ∧ p0ξ = (A 0 : Int) ∧ zMc Y F ∧ zCI A Y F V n1ξ npξ Lwξ ∧ 0 ≤ V 1 16 ∧ V 1 16 ≤ 12 := hφ
  obtain ⟨⟨M, hMξ, hVξ, hSbξ⟩, rfl, hYFξ, hCIξ, hsu0ξ, hsu1ξ⟩ := hφ
  have hYF0ξ := hYFξ
  obtain ⟨hYbξ, hFbξ, hFxξ, -⟩ := hYFξ
  have hi1ξ := zp_int tk1
  have hi2ξ := zp_int tk2
  show zp_J p l e R s m args below meth c Q w u [] 0 [(0, 2, (A 0 : Int)), (1, 0, p1ξ), (2, 0, p2ξ)] [] u.1 (zp_n u.2.1)
  refine zp_load (pc := 0) hx hb (zd_X11_decade (0, .iload_n 1, 1, 0, []) (List.mem_of_getElem? (i := 0) rfl)) rfl (j := 1) rfl ?_
  refine zp_const (pc := 1) hx hb (zd_X11_decade (1, .iconst 0, 1, 0, []) (List.mem_of_getElem? (i := 1) rfl)) rfl rfl ?_
  refine zp_ldcw (pc := 2) hx hb hEξ (zd_X11_decade (2, .ldc_w 426, 3, 0, []) (List.mem_of_getElem? (i := 2) rfl)) (j := 76) rfl ?_
  refine zp_call (pc := 5) (how := 1) (idx := 107) (mi := 15) (S := []) hx hb hEξ hwξ heffξ hrmξ (zX_iwn hWξ) rfl (j := 10) rfl rfl (by decide +kernel) (zd_X11_decade (5, .invokestatic 107, 3, 0, []) (List.mem_of_getElem? (i := 3) rfl)) [p1ξ, 0, 1000000] rfl ⟨zp_o0 (by omega) (by omega) (by omega) (by omega), zp_o0 (by omega) (by omega) (by omega) (by omega), zp_o0 (by omega) (by omega) (by omega) (by omega), trivial⟩ (Nat.le_of_ble_eq_true rfl) trivial (fun al halξ rnn684ξ Pn684 Gn684 hextn684ξ hfrn684ξ hokn684ξ hcsn684ξ hpsin684ξ => ?_)
  obtain rfl := List.mem_singleton.mp halξ
  have hrn684ξ := zp_int (hokn684ξ _ rfl).1
  obtain ⟨hPen684ξ, hGen684ξ, htn684ξ⟩ := hpsin684ξ
  rw [hPen684ξ, hGen684ξ]
  clear hextn684ξ hfrn684ξ hcsn684ξ hPen684ξ hGen684ξ
  have htn684ξ : rnn684ξ = 1 ↔ 0 ≤ p1ξ ∧ p1ξ ≤ 1000000 := htn684ξ
  refine zp_if (pc := 8) (tgt := 21) hx hb (zd_X11_decade (8, .ifCond .eq 13, 3, 0, []) (List.mem_of_getElem? (i := 4) rfl)) rfl (fun (hc685ξ : rnn684ξ = 0) => ?_) (fun (hc685ξ : ¬ (rnn684ξ = 0)) => ?_)
  · have hbf686ξ : ¬ (0 ≤ p1ξ ∧ p1ξ ≤ 1000000) := fun h9ξ => absurd ((Iff.mpr htn684ξ) h9ξ) (by omega)
    refine zp_load (pc := 21) hx hb (zd_X11_decade (21, .aload_n 0, 1, 0, []) (List.mem_of_getElem? (i := 10) rfl)) rfl (j := 0) rfl ?_
    refine zp_const (pc := 22) hx hb (zd_X11_decade (22, .iconst (-1), 1, 0, []) (List.mem_of_getElem? (i := 11) rfl)) rfl rfl ?_
    refine zp_call (pc := 23) (how := 0) (idx := 111) (mi := 16) (S := []) hx hb hEξ hwξ heffξ hrmξ (zX_rfs hWξ A Y F V) rfl (j := 11) rfl rfl (by decide +kernel) (zd_X11_decade (23, .invokevirtual 111, 3, 0, []) (List.mem_of_getElem? (i := 12) rfl)) [(A 0 : Int), (-1)] rfl ⟨zp_o2 (zM_P hMξ (hYbξ _ (List.mem_of_getElem? (i := 0) rfl))), zp_o0 (by omega) (by omega) (by omega) (by omega), trivial⟩ (Nat.le_of_ble_eq_true rfl) ⟨⟨M, hMξ, hVξ, trivial⟩, rfl, hYF0ξ⟩ (fun al halξ rna688ξ Pa688 Ga688 hexta688ξ hfra688ξ hoka688ξ hcsa688ξ hpsia688ξ => ?_)
    obtain rfl := List.mem_singleton.mp halξ
    have hra688ξ := zp_int (hoka688ξ _ rfl).1
    obtain ⟨hPea688ξ, ⟨Ma688, hMa688ξ, hVa688ξ, hSba688ξ⟩, hta688ξ⟩ := hpsia688ξ
    subst hPea688ξ
    clear hexta688ξ hfra688ξ hcsa688ξ hoka688ξ
    have hVa688ξ : ∀ o k, zNc o → Ma688 o k = (zf_rfs V (-1)).2 o k := hVa688ξ
    have hta688ξ : rna688ξ = ((zf_rfs V (-1)).1) := hta688ξ
    have hta688ξ := (Eq.symm hta688ξ)
    subst hta688ξ
    refine zp_iret (pc := 26) (n := ((zf_rfs V (-1)).1)) hx hb hEξ hQξ hU5ξ rfl (by decide) (zd_X11_decade (26, .ireturn, 1, 0, []) (List.mem_of_getElem? (i := 13) rfl)) (j := 0) rfl (zp_o0 (by omega) (by omega) (by omega) (by omega)) ?_
    rw [hpsξ]
    refine ⟨rfl, ?_⟩
    have hffξ : zf_dcdc V n1ξ npξ Lwξ p1ξ p2ξ = (((zf_rfs V (-1)).1), (zf_rfs V (-1)).2) := by
      unfold zf_dcdc
      rw [if_neg (fun h9ξ => absurd ((Iff.mpr htn684ξ) h9ξ) (by omega))]
    show zMVc A Y F (zf_dcdc V n1ξ npξ Lwξ p1ξ p2ξ).2 u.1 Ga688 ∧ ((zf_rfs V (-1)).1) = (zf_dcdc V n1ξ npξ Lwξ p1ξ p2ξ).1
    rw [hffξ]
    exact ⟨⟨Ma688, hMa688ξ, hVa688ξ, trivial⟩, rfl⟩
  · have hbt687ξ := (Iff.mp htn684ξ) (by omega)
    refine zp_load (pc := 11) hx hb (zd_X11_decade (11, .iload_n 2, 1, 0, []) (List.mem_of_getElem? (i := 5) rfl)) rfl (j := 2) rfl ?_
    refine zp_const (pc := 12) hx hb (zd_X11_decade (12, .iconst 1, 1, 0, []) (List.mem_of_getElem? (i := 6) rfl)) rfl rfl ?_
    refine zp_const (pc := 13) hx hb (zd_X11_decade (13, .bipush 60, 2, 0, []) (List.mem_of_getElem? (i := 7) rfl)) rfl rfl ?_
    refine zp_call (pc := 15) (how := 1) (idx := 107) (mi := 15) (S := []) hx hb hEξ hwξ heffξ hrmξ (zX_iwn hWξ) rfl (j := 10) rfl rfl (by decide +kernel) (zd_X11_decade (15, .invokestatic 107, 3, 0, []) (List.mem_of_getElem? (i := 8) rfl)) [p2ξ, 1, 60] rfl ⟨zp_o0 (by omega) (by omega) (by omega) (by omega), zp_o0 (by omega) (by omega) (by omega) (by omega), zp_o0 (by omega) (by omega) (by omega) (by omega), trivial⟩ (Nat.le_of_ble_eq_true rfl) trivial (fun al halξ rnn689ξ Pn689 Gn689 hextn689ξ hfrn689ξ hokn689ξ hcsn689ξ hpsin689ξ => ?_)
    obtain rfl := List.mem_singleton.mp halξ
    have hrn689ξ := zp_int (hokn689ξ _ rfl).1
    obtain ⟨hPen689ξ, hGen689ξ, htn689ξ⟩ := hpsin689ξ
    rw [hPen689ξ, hGen689ξ]
    clear hextn689ξ hfrn689ξ hcsn689ξ hPen689ξ hGen689ξ
    have htn689ξ : rnn689ξ = 1 ↔ 1 ≤ p2ξ ∧ p2ξ ≤ 60 := htn689ξ
    refine zp_if (pc := 18) (tgt := 27) hx hb (zd_X11_decade (18, .ifCond .ne 9, 3, 0, []) (List.mem_of_getElem? (i := 9) rfl)) rfl (fun (hc690ξ : ¬ rnn689ξ = 0) => ?_) (fun (hc690ξ : ¬ (¬ rnn689ξ = 0)) => ?_)
    · have hbt691ξ := (Iff.mp htn689ξ) (by omega)
      refine zp_load (pc := 27) hx hb (zd_X11_decade (27, .aload_n 0, 1, 0, []) (List.mem_of_getElem? (i := 14) rfl)) rfl (j := 0) rfl ?_
      refine zp_load (pc := 28) hx hb (zd_X11_decade (28, .aload_n 0, 1, 0, []) (List.mem_of_getElem? (i := 15) rfl)) rfl (j := 0) rfl ?_
      refine zp_getf (n := (A 6 : Int)) (pc := 29) hx hb hEξ hwξ (zd_X11_decade (29, .getfield 60, 3, 0, []) (List.mem_of_getElem? (i := 16) rfl)) (j := 57) rfl rfl rfl (zM_P hMξ (hYbξ _ (List.mem_of_getElem? (i := 0) rfl))) ((zM_G hMξ (hYbξ _ (List.mem_of_getElem? (i := 0) rfl)) 7).trans (zM_F hMξ (hFbξ _ (List.mem_of_getElem? (i := 5) rfl)))) ?_
      refine zp_load (pc := 32) hx hb (zd_X11_decade (32, .aload_n 0, 1, 0, []) (List.mem_of_getElem? (i := 17) rfl)) rfl (j := 0) rfl ?_
      refine zp_getf (n := (A 1 : Int)) (pc := 33) hx hb hEξ hwξ (zd_X11_decade (33, .getfield 10, 3, 0, []) (List.mem_of_getElem? (i := 18) rfl)) (j := 50) rfl rfl rfl (zM_P hMξ (hYbξ _ (List.mem_of_getElem? (i := 0) rfl))) ((zM_G hMξ (hYbξ _ (List.mem_of_getElem? (i := 0) rfl)) 0).trans (zM_F hMξ (hFbξ _ (List.mem_of_getElem? (i := 0) rfl)))) ?_
      refine zp_load (pc := 36) hx hb (zd_X11_decade (36, .aload_n 0, 1, 0, []) (List.mem_of_getElem? (i := 19) rfl)) rfl (j := 0) rfl ?_
      refine zp_getf (n := (A 5 : Int)) (pc := 37) hx hb hEξ hwξ (zd_X11_decade (37, .getfield 39, 3, 0, []) (List.mem_of_getElem? (i := 20) rfl)) (j := 54) rfl rfl rfl (zM_P hMξ (hYbξ _ (List.mem_of_getElem? (i := 0) rfl))) ((zM_G hMξ (hYbξ _ (List.mem_of_getElem? (i := 0) rfl)) 4).trans (zM_F hMξ (hFbξ _ (List.mem_of_getElem? (i := 4) rfl)))) ?_
      refine zp_load (pc := 40) hx hb (zd_X11_decade (40, .aload_n 0, 1, 0, []) (List.mem_of_getElem? (i := 21) rfl)) rfl (j := 0) rfl ?_
      refine zp_getf (n := (A 4 : Int)) (pc := 41) hx hb hEξ hwξ (zd_X11_decade (41, .getfield 30, 3, 0, []) (List.mem_of_getElem? (i := 22) rfl)) (j := 53) rfl rfl rfl (zM_P hMξ (hYbξ _ (List.mem_of_getElem? (i := 0) rfl))) ((zM_G hMξ (hYbξ _ (List.mem_of_getElem? (i := 0) rfl)) 3).trans (zM_F hMξ (hFbξ _ (List.mem_of_getElem? (i := 3) rfl)))) ?_
      refine zp_load (pc := 44) hx hb (zd_X11_decade (44, .iload_n 1, 1, 0, []) (List.mem_of_getElem? (i := 23) rfl)) rfl (j := 1) rfl ?_
      refine zp_load (pc := 45) hx hb (zd_X11_decade (45, .iload_n 2, 1, 0, []) (List.mem_of_getElem? (i := 24) rfl)) rfl (j := 2) rfl ?_
      refine zp_call (pc := 46) (how := 0) (idx := 427) (mi := 171) (S := [(2, (A 0 : Int))]) hx hb hEξ hwξ heffξ hrmξ (zX_ply hWξ A Y F V n1ξ npξ Lwξ) rfl (j := 63) rfl rfl (by decide +kernel) (zd_X11_decade (46, .invokevirtual 427, 3, 0, []) (List.mem_of_getElem? (i := 25) rfl)) [(A 6 : Int), (A 1 : Int), (A 5 : Int), (A 4 : Int), p1ξ, p2ξ] rfl ⟨zp_o2 (zM_P hMξ (hYbξ _ (List.mem_of_getElem? (i := 6) rfl))), zp_o2 (zM_P hMξ (hYbξ _ (List.mem_of_getElem? (i := 1) rfl))), zp_o2 (zM_P hMξ (hYbξ _ (List.mem_of_getElem? (i := 5) rfl))), zp_o2 (zM_P hMξ (hYbξ _ (List.mem_of_getElem? (i := 4) rfl))), zp_o0 (by omega) (by omega) (by omega) (by omega), zp_o0 (by omega) (by omega) (by omega) (by omega), trivial⟩ (Nat.le_of_ble_eq_true rfl) ⟨⟨M, hMξ, hVξ, trivial⟩, rfl, hYF0ξ, rfl, rfl, rfl, hCIξ, ⟨hsu0ξ, hsu1ξ⟩, (show 0 ≤ p1ξ ∧ p1ξ ≤ 1000000 by omega), (show 1 ≤ p2ξ by omega), (show p2ξ ≤ 60 by omega)⟩ (fun al halξ rna693ξ Pa693 Ga693 hexta693ξ hfra693ξ hoka693ξ hcsa693ξ hpsia693ξ => ?_)
      obtain rfl := List.mem_singleton.mp halξ
      have hra693ξ := zp_int (hoka693ξ _ rfl).1
      obtain ⟨hPea693ξ, ⟨Ma693, hMa693ξ, hVa693ξ, hSba693ξ⟩, hta693ξ⟩ := hpsia693ξ
      subst hPea693ξ
      clear hexta693ξ hfra693ξ hcsa693ξ hoka693ξ
      have hVa693ξ : ∀ o k, zNc o → Ma693 o k = (zf_ply V n1ξ npξ Lwξ p1ξ p2ξ).2 o k := hVa693ξ
      have hta693ξ : rna693ξ = ((zf_ply V n1ξ npξ Lwξ p1ξ p2ξ).1) := hta693ξ
      have hta693ξ := (Eq.symm hta693ξ)
      subst hta693ξ
      refine zp_call (pc := 49) (how := 0) (idx := 118) (mi := 17) (S := []) hx hb hEξ hwξ heffξ hrmξ (zX_ans hWξ A Y F (zf_ply V n1ξ npξ Lwξ p1ξ p2ξ).2) rfl (j := 12) rfl rfl (by decide +kernel) (zd_X11_decade (49, .invokevirtual 118, 3, 0, []) (List.mem_of_getElem? (i := 26) rfl)) [(A 0 : Int), ((zf_ply V n1ξ npξ Lwξ p1ξ p2ξ).1)] rfl ⟨zp_o2 (zM_P hMa693ξ (hYbξ _ (List.mem_of_getElem? (i := 0) rfl))), zp_o0 (by omega) (by omega) (by omega) (by omega), trivial⟩ (Nat.le_of_ble_eq_true rfl) ⟨⟨Ma693, hMa693ξ, hVa693ξ, trivial⟩, rfl, hYF0ξ⟩ (fun al halξ rna694ξ Pa694 Ga694 hexta694ξ hfra694ξ hoka694ξ hcsa694ξ hpsia694ξ => ?_)
      obtain rfl := List.mem_singleton.mp halξ
      have hra694ξ := zp_int (hoka694ξ _ rfl).1
      obtain ⟨hPea694ξ, ⟨Ma694, hMa694ξ, hVa694ξ, hSba694ξ⟩, hta694ξ⟩ := hpsia694ξ
      subst hPea694ξ
      clear hexta694ξ hfra694ξ hcsa694ξ hoka694ξ
      have hVa694ξ : ∀ o k, zNc o → Ma694 o k = (zf_ans (zf_ply V n1ξ npξ Lwξ p1ξ p2ξ).2 ((zf_ply V n1ξ npξ Lwξ p1ξ p2ξ).1)).2 o k := hVa694ξ
      have hta694ξ : rna694ξ = ((zf_ans (zf_ply V n1ξ npξ Lwξ p1ξ p2ξ).2 ((zf_ply V n1ξ npξ Lwξ p1ξ p2ξ).1)).1) := hta694ξ
      have hta694ξ := (Eq.symm hta694ξ)
      subst hta694ξ
      refine zp_iret (pc := 52) (n := ((zf_ans (zf_ply V n1ξ npξ Lwξ p1ξ p2ξ).2 ((zf_ply V n1ξ npξ Lwξ p1ξ p2ξ).1)).1)) hx hb hEξ hQξ hU5ξ rfl (by decide) (zd_X11_decade (52, .ireturn, 1, 0, []) (List.mem_of_getElem? (i := 27) rfl)) (j := 0) rfl (zp_o0 (by omega) (by omega) (by omega) (by omega)) ?_
      rw [hpsξ]
      refine ⟨rfl, ?_⟩
      have hffξ : zf_dcdc V n1ξ npξ Lwξ p1ξ p2ξ = (((zf_ans (zf_ply V n1ξ npξ Lwξ p1ξ p2ξ).2 ((zf_ply V n1ξ npξ Lwξ p1ξ p2ξ).1)).1), (zf_ans (zf_ply V n1ξ npξ Lwξ p1ξ p2ξ).2 ((zf_ply V n1ξ npξ Lwξ p1ξ p2ξ).1)).2) := by
        unfold zf_dcdc
        rw [if_pos ((Iff.mp htn684ξ) (by omega)), if_pos ((Iff.mp htn689ξ) (by omega))]
      show zMVc A Y F (zf_dcdc V n1ξ npξ Lwξ p1ξ p2ξ).2 u.1 Ga694 ∧ ((zf_ans (zf_ply V n1ξ npξ Lwξ p1ξ p2ξ).2 ((zf_ply V n1ξ npξ Lwξ p1ξ p2ξ).1)).1) = (zf_dcdc V n1ξ npξ Lwξ p1ξ p2ξ).1
      rw [hffξ]
      exact ⟨⟨Ma694, hMa694ξ, hVa694ξ, trivial⟩, rfl⟩
    · have hbf692ξ : ¬ (1 ≤ p2ξ ∧ p2ξ ≤ 60) := fun h9ξ => absurd ((Iff.mpr htn689ξ) h9ξ) (by omega)
      refine zp_load (pc := 21) hx hb (zd_X11_decade (21, .aload_n 0, 1, 0, []) (List.mem_of_getElem? (i := 10) rfl)) rfl (j := 0) rfl ?_
      refine zp_const (pc := 22) hx hb (zd_X11_decade (22, .iconst (-1), 1, 0, []) (List.mem_of_getElem? (i := 11) rfl)) rfl rfl ?_
      refine zp_call (pc := 23) (how := 0) (idx := 111) (mi := 16) (S := []) hx hb hEξ hwξ heffξ hrmξ (zX_rfs hWξ A Y F V) rfl (j := 11) rfl rfl (by decide +kernel) (zd_X11_decade (23, .invokevirtual 111, 3, 0, []) (List.mem_of_getElem? (i := 12) rfl)) [(A 0 : Int), (-1)] rfl ⟨zp_o2 (zM_P hMξ (hYbξ _ (List.mem_of_getElem? (i := 0) rfl))), zp_o0 (by omega) (by omega) (by omega) (by omega), trivial⟩ (Nat.le_of_ble_eq_true rfl) ⟨⟨M, hMξ, hVξ, trivial⟩, rfl, hYF0ξ⟩ (fun al halξ rna695ξ Pa695 Ga695 hexta695ξ hfra695ξ hoka695ξ hcsa695ξ hpsia695ξ => ?_)
      obtain rfl := List.mem_singleton.mp halξ
      have hra695ξ := zp_int (hoka695ξ _ rfl).1
      obtain ⟨hPea695ξ, ⟨Ma695, hMa695ξ, hVa695ξ, hSba695ξ⟩, hta695ξ⟩ := hpsia695ξ
      subst hPea695ξ
      clear hexta695ξ hfra695ξ hcsa695ξ hoka695ξ
      have hVa695ξ : ∀ o k, zNc o → Ma695 o k = (zf_rfs V (-1)).2 o k := hVa695ξ
      have hta695ξ : rna695ξ = ((zf_rfs V (-1)).1) := hta695ξ
      have hta695ξ := (Eq.symm hta695ξ)
      subst hta695ξ
      refine zp_iret (pc := 26) (n := ((zf_rfs V (-1)).1)) hx hb hEξ hQξ hU5ξ rfl (by decide) (zd_X11_decade (26, .ireturn, 1, 0, []) (List.mem_of_getElem? (i := 13) rfl)) (j := 0) rfl (zp_o0 (by omega) (by omega) (by omega) (by omega)) ?_
      rw [hpsξ]
      refine ⟨rfl, ?_⟩
      have hffξ : zf_dcdc V n1ξ npξ Lwξ p1ξ p2ξ = (((zf_rfs V (-1)).1), (zf_rfs V (-1)).2) := by
        unfold zf_dcdc
        rw [if_pos ((Iff.mp htn684ξ) (by omega)), if_neg (fun h9ξ => absurd ((Iff.mpr htn689ξ) h9ξ) (by omega))]
      show zMVc A Y F (zf_dcdc V n1ξ npξ Lwξ p1ξ p2ξ).2 u.1 Ga695 ∧ ((zf_rfs V (-1)).1) = (zf_dcdc V n1ξ npξ Lwξ p1ξ p2ξ).1
      rw [hffξ]
      exact ⟨⟨Ma695, hMa695ξ, hVa695ξ, trivial⟩, rfl⟩
