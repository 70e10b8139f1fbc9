/-! part lf: what can be undone agrees behind orders; undo -/
theorem zU_hd {V : Nat → Nat → Int} : zUe V (zo_hd V) := by
  unfold zo_hd
  exact zUe_o (Or.inr (by decide)) (by decide) (by decide) (zUe_o (Or.inl (by decide)) (by decide) (by decide) (zUe_o (Or.inl (by decide)) (by decide) (by decide) (zUe_o (Or.inl (by decide)) (by decide) (by decide) (zUe_o (Or.inl (by decide)) (by decide) (by decide) (zUe_o (Or.inl (by decide)) (by decide) (by decide) zUe_i)))))
theorem zU_run {A : Nat → Nat} {Y : List (Nat × Nat)} {F : List (Nat × Nat × Nat)} {V W : Nat → Nat → Int} {nu n1 np : Nat} {Lw : List yK} {K : yK} (h : zRo V W) (hI : zRI V nu n1 np Lw) (hz : zRz V np) (hK : zo_wf K) (hT : ∀ x, K.2.2.2.2 = some x → yd_T x) (hC : zCI A Y F W n1 np Lw) (hU : zUU V W n1 np) : zUU (zo_run V nu n1 np Lw K).2 (zo_runC W n1 np Lw K).2 n1 np := by
  have he := zo_e_q h hI
  obtain ⟨h1, h2, h3⟩ := h
  have hh : zRr (zo_hd V) W := zRr_v h1 (fun j _ => zo_hd_o (by decide) (Or.inl (by decide)))
  have hIh := zRI_hd hI
  have hzh := zRz_hd hz
  have hUh : zUU (zo_hd V) W n1 np := zUU_e zU_hd (fun j _ _ => zo_hd_o (by decide) (Or.inl (by decide))) zUd_i hU
  have hA := zo_1c (en := zo_eV (zo_hd V)) (xo := K.2.1) (Q := K.1 = 2) hK.2.1
  have hB := zo_1c (en := zo_eV (zo_hd V)) (xo := K.2.2.1) (Q := K.1 ≠ 1) (by
    by_cases c : K.1 = 1
    · exact Or.inr (hK.2.2.1 c)
    · exact Or.inl c)
  unfold zo_runC zo_run
  rw [he, zo_tb_c hT]
  by_cases c : zo_tb (zo_eV (zo_hd V)) K.2.2.2.2 = true
  · rw [if_pos c, if_pos c]
    rcases hA with ⟨a, a', x1, x2, x3⟩ | ⟨x1, x2⟩
    · rcases hB with ⟨b, b', y1, y2, y3⟩ | ⟨y1, y2⟩
      · simp only [x1, x2, y1, y2]
        rw [zo_doC_ab x3 y3]
        have hd := zS_do (k := K.1) (a := a) (b := b) hh hIh hzh.1 hIh.1.2.2.1 hzh.2
        have hu := zU_do (k := K.1) (a := a) (b := b) hh hIh hzh hd.1 (zDm_of hh hC) hUh
        rw [hd.1]
        by_cases d : (zo_do (zo_hd V) nu n1 np Lw K.1 a b).1 < 0
        · rw [if_pos d, if_pos d]
          exact hu
        · rw [if_neg d, if_neg d]
          refine zUU_e ?_ ?_ ?_ hu
          · exact zUe_o (Or.inr (by decide)) (by decide) (by decide) (zUe_o (Or.inr (by decide)) (by decide) (by decide) zUe_i)
          · exact fun j _ _ => by (try dsimp only); exact (zp_set_ne (Or.inl (by decide))).trans (zp_set_ne (Or.inl (by decide)))
          · by_cases k2 : K.1 = 2
            · rw [if_pos k2]
              exact zUd_o (by decide) (by decide) (by decide) (zUd_o (by decide) (by decide) (by decide) zUd_i)
            · rw [if_neg k2]
              exact zUd_o (by decide) (by decide) (by decide) zUd_i
      · simp only [x1, x2, y1, y2]
        exact hUh
    · rcases hB with ⟨b, b', y1, y2, y3⟩ | ⟨y1, y2⟩
      · simp only [x1, x2, y1, y2]
        exact hUh
      · simp only [x1, x2, y1, y2]
        exact hUh
  · rw [if_neg c, if_neg c]
    exact hUh
theorem zU_tm {A : Nat → Nat} {Y : List (Nat × Nat)} {F : List (Nat × Nat × Nat)} {n1 np : Nat} {Lw : List yK} {K : yK} (hK : zo_wf K) (hT : ∀ x, K.2.2.2.2 = some x → yd_T x) : ∀ {t : Nat} {V W : Nat → Nat → Int} {nu : Nat}, zCI A Y F W n1 np Lw → zUU V W n1 np → zRo V W → zRI V nu n1 np Lw → zRz V np → zUU (zo_tm n1 np Lw K t V).2 (zo_tmC n1 np Lw K t W).2 n1 np
  | 0, _, _, _, _, h, _, _, _ => h
  | t + 1, V, W, nu, hC, h, hr, hI, hz => by
    have e8 : (V 0 8).toNat = nu := by
      have h8 := hI.2.1.1
      omega
    have h1 := zS_run hr hI hz hK hT
    obtain ⟨nu', hI'⟩ := zRI_run (K := K) hI
    have hz' := zRz_run (nu := nu) (n1 := n1) (Lw := Lw) (K := K) hz
    have hs := zU_run hr hI hz hK hT hC h
    rw [zo_tm, zo_tmC, e8]
    by_cases c : (zo_run V nu n1 np Lw K).1 < 0
    · rw [if_pos c, if_neg (fun z => h1.1.mp z c)]
      exact hs
    · rw [if_neg c, if_pos (h1.1.mpr c)]
      exact zU_tm hK hT (zCI_runC hC) hs h1.2 hI' hz'
theorem zU_cs {A : Nat → Nat} {Y : List (Nat × Nat)} {F : List (Nat × Nat × Nat)} {n1 np : Nat} {Lw : List yK} : ∀ {L : List yK} {i : Nat} {V W : Nat → Nat → Int} {nu : Nat}, (∀ K ∈ L, zo_wf K ∧ ∀ x, K.2.2.2.2 = some x → yd_T x) → zCI A Y F W n1 np Lw → zUU V W n1 np → zRo V W → zRI V nu n1 np Lw → zRz V np → zUU (zo_cs n1 np Lw L i V).2 (zo_csC n1 np Lw L i W).2 n1 np
  | [], _, _, _, _, _, _, h, _, _, _ => h
  | K :: r, i, V, W, nu, hL, hC, h, hr, hI, hz => by
    have hK := hL K List.mem_cons_self
    have hs := zU_tm (t := K.2.2.2.1.toNat) hK.1 hK.2 hC h hr hI hz
    obtain ⟨e1, h2, ⟨nu', hI'⟩, hz'⟩ := zS_tm (t := K.2.2.2.1.toNat) hK.1 hK.2 hr hI hz
    rw [zo_cs, zo_csC, e1]
    by_cases c : (zo_tm n1 np Lw K K.2.2.2.1.toNat V).1 = true
    · rw [if_pos c, if_pos c]
      exact zU_cs (fun K' h' => hL K' (List.mem_cons_of_mem _ h')) (zCI_tmC hC) hs h2 hI' hz'
    · rw [if_neg c, if_neg c]
      exact hs
/-- orders leave what is kept aside -/
theorem zo_tm_k {n1 np : Nat} {Lw : List yK} {K : yK} {o k : Nat} (h3 : o ≠ 3) (h6 : o ≠ 6) (h7 : o ≠ 7) (h36 : o ≠ 36) (h0 : o ≠ 0) : ∀ {t : Nat} {V : Nat → Nat → Int}, (zo_tm n1 np Lw K t V).2 o k = V o k
  | 0, _ => rfl
  | t + 1, V => by
    have h1 : (zo_run V (V 0 8).toNat n1 np Lw K).2 o k = V o k := zo_run_k h3 h6 h7 h36 (Or.inl h0)
    rw [zo_tm]
    split
    · exact h1
    · exact (zo_tm_k h3 h6 h7 h36 h0).trans h1
theorem zo_cs_k {n1 np : Nat} {Lw : List yK} {o k : Nat} (h3 : o ≠ 3) (h6 : o ≠ 6) (h7 : o ≠ 7) (h36 : o ≠ 36) (h0 : o ≠ 0) : ∀ {L : List yK} {i : Nat} {V : Nat → Nat → Int}, (zo_cs n1 np Lw L i V).2 o k = V o k
  | [], _, _ => rfl
  | K :: r, i, V => by
    have h1 : (zo_tm n1 np Lw K K.2.2.2.1.toNat V).2 o k = V o k := zo_tm_k h3 h6 h7 h36 h0
    rw [zo_cs]
    split
    · exact (zo_cs_k h3 h6 h7 h36 h0).trans h1
    · exact h1
theorem zU_tell {V : Nat → Nat → Int} {v : Int} : zUe V (zT_tell V v) := by
  unfold zT_tell
  split
  · exact zUe_o (Or.inl (by decide)) (by decide) (by decide) (zUe_o (Or.inr (by decide)) (by decide) (by decide) zUe_i)
  · exact zUe_o (Or.inr (by decide)) (by decide) (by decide) zUe_i
theorem zT_tell_o {V : Nat → Nat → Int} {v : Int} {o k : Nat} (h0 : o ≠ 0) (h2 : o ≠ 2) : zT_tell V v o k = V o k := by
  unfold zT_tell
  split
  · exact (zp_set_ne (Or.inl h2)).trans (zp_set_ne (Or.inl h0))
  · exact zp_set_ne (Or.inl h0)
theorem zU_be {V : Nat → Nat → Int} : zUe V (zo_be V) := by
  refine ⟨zo_be_o (by decide) (by decide) (by decide) (Or.inr (by decide)), fun j hj => ?_, fun j hj => zo_be_o (by decide) (by decide) (by decide) (Or.inl (by decide))⟩
  unfold zo_be
  rw [zp_set_ne (Or.inl (by decide)), zp_set_ne (Or.inl (by decide)), zc_cp_o (by decide), zc_cp_o (by decide), zc_cp_n (Or.inl (by omega))]
theorem zU_b0 {W : Nat → Nat → Int} : zUd W (zo_b0C W) := by
  unfold zo_b0C
  exact zUd_o (by decide) (by decide) (by decide) (zUd_o (by decide) (by decide) (by decide) zUd_i)
theorem zU_k9 {W : Nat → Nat → Int} : zUd W (zf_kf9_2 W).2 := zUd_f (fun o k ho => zf_kf9_2_f (fun hm => by
  have h9 : o = 9 ∨ o = 59 ∨ o = 60 ∨ o = 61 := by simpa using hm
  omega))
theorem zU_u10 {W : Nat → Nat → Int} : zUd W (zf_uf10_3 W).2 := zUd_f (fun o k ho => zf_uf10_3_f (fun hm => by
  have h9 : o = 10 ∨ o = 64 ∨ o = 65 := by simpa using hm
  omega))
theorem zU_beC {W : Nat → Nat → Int} : zUd W (zo_beC W) := by
  unfold zo_beC
  exact zUd_o (by decide) (by decide) (by decide) (zUd_o (by decide) (by decide) (by decide) (zUd_t zU_b0 (zUd_t zU_k9 zU_u10)))
/-- all is given back: what can be undone, too -/
theorem zU_gb {V X : Nat → Nat → Int} {nu : Nat} (h8 : V 0 8 = (nu : Int)) (h9 : ∀ k, X 9 k = zo_be V 9 k) (h10 : ∀ k, X 10 k = zo_be V 10 k) : zUe V (zo_gb X (nu : Int)) := by
  refine ⟨?_, fun j hj => ?_, fun j hj => ?_⟩
  · unfold zo_gb
    rw [zp_set_self, h8]
  · unfold zo_gb
    rw [zp_set_ne (Or.inl (by decide)), zc_cp_o (by decide), zc_cp_e (by omega) (by omega), zc_cp_o (by decide), h9, show 0 + (j - 0) = j by omega]
    unfold zo_be
    rw [zp_set_ne (Or.inl (by decide)), zp_set_ne (Or.inl (by decide)), zc_cp_o (by decide), zc_cp_e (by omega) (by omega), zc_cp_n (Or.inl (by omega)), show 0 + (j - 0) = j by omega]
  · unfold zo_gb
    rw [zp_set_ne (Or.inl (by decide)), zc_cp_e (by omega) (by omega), zc_cp_o (by decide), zc_cp_o (by decide), h10, show 0 + (j - 0) = j by omega]
    unfold zo_be
    rw [zp_set_ne (Or.inl (by decide)), zp_set_ne (Or.inl (by decide)), zc_cp_e (by omega) (by omega), zc_cp_o (by decide), zc_cp_o (by decide), show 0 + (j - 0) = j by omega]
theorem zU_gbC {W Y : Nat → Nat → Int} {c : Int} (h : zKc (zo_beC W) Y) : zUd W (zo_gbC Y c) := by
  have d9 : zUd W (zf_kf9_2 (zo_b0C W)).2 := zUd_t zU_b0 zU_k9
  obtain ⟨d1, d2, d3, d4⟩ := d9
  have b2 : Y 10 2 = W 3 2 := by
    rw [h 10 2 (by omega)]
    show zp_set (zp_set (zp_set (zp_set (zc_cp (zc_cp _ 62 0 64 0 16) 63 0 65 0 416) 10 2 _) 10 3 _) 0 13 0) 0 14 (-1) 10 2 = _
    rw [zp_set_ne (Or.inl (by decide)), zp_set_ne (Or.inl (by decide)), zp_set_ne (Or.inr (by decide)), zp_set_self]
    exact d1
  have b3 : Y 10 3 = W 3 3 := by
    rw [h 10 3 (by omega)]
    show zp_set (zp_set (zp_set (zp_set (zc_cp (zc_cp _ 62 0 64 0 16) 63 0 65 0 416) 10 2 _) 10 3 _) 0 13 0) 0 14 (-1) 10 3 = _
    rw [zp_set_ne (Or.inl (by decide)), zp_set_ne (Or.inl (by decide)), zp_set_self]
    exact d2
  have b64 : ∀ j, j < 16 → Y 64 (2000 + j) = W 62 (2000 + j) := fun j hj => by
    rw [h 64 _ (by omega)]
    show zp_set (zp_set (zp_set (zp_set (zc_cp (zc_cp _ 62 0 64 0 16) 63 0 65 0 416) 10 2 _) 10 3 _) 0 13 0) 0 14 (-1) 64 (2000 + j) = _
    rw [zp_set_ne (Or.inl (by decide)), zp_set_ne (Or.inl (by decide)), zp_set_ne (Or.inl (by decide)), zp_set_ne (Or.inl (by decide)), zc_cp_o (by decide), zc_cp_e (by omega) (by omega), show 0 + (j - 0) = j by omega]
    exact d3 j hj
  have b65 : ∀ j, j < 416 → Y 65 (2000 + j) = W 63 (2000 + j) := fun j hj => by
    rw [h 65 _ (by omega)]
    show zp_set (zp_set (zp_set (zp_set (zc_cp (zc_cp _ 62 0 64 0 16) 63 0 65 0 416) 10 2 _) 10 3 _) 0 13 0) 0 14 (-1) 65 (2000 + j) = _
    rw [zp_set_ne (Or.inl (by decide)), zp_set_ne (Or.inl (by decide)), zp_set_ne (Or.inl (by decide)), zp_set_ne (Or.inl (by decide)), zc_cp_e (by omega) (by omega), zc_cp_o (by decide), show 0 + (j - 0) = j by omega]
    exact d4 j hj
  have k2 : ∀ o k, o ≠ 2 → o ≠ 50 → o ≠ 51 → o ≠ 52 → (zf_kf2_9 Y).2 o k = Y o k := fun o k e1 e2 e3 e4 => zf_kf2_9_f (fun hm => by
    have h9 : o = 2 ∨ o = 50 ∨ o = 51 ∨ o = 52 := by simpa using hm
    omega)
  refine ⟨?_, ?_, fun j hj => ?_, fun j hj => ?_⟩
  · show zp_set (zp_set (zp_set (zc_cp (zc_cp (zf_kf2_9 Y).2 64 0 62 0 16) 65 0 63 0 416) 3 2 ((zf_kf2_9 Y).2 10 2)) 3 3 ((zf_kf2_9 Y).2 10 3)) 0 15 c 3 2 = _
    rw [zp_set_ne (Or.inl (by decide)), zp_set_ne (Or.inr (by decide)), zp_set_self, k2 10 2 (by decide) (by decide) (by decide) (by decide)]
    exact b2
  · show zp_set (zp_set (zp_set (zc_cp (zc_cp (zf_kf2_9 Y).2 64 0 62 0 16) 65 0 63 0 416) 3 2 ((zf_kf2_9 Y).2 10 2)) 3 3 ((zf_kf2_9 Y).2 10 3)) 0 15 c 3 3 = _
    rw [zp_set_ne (Or.inl (by decide)), zp_set_self, k2 10 3 (by decide) (by decide) (by decide) (by decide)]
    exact b3
  · show zp_set (zp_set (zp_set (zc_cp (zc_cp (zf_kf2_9 Y).2 64 0 62 0 16) 65 0 63 0 416) 3 2 ((zf_kf2_9 Y).2 10 2)) 3 3 ((zf_kf2_9 Y).2 10 3)) 0 15 c 62 (2000 + j) = _
    rw [zp_set_ne (Or.inl (by decide)), zp_set_ne (Or.inl (by decide)), zp_set_ne (Or.inl (by decide)), zc_cp_o (by decide), zc_cp_e (by omega) (by omega), show 0 + (j - 0) = j by omega, k2 64 _ (by decide) (by decide) (by decide) (by decide)]
    exact b64 j hj
  · show zp_set (zp_set (zp_set (zc_cp (zc_cp (zf_kf2_9 Y).2 64 0 62 0 16) 65 0 63 0 416) 3 2 ((zf_kf2_9 Y).2 10 2)) 3 3 ((zf_kf2_9 Y).2 10 3)) 0 15 c 63 (2000 + j) = _
    rw [zp_set_ne (Or.inl (by decide)), zp_set_ne (Or.inl (by decide)), zp_set_ne (Or.inl (by decide)), zc_cp_e (by omega) (by omega), zc_cp_o (by decide), show 0 + (j - 0) = j by omega, k2 65 _ (by decide) (by decide) (by decide) (by decide)]
    exact b65 j hj
theorem zU_all {A : Nat → Nat} {Y : List (Nat × Nat)} {F : List (Nat × Nat × Nat)} {V W : Nat → Nat → Int} {nu n1 np : Nat} {Lw L : List yK} (hr : zRr V W) (hI : zRI V nu n1 np Lw) (hz : zRz V np) (hL : ∀ K ∈ L, zo_wf K ∧ ∀ x, K.2.2.2.2 = some x → yd_T x) (hC : zCI A Y F W n1 np Lw) (hU : zUU V W n1 np) : zUU (zo_all V nu n1 np Lw L).2 (zo_allC W n1 np Lw L).2 n1 np := by
  have hb := zS_be hr
  have hIb := zRI_be hI
  have k3b : ∀ k, zo_be V 3 k = V 3 k := fun k => zo_be_o (by decide) (by decide) (by decide) (Or.inl (by decide))
  have hzb : zRz (zo_be V) np := zRz_v k3b hz
  obtain ⟨e1, -, -, -⟩ := zS_cs (i := 0) hL hb hIb hzb
  have hUb : zUU (zo_be V) (zo_beC W) n1 np := zUU_e zU_be (fun j _ _ => k3b _) zU_beC hU
  have hs := zU_cs (i := 0) hL (zCI_be hC) hUb hb hIb hzb
  have hX := zKr_cs (L := L) (i := 0) hIb
  have hY := zKc_cs (n1 := n1) (np := np) (Lw := Lw) (L := L) (i := 0) (W := zo_beC W)
  unfold zo_allC zo_all
  rw [e1]
  by_cases c : (zo_cs n1 np Lw L 0 (zo_be V)).1 < 0
  · rw [if_pos c, if_pos c]
    refine zUU_e zU_tell (fun j _ _ => zT_tell_o (by decide) (by decide)) (zUd_f (fun o k ho => zf_ans_f (fun hm => ?_))) hs
    have h9 : o = 0 := by simpa using hm
    omega
  · rw [if_neg c, if_neg c]
    dsimp only
    refine zUU_e (zUe_t (zU_gb (X := (zo_cs n1 np Lw L 0 (zo_be V)).2) hI.2.1.1 (fun k => zo_cs_k (by decide) (by decide) (by decide) (by decide) (by decide)) (fun k => zo_cs_k (by decide) (by decide) (by decide) (by decide) (by decide))) (zUe_t (zUe_o (o := 0) (k := 59) (Or.inr (by decide)) (by decide) (by decide) zUe_i) zU_tell)) (fun j _ _ => ?_) (zUd_t (zU_gbC hY) (zUd_f (fun o k ho => zf_rfs_f (fun hm => ?_)))) hU
    · refine (zT_tell_o (by decide) (by decide)).trans ((zp_set_ne (Or.inl (by decide))).trans ?_)
      exact zo_gb_3 hX
    · have h9 : o = 0 ∨ o = 20 := by simpa using hm
      omega
/-- undo: what the class takes back -/
theorem zf_tkf2_o {W : Nat → Nat → Int} {t p : Nat} (hp : p < 6) : (zf_tkf2 W t).2 50 (2000 + p) = W 63 (2000 + (26 * t + p)) := by
  unfold zf_tkf2
  split
  · dsimp only
    rw [zp_set_ne (Or.inl (by decide)), zp_set_ne (Or.inl (by decide)), zp_set_ne (Or.inl (by decide)), zp_set_ne (Or.inl (by decide)), zc_cp_o (by decide), zc_cp_o (by decide), zc_cp_e (by omega) (by omega), show 26 * t + (p - 0) = 26 * t + p by omega]
  · dsimp only
    rw [zp_set_ne (Or.inl (by decide)), zp_set_ne (Or.inl (by decide)), zp_set_ne (Or.inl (by decide)), zp_set_ne (Or.inl (by decide)), zc_cp_o (by decide), zc_cp_o (by decide), zc_cp_e (by omega) (by omega), show 26 * t + (p - 0) = 26 * t + p by omega]
theorem zf_tkf2_l {W : Nat → Nat → Int} {t p : Nat} (hp : p < 6) : (zf_tkf2 W t).2 51 (2000 + p) = W 63 (2000 + (26 * t + 6 + p)) := by
  unfold zf_tkf2
  split
  · dsimp only
    rw [zp_set_ne (Or.inl (by decide)), zp_set_ne (Or.inl (by decide)), zp_set_ne (Or.inl (by decide)), zp_set_ne (Or.inl (by decide)), zc_cp_o (by decide), zc_cp_e (by omega) (by omega), zc_cp_o (by decide), show 26 * t + 6 + (p - 0) = 26 * t + 6 + p by omega]
  · dsimp only
    rw [zp_set_ne (Or.inl (by decide)), zp_set_ne (Or.inl (by decide)), zp_set_ne (Or.inl (by decide)), zp_set_ne (Or.inl (by decide)), zc_cp_o (by decide), zc_cp_e (by omega) (by omega), zc_cp_o (by decide), show 26 * t + 6 + (p - 0) = 26 * t + 6 + p by omega]
theorem zf_tkf2_w {W : Nat → Nat → Int} {t p : Nat} (hp : p < 10) : (zf_tkf2 W t).2 52 (2000 + p) = W 63 (2000 + (26 * t + 12 + p)) := by
  unfold zf_tkf2
  split
  · dsimp only
    rw [zp_set_ne (Or.inl (by decide)), zp_set_ne (Or.inl (by decide)), zp_set_ne (Or.inl (by decide)), zp_set_ne (Or.inl (by decide)), zc_cp_e (by omega) (by omega), zc_cp_o (by decide), zc_cp_o (by decide), show 26 * t + 12 + (p - 0) = 26 * t + 12 + p by omega]
  · dsimp only
    rw [zp_set_ne (Or.inl (by decide)), zp_set_ne (Or.inl (by decide)), zp_set_ne (Or.inl (by decide)), zp_set_ne (Or.inl (by decide)), zc_cp_e (by omega) (by omega), zc_cp_o (by decide), zc_cp_o (by decide), show 26 * t + 12 + (p - 0) = 26 * t + 12 + p by omega]
theorem zf_tkf2_r {W : Nat → Nat → Int} {t : Nat} (h9 : 0 ≤ W 63 (2000 + (26 * t + 23)) ∧ W 63 (2000 + (26 * t + 23)) ≤ 1) : (zf_tkf2 W t).2 2 3 = W 63 (2000 + (26 * t + 22)) ∧ (zf_tkf2 W t).2 2 4 = W 63 (2000 + (26 * t + 23)) ∧ (zf_tkf2 W t).2 2 5 = W 63 (2000 + (26 * t + 24)) ∧ (zf_tkf2 W t).2 2 6 = W 63 (2000 + (26 * t + 25)) := by
  unfold zf_tkf2
  by_cases c : ¬ W 63 (2000 + (26 * t + 23)) = 1
  · rw [if_pos c]
    dsimp only
    refine ⟨?_, ?_, ?_, zp_set_self⟩
    · rw [zp_set_ne (Or.inr (by decide)), zp_set_ne (Or.inr (by decide)), zp_set_ne (Or.inr (by decide)), zp_set_self]
    · rw [zp_set_ne (Or.inr (by decide)), zp_set_ne (Or.inr (by decide)), zp_set_self]
      omega
    · rw [zp_set_ne (Or.inr (by decide)), zp_set_self]
  · rw [if_neg c]
    dsimp only
    refine ⟨?_, ?_, ?_, zp_set_self⟩
    · rw [zp_set_ne (Or.inr (by decide)), zp_set_ne (Or.inr (by decide)), zp_set_ne (Or.inr (by decide)), zp_set_self]
    · rw [zp_set_ne (Or.inr (by decide)), zp_set_ne (Or.inr (by decide)), zp_set_self]
      omega
    · rw [zp_set_ne (Or.inr (by decide)), zp_set_self]
theorem zPl_kj : ∀ j, j < 180 → (j < 5 ∨ j = 6 ∨ j = 7 ∨ 39 ≤ j ∨ (11 ≤ j ∧ j < 29 ∧ (j - 11) % 3 = 1)) → (zPl j).1 ∉ ([2, 50, 51, 52] : List Nat) := by decide +kernel
theorem zRc_tkf {W : Nat → Nat → Int} {t : Nat} {R S : Nat → Int} (hU : zUo W t R) (h9 : 0 ≤ R 9 ∧ R 9 ≤ 1) (hS : ∀ j, j < 180 → zRc W 2 50 j = S j) {j : Nat} (hj : j < 180) (hk : zKj j → j < 89 → R j = S j) : zRc (zf_tkf2 W t).2 2 50 j = if j < 89 then R j else S j := by
  obtain ⟨a1, a2, a3, a4, a5, a6⟩ := hU
  obtain ⟨r1, r2, r3, r4⟩ := zf_tkf2_r (W := W) (t := t) (by rw [a4]; exact h9)
  by_cases c : j < 5 ∨ j = 6 ∨ j = 7 ∨ 39 ≤ j ∨ (11 ≤ j ∧ j < 29 ∧ (j - 11) % 3 = 1)
  · rw [zRc_pl, zf_tkf2_f (zPl_kj j hj c), ← zRc_pl (V := W) (j := j), hS j hj]
    by_cases d : j < 89
    · rw [if_pos d]
      exact (hk c d).symm
    · rw [if_neg d]
  · rw [if_pos (by omega)]
    have h5 : j = 5 ∨ j = 8 ∨ j = 9 ∨ j = 10 ∨ (∃ p, p < 6 ∧ j = 3 * p + 11) ∨ (∃ p, p < 6 ∧ j = 3 * p + 13) ∨ ∃ w, w < 10 ∧ j = w + 29 := by
      by_cases e1 : j < 11
      · omega
      · by_cases e2 : j < 29
        · by_cases e3 : (j - 11) % 3 = 0
          · exact Or.inr (Or.inr (Or.inr (Or.inr (Or.inl ⟨(j - 11) / 3, by omega, by omega⟩))))
          · exact Or.inr (Or.inr (Or.inr (Or.inr (Or.inr (Or.inl ⟨(j - 13) / 3, by omega, by omega⟩)))))
        · exact Or.inr (Or.inr (Or.inr (Or.inr (Or.inr (Or.inr ⟨j - 29, by omega, by omega⟩)))))
    rcases h5 with rfl | rfl | rfl | rfl | ⟨p, hp, rfl⟩ | ⟨p, hp, rfl⟩ | ⟨w, hw, rfl⟩
    · exact r4.trans a6
    · exact r1.trans a3
    · exact r2.trans a4
    · exact r3.trans a5
    · rw [zRc_o hp, zf_tkf2_o hp]
      exact (a1 p hp).1
    · rw [zRc_l hp, zf_tkf2_l hp]
      exact (a1 p hp).2
    · rw [zRc_d hw, zf_tkf2_w hw]
      exact a2 w hw
theorem zT_undo_0 {V : Nat → Nat → Int} : zT_undo V 0 = zT_tell (zp_set V 0 0 0) (-3) := if_pos rfl
theorem zT_undo_s {V : Nat → Nat → Int} {m : Nat} (h : 0 ≤ V 7 (2000 + m)) : zT_undo V (m + 1) = zp_set (zc_cp (zp_set (zp_set V 0 0 0) 0 8 (m : Int)) 6 (34 * m) 3 5 34) 0 1 0 := by
  unfold zT_undo zT_tell
  rw [if_neg (by omega), show m + 1 - 1 = m by omega, show ((m + 1 : Nat) : Int) - 1 = (m : Int) by omega, if_neg (by omega)]
/-- undo: the same answer, the same town -/
theorem zS_un {V W : Nat → Nat → Int} {nu n1 np : Nat} {Lw : List yK} (hr : zRr V W) (hI : zRI V nu n1 np Lw) (hz : zRz V np) (hs : zSt V W) (hm : zDm V n1) (hU : zUU V W n1 np) : (zf_undc W).1 = (if nu = 0 then -3 else V 7 (2000 + (nu - 1))) ∧ zRr (zT_undo V nu) (zf_undc W).2 ∧ zSt (zT_undo V nu) (zf_undc W).2 ∧ zUU (zT_undo V nu) (zf_undc W).2 n1 np ∧ (∃ nu' : Nat, zRI (zT_undo V nu) nu' n1 np Lw) ∧ zRz (zT_undo V nu) np ∧ zDm (zT_undo V nu) n1 ∧ ∀ j, zKj j → zT_undo V nu 3 (2000 + j) = V 3 (2000 + j) := by
  have hU0 := hU
  obtain ⟨n, H, ⟨u1, u2, u3⟩, ⟨f, ⟨f1, f2⟩, ⟨n3, n4⟩, uk⟩, uh⟩ := hU
  have en : n = nu := by
    have h2 := hI.2.1.1
    omega
  subst en
  cases n with
  | zero =>
    have e1 : zf_tkb3 W = (-1, W) := if_neg (fun z => z n3)
    have e2 : zf_undc W = ((zf_rfs W (-3)).1, (zf_rfs W (-3)).2) := by
      unfold zf_undc
      rw [e1]
      exact if_neg (fun z => z rfl)
    have k0 : ∀ o k, o ≠ 0 ∨ k ≠ 0 → zp_set V 0 0 0 o k = V o k := fun o k ho => zp_set_ne ho
    rw [zT_undo_0, e2]
    refine ⟨?_, ?_, ?_, ?_, ?_, ?_, fun w hw => ?_, fun j _ => (zT_tell_o (by decide) (by decide)).trans (k0 _ _ (Or.inl (by decide)))⟩
    · rw [if_pos rfl]
      rfl
    · exact zRr_rfs (zRr_tell (zRr_v hr (fun j _ => k0 _ _ (Or.inl (by decide)))))
    · exact zSt_r3 (zSt_e hs (k0 _ _ (Or.inr (by decide))) (fun k => k0 _ _ (Or.inl (by decide))) rfl (fun _ => rfl))
    · refine zUU_e (zUe_t (zUe_o (Or.inr (by decide)) (by decide) (by decide) zUe_i) zU_tell) (fun j _ _ => (zT_tell_o (by decide) (by decide)).trans (k0 _ _ (Or.inl (by decide)))) (zUd_f (fun o k ho => (show (zf_rfs W (-3)).2 o k = W o k from zf_rfs_f (fun hm => ?_)))) hU0
      have h9 : o = 0 ∨ o = 20 := by simpa using hm
      omega
    · have k3 : ∀ k, zT_tell (zp_set V 0 0 0) (-3) 3 k = V 3 k := fun k => (zT_tell_o (by decide) (by decide)).trans (k0 _ _ (Or.inl (by decide)))
      have kz : ∀ k, k ≠ 0 → k ≠ 1 → zT_tell (zp_set V 0 0 0) (-3) 0 k = V 0 k := fun k c1 c2 => by
        unfold zT_tell
        rw [if_pos (by decide), zp_set_ne (Or.inl (by decide)), zp_set_ne (Or.inr c2)]
        exact k0 _ _ (Or.inr c1)
      obtain ⟨a1, ⟨a2, a3⟩, a4, a5, a6, a7, a8, a9⟩ := hI
      refine ⟨0, zLV_e k3 (kz 20 (by decide) (by decide)) a1, ⟨(kz 8 (by decide) (by decide)).trans a2, a3⟩, zd_ok_c (fun j => k3 _) a4, (kz 47 (by decide) (by decide)).trans a5, ?_, ?_, ?_, fun p hp => ?_⟩
      · rw [k3]
        exact a6
      · rw [k3]
        exact a7
      · rw [k3]
        exact a8
      · rw [k3]
        exact a9 p hp
    · exact zRz_v (fun k => (zT_tell_o (by decide) (by decide)).trans (k0 _ _ (Or.inl (by decide)))) hz
    · have k3 : ∀ k, zT_tell (zp_set V 0 0 0) (-3) 3 k = V 3 k := fun k => (zT_tell_o (by decide) (by decide)).trans (k0 _ _ (Or.inl (by decide)))
      rw [k3, k3]
      exact hm w hw
  | succ m =>
    obtain ⟨w1, w2⟩ := uk m (by omega)
    obtain ⟨v1, v2⟩ := u3 m (by omega)
    obtain ⟨g1, g2, g3⟩ := uh m (by omega)
    have et : ((W 3 2 + (W 3 3 - 1)) % 16).toNat = (f + m) % 16 := by
      rw [f1, n3]
      omega
    obtain ⟨W1, hW1⟩ : ∃ W1, W1 = zp_set W 3 3 (W 3 3 - 1) := ⟨_, rfl⟩
    have e1 : zf_tkb3 W = ((H m).2, (zf_tkf2 W1 ((f + m) % 16)).2) := by
      unfold zf_tkb3
      rw [if_pos (show ¬ W 3 3 = 0 by omega), et, w1, hW1]
    have e2 : zf_undc W = ((zf_ans (zf_tkf2 W1 ((f + m) % 16)).2 (H m).2).1, (zf_ans (zf_tkf2 W1 ((f + m) % 16)).2 (H m).2).2) := by
      unfold zf_undc
      rw [e1]
      exact if_pos (show ¬ (H m).2 = -1 by omega)
    have e3 : zT_undo V (m + 1) = zp_set (zc_cp (zp_set (zp_set V 0 0 0) 0 8 (m : Int)) 6 (34 * m) 3 5 34) 0 1 0 := zT_undo_s (by omega)
    -- the row then
    have row : ∀ j, zT_undo V (m + 1) 3 (2000 + j) = if 5 ≤ j ∧ j < 39 then (H m).1 j else V 3 (2000 + j) := fun j => by
      rw [e3, zp_set_ne (Or.inl (by decide))]
      by_cases c : 5 ≤ j ∧ j < 39
      · rw [if_pos c, zc_cp_e c.1 (by omega), zp_set_ne (Or.inl (by decide)), zp_set_ne (Or.inl (by decide)), v2 (j - 5) (by omega), show j - 5 + 5 = j by omega]
      · rw [if_neg c, zc_cp_n (by omega), zp_set_ne (Or.inl (by decide)), zp_set_ne (Or.inl (by decide))]
    have row89 : ∀ j, j < 89 → zT_undo V (m + 1) 3 (2000 + j) = (H m).1 j := fun j hj => by
      rw [row]
      by_cases c : 5 ≤ j ∧ j < 39
      · rw [if_pos c]
      · rw [if_neg c]
        exact (g2 j hj (by unfold zKj; omega)).symm
    have rowk : ∀ j, zKj j → zT_undo V (m + 1) 3 (2000 + j) = V 3 (2000 + j) := fun j hj => by
      rw [row]
      by_cases c : 5 ≤ j ∧ j < 39
      · rw [if_pos c]
        exact g2 j (by omega) hj
      · rw [if_neg c]
    have kz : ∀ k, k ≠ 0 → k ≠ 1 → k ≠ 8 → zT_undo V (m + 1) 0 k = V 0 k := fun k c1 c2 c3 => by
      rw [e3, zp_set_ne (Or.inr c2), zc_cp_o (by decide), zp_set_ne (Or.inr c3), zp_set_ne (Or.inr c1)]
    have ko : ∀ o k, o ≠ 0 → o ≠ 3 → zT_undo V (m + 1) o k = V o k := fun o k c1 c2 => by
      rw [e3, zp_set_ne (Or.inl c1), zc_cp_o c2, zp_set_ne (Or.inl c1), zp_set_ne (Or.inl c1)]
    have k8 : zT_undo V (m + 1) 0 8 = (m : Int) := by
      rw [e3, zp_set_ne (Or.inr (by decide)), zc_cp_o (by decide), zp_set_self]
    have w63 : ∀ k, W1 63 k = W 63 k := fun k => by
      rw [hW1, zp_set_ne (Or.inl (by decide))]
    have hR1 : ∀ j, j < 180 → zRc W1 2 50 j = V 3 (2000 + j) := fun j hj => by
      rw [← hr j hj]
      refine congrFun (zRc_f (fun o k ho => ?_)) j
      rw [hW1, zp_set_ne (Or.inl (by omega))]
    obtain ⟨W2, hW2⟩ : ∃ W2, W2 = (zf_tkf2 W1 ((f + m) % 16)).2 := ⟨_, rfl⟩
    have hR2 : ∀ j, j < 180 → zRc W2 2 50 j = if j < 89 then (H m).1 j else V 3 (2000 + j) := fun j hj => by
      rw [hW2]
      exact zRc_tkf (zUo_c w63 w2) g3.2.2.2.2.2.1 hR1 hj (fun c1 c2 => g2 j c2 c1)
    have a0 : ∀ o k, o ≠ 0 → (zf_ans W2 (H m).2).2 o k = W2 o k := fun o k ho => zp_set_ne (Or.inl ho)
    have hf2 : ∀ o k, o ≠ 2 → o ≠ 50 → o ≠ 51 → o ≠ 52 → W2 o k = W1 o k := fun o k c1 c2 c3 c4 => by
      rw [hW2]
      exact zf_tkf2_f (fun hm => by
        have h9 : o = 2 ∨ o = 50 ∨ o = 51 ∨ o = 52 := by simpa using hm
        omega)
    rw [e2, ← hW2]
    have hn89 := g3.1.2.1
    have hn10 := g3.1.1
    refine ⟨?_, ?_, ?_, ?_, ?_, ?_, fun w hw => ?_, rowk⟩
    · rw [if_neg (by omega), show m + 1 - 1 = m by omega, v1]
      rfl
    · intro j hj
      have e5 : zRc (zf_ans W2 (H m).2).2 2 50 j = zRc W2 2 50 j := congrFun (zRc_f (fun o k ho => a0 o k (by omega))) j
      show zRc (zf_ans W2 (H m).2).2 2 50 j = _
      rw [e5, hR2 j hj]
      by_cases c : j < 89
      · rw [if_pos c, row89 j c]
      · rw [if_neg c, rowk j (by unfold zKj; omega)]
    · have hs2 : zSt (zT_undo V (m + 1)) (zf_ans W2 (H m).2).2 := by
        obtain ⟨s1, s2, s3, s4, s5, s6⟩ := hs
        have k20 : ∀ k, (zf_ans W2 (H m).2).2 20 k = W 20 k := fun k => by
          rw [a0 _ _ (by decide), hf2 _ _ (by decide) (by decide) (by decide) (by decide), hW1, zp_set_ne (Or.inl (by decide))]
        have v2k : ∀ k, zT_undo V (m + 1) 2 k = V 2 k := fun k => ko _ _ (by decide) (by decide)
        refine ⟨?_, ?_, ?_, ?_, ?_, ?_⟩
        · have h1 : zT_undo V (m + 1) 0 1 = 0 := by rw [e3, zp_set_self]
          rw [h1]
          unfold zf_ans
          dsimp only
          exact zp_set_self
        · rw [k20, v2k]
          exact s2
        · rw [k20, v2k]
          exact s3
        · rw [k20, v2k]
          exact s4
        · rw [k20, v2k]
          exact s5
        · rw [k20, v2k]
          exact s6
      exact hs2
    · refine ⟨m, H, ⟨k8, by omega, fun k hk => ?_⟩, ⟨f, ⟨?_, f2⟩, ⟨?_, by omega⟩, fun k hk => ?_⟩, fun k hk => ?_⟩
      · refine ⟨(ko _ _ (by decide) (by decide)).trans (u3 k (by omega)).1, fun i hi => (ko _ _ (by decide) (by decide)).trans ((u3 k (by omega)).2 i hi)⟩
      · show (zf_ans W2 (H m).2).2 3 2 = _
        rw [a0 _ _ (by decide), hf2 _ _ (by decide) (by decide) (by decide) (by decide), hW1, zp_set_ne (Or.inr (by decide))]
        exact f1
      · show (zf_ans W2 (H m).2).2 3 3 = _
        rw [a0 _ _ (by decide), hf2 _ _ (by decide) (by decide) (by decide) (by decide), hW1, zp_set_self, n3]
        omega
      · have k62 : ∀ k, (zf_ans W2 (H m).2).2 62 k = W 62 k := fun k => by
          rw [a0 _ _ (by decide), hf2 _ _ (by decide) (by decide) (by decide) (by decide), hW1, zp_set_ne (Or.inl (by decide))]
        have k63 : ∀ k, (zf_ans W2 (H m).2).2 63 k = W 63 k := fun k => by
          rw [a0 _ _ (by decide), hf2 _ _ (by decide) (by decide) (by decide) (by decide), hW1, zp_set_ne (Or.inl (by decide))]
        exact ⟨(k62 _).trans (uk k (by omega)).1, zUo_c k63 (uk k (by omega)).2⟩
      · have h5 := uh k (by omega)
        exact ⟨h5.1, fun j h1 h2 => (h5.2.1 j h1 h2).trans (rowk j h2).symm, h5.2.2⟩
    · obtain ⟨b1, b2, b3, b4, b5, b6, b7, b8, b9⟩ := g3
      obtain ⟨a1, ⟨a2, a3⟩, a4, a5, a6, a7, a8, a9⟩ := hI
      obtain ⟨c1, c2, c3, c4, c5⟩ := a1
      refine ⟨m, ⟨fun j hj => ?_, ?_, c3, c4, (kz 20 (by decide) (by decide) (by decide)).trans c5⟩, ⟨k8, by omega⟩, zd_ok_q (fun j hj => row89 j hj) b1, (kz 47 (by decide) (by decide) (by decide)).trans a5, ?_, ?_, ?_, fun p hp => ?_⟩
      · by_cases d : j < 89
        · rw [row89 j d]
          exact b8 j d
        · rw [rowk j (by unfold zKj; omega)]
          exact c1 j hj
      · exact zgLw_c (R := fun j => V 3 (2000 + j)) (rowk 4 (by unfold zKj; omega)) (fun j hj => rowk j (by unfold zKj; omega)) c2
      · rw [row89 10 (by decide)]
        exact b2
      · rw [row89 5 (by decide)]
        exact b3
      · rw [row89 8 (by decide)]
        exact b4
      · rw [row89 _ (by omega)]
        exact b5 p hp
    · obtain ⟨b1, b2, b3, b4, b5, b6, b7, b8, b9⟩ := g3
      refine ⟨?_, fun p h1 h2 => ?_⟩
      · rw [row89 9 (by decide)]
        exact b6
      · rw [row89 _ (by omega), row89 _ (by omega)]
        exact b7 p h1 h2
    · obtain ⟨b1, b2, b3, b4, b5, b6, b7, b8, b9⟩ := g3
      rw [row89 _ (by omega), row89 _ (by omega)]
      exact b9 w hw
