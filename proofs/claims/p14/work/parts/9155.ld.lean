/-! part ld: the status and the refusals agree on both sides -/
noncomputable def zSt (V W : Nat → Nat → Int) : Prop := W 0 18 = V 0 1 ∧ W 20 (2000 + 0) = V 2 (2000 + 1) ∧ W 20 (2000 + 1) = V 2 (2000 + 2) ∧ W 20 (2000 + 2) = V 2 (2000 + 3) ∧ W 20 (2000 + 3) = V 2 (2000 + 5) ∧ W 20 (2000 + 4) = V 2 (2000 + 6)
theorem zSt_e {V V' W W' : Nat → Nat → Int} (h : zSt V W) (h1 : V' 0 1 = V 0 1) (h2 : ∀ k, V' 2 k = V 2 k) (h3 : W' 0 18 = W 0 18) (h4 : ∀ k, W' 20 k = W 20 k) : zSt V' W' := by
  obtain ⟨a, b, c, d, e, f⟩ := h
  exact ⟨h3.trans (a.trans h1.symm), (h4 _).trans (b.trans (h2 _).symm), (h4 _).trans (c.trans (h2 _).symm), (h4 _).trans (d.trans (h2 _).symm), (h4 _).trans (e.trans (h2 _).symm), (h4 _).trans (f.trans (h2 _).symm)⟩
theorem zSt_ans {V W : Nat → Nat → Int} {v : Int} (h : zSt V W) (h0 : 0 ≤ v) : zSt (zT_tell V v) (zf_ans W v).2 := by
  obtain ⟨a, b, c, d, e, f⟩ := h
  have e1 : zT_tell V v = zp_set V 0 1 0 := if_neg (by omega)
  rw [e1]
  have g2 : ∀ k, zp_set V 0 1 0 2 k = V 2 k := fun k => zp_set_ne (Or.inl (by decide))
  have g20 : ∀ k, zp_set W 0 18 0 20 k = W 20 k := fun k => zp_set_ne (Or.inl (by decide))
  have k1 : zp_set W 0 18 0 0 18 = zp_set V 0 1 0 0 1 := Eq.trans zp_set_self zp_set_self.symm
  exact ⟨k1, (g20 _).trans (b.trans (g2 _).symm), (g20 _).trans (c.trans (g2 _).symm), (g20 _).trans (d.trans (g2 _).symm), (g20 _).trans (e.trans (g2 _).symm), (g20 _).trans (f.trans (g2 _).symm)⟩
theorem zT_tell_n {V : Nat → Nat → Int} {v : Int} {n : Nat} (h : v = -((n : Int) + 1)) : zT_tell V v = zp_set (zp_set V 0 1 v) 2 (2000 + (n + 1)) (zw_add (V 2 (2000 + (n + 1))) 1) := by
  have e : (-v).toNat = n + 1 := by omega
  unfold zT_tell
  rw [if_pos (by omega), e]
theorem zSt_r1 {V W : Nat → Nat → Int} (h : zSt V W) : zSt (zT_tell V (-1)) (zf_rfs W (-1)).2 := by
  obtain ⟨a, b, c, d, e, f⟩ := h
  have e1 : (zf_rfs W (-1)).2 = zp_set (zp_set W 0 18 (-1)) 20 (2000 + 0) (zw_add (W 20 (2000 + 0)) 1) := by
    unfold zf_rfs
    rw [if_neg (by decide), if_neg (by decide), if_neg (by decide), if_neg (by decide), if_neg (by decide), if_pos rfl]
  rw [e1, zT_tell_n (n := 0) (by decide)]
  have k1 : zp_set (zp_set W 0 18 (-1)) 20 (2000 + 0) (zw_add (W 20 (2000 + 0)) 1) 0 18 = zp_set (zp_set V 0 1 (-1)) 2 (2000 + (0 + 1)) (zw_add (V 2 (2000 + (0 + 1))) 1) 0 1 := Eq.trans ((zp_set_ne (Or.inl (by decide))).trans zp_set_self) ((zp_set_ne (Or.inl (by decide))).trans zp_set_self).symm
  refine ⟨k1, ?_, ?_, ?_, ?_, ?_⟩
  · have q1 : zp_set (zp_set W 0 18 (-1)) 20 (2000 + 0) (zw_add (W 20 (2000 + 0)) 1) 20 (2000 + 0) = zw_add (W 20 (2000 + 0)) 1 := zp_set_self
    have q2 : zp_set (zp_set V 0 1 (-1)) 2 (2000 + (0 + 1)) (zw_add (V 2 (2000 + (0 + 1))) 1) 2 (2000 + 1) = zw_add (V 2 (2000 + (0 + 1))) 1 := zp_set_self
    rw [q1, q2, b]
  · exact Eq.trans ((zp_set_ne (Or.inr (by decide))).trans (zp_set_ne (Or.inl (by decide)))) (c.trans ((zp_set_ne (Or.inr (by decide))).trans (zp_set_ne (Or.inl (by decide)))).symm)
  · exact Eq.trans ((zp_set_ne (Or.inr (by decide))).trans (zp_set_ne (Or.inl (by decide)))) (d.trans ((zp_set_ne (Or.inr (by decide))).trans (zp_set_ne (Or.inl (by decide)))).symm)
  · exact Eq.trans ((zp_set_ne (Or.inr (by decide))).trans (zp_set_ne (Or.inl (by decide)))) (e.trans ((zp_set_ne (Or.inr (by decide))).trans (zp_set_ne (Or.inl (by decide)))).symm)
  · exact Eq.trans ((zp_set_ne (Or.inr (by decide))).trans (zp_set_ne (Or.inl (by decide)))) (f.trans ((zp_set_ne (Or.inr (by decide))).trans (zp_set_ne (Or.inl (by decide)))).symm)
theorem zSt_r2 {V W : Nat → Nat → Int} (h : zSt V W) : zSt (zT_tell V (-2)) (zf_rfs W (-2)).2 := by
  obtain ⟨a, b, c, d, e, f⟩ := h
  have e1 : (zf_rfs W (-2)).2 = zp_set (zp_set W 0 18 (-2)) 20 (2000 + 1) (zw_add (W 20 (2000 + 1)) 1) := by
    unfold zf_rfs
    rw [if_neg (by decide), if_neg (by decide), if_neg (by decide), if_neg (by decide), if_pos rfl]
  rw [e1, zT_tell_n (n := 1) (by decide)]
  have k1 : zp_set (zp_set W 0 18 (-2)) 20 (2000 + 1) (zw_add (W 20 (2000 + 1)) 1) 0 18 = zp_set (zp_set V 0 1 (-2)) 2 (2000 + (1 + 1)) (zw_add (V 2 (2000 + (1 + 1))) 1) 0 1 := Eq.trans ((zp_set_ne (Or.inl (by decide))).trans zp_set_self) ((zp_set_ne (Or.inl (by decide))).trans zp_set_self).symm
  refine ⟨k1, ?_, ?_, ?_, ?_, ?_⟩
  · exact Eq.trans ((zp_set_ne (Or.inr (by decide))).trans (zp_set_ne (Or.inl (by decide)))) (b.trans ((zp_set_ne (Or.inr (by decide))).trans (zp_set_ne (Or.inl (by decide)))).symm)
  · have q1 : zp_set (zp_set W 0 18 (-2)) 20 (2000 + 1) (zw_add (W 20 (2000 + 1)) 1) 20 (2000 + 1) = zw_add (W 20 (2000 + 1)) 1 := zp_set_self
    have q2 : zp_set (zp_set V 0 1 (-2)) 2 (2000 + (1 + 1)) (zw_add (V 2 (2000 + (1 + 1))) 1) 2 (2000 + 2) = zw_add (V 2 (2000 + (1 + 1))) 1 := zp_set_self
    rw [q1, q2, c]
  · exact Eq.trans ((zp_set_ne (Or.inr (by decide))).trans (zp_set_ne (Or.inl (by decide)))) (d.trans ((zp_set_ne (Or.inr (by decide))).trans (zp_set_ne (Or.inl (by decide)))).symm)
  · exact Eq.trans ((zp_set_ne (Or.inr (by decide))).trans (zp_set_ne (Or.inl (by decide)))) (e.trans ((zp_set_ne (Or.inr (by decide))).trans (zp_set_ne (Or.inl (by decide)))).symm)
  · exact Eq.trans ((zp_set_ne (Or.inr (by decide))).trans (zp_set_ne (Or.inl (by decide)))) (f.trans ((zp_set_ne (Or.inr (by decide))).trans (zp_set_ne (Or.inl (by decide)))).symm)
theorem zSt_r3 {V W : Nat → Nat → Int} (h : zSt V W) : zSt (zT_tell V (-3)) (zf_rfs W (-3)).2 := by
  obtain ⟨a, b, c, d, e, f⟩ := h
  have e1 : (zf_rfs W (-3)).2 = zp_set (zp_set W 0 18 (-3)) 20 (2000 + 2) (zw_add (W 20 (2000 + 2)) 1) := by
    unfold zf_rfs
    rw [if_neg (by decide), if_neg (by decide), if_neg (by decide), if_pos rfl]
  rw [e1, zT_tell_n (n := 2) (by decide)]
  have k1 : zp_set (zp_set W 0 18 (-3)) 20 (2000 + 2) (zw_add (W 20 (2000 + 2)) 1) 0 18 = zp_set (zp_set V 0 1 (-3)) 2 (2000 + (2 + 1)) (zw_add (V 2 (2000 + (2 + 1))) 1) 0 1 := Eq.trans ((zp_set_ne (Or.inl (by decide))).trans zp_set_self) ((zp_set_ne (Or.inl (by decide))).trans zp_set_self).symm
  refine ⟨k1, ?_, ?_, ?_, ?_, ?_⟩
  · exact Eq.trans ((zp_set_ne (Or.inr (by decide))).trans (zp_set_ne (Or.inl (by decide)))) (b.trans ((zp_set_ne (Or.inr (by decide))).trans (zp_set_ne (Or.inl (by decide)))).symm)
  · exact Eq.trans ((zp_set_ne (Or.inr (by decide))).trans (zp_set_ne (Or.inl (by decide)))) (c.trans ((zp_set_ne (Or.inr (by decide))).trans (zp_set_ne (Or.inl (by decide)))).symm)
  · have q1 : zp_set (zp_set W 0 18 (-3)) 20 (2000 + 2) (zw_add (W 20 (2000 + 2)) 1) 20 (2000 + 2) = zw_add (W 20 (2000 + 2)) 1 := zp_set_self
    have q2 : zp_set (zp_set V 0 1 (-3)) 2 (2000 + (2 + 1)) (zw_add (V 2 (2000 + (2 + 1))) 1) 2 (2000 + 3) = zw_add (V 2 (2000 + (2 + 1))) 1 := zp_set_self
    rw [q1, q2, d]
  · exact Eq.trans ((zp_set_ne (Or.inr (by decide))).trans (zp_set_ne (Or.inl (by decide)))) (e.trans ((zp_set_ne (Or.inr (by decide))).trans (zp_set_ne (Or.inl (by decide)))).symm)
  · exact Eq.trans ((zp_set_ne (Or.inr (by decide))).trans (zp_set_ne (Or.inl (by decide)))) (f.trans ((zp_set_ne (Or.inr (by decide))).trans (zp_set_ne (Or.inl (by decide)))).symm)
theorem zSt_r5 {V W : Nat → Nat → Int} (h : zSt V W) : zSt (zT_tell V (-5)) (zf_rfs W (-5)).2 := by
  obtain ⟨a, b, c, d, e, f⟩ := h
  have e1 : (zf_rfs W (-5)).2 = zp_set (zp_set W 0 18 (-5)) 20 (2000 + 3) (zw_add (W 20 (2000 + 3)) 1) := by
    unfold zf_rfs
    rw [if_neg (by decide), if_pos rfl]
  rw [e1, zT_tell_n (n := 4) (by decide)]
  have k1 : zp_set (zp_set W 0 18 (-5)) 20 (2000 + 3) (zw_add (W 20 (2000 + 3)) 1) 0 18 = zp_set (zp_set V 0 1 (-5)) 2 (2000 + (4 + 1)) (zw_add (V 2 (2000 + (4 + 1))) 1) 0 1 := Eq.trans ((zp_set_ne (Or.inl (by decide))).trans zp_set_self) ((zp_set_ne (Or.inl (by decide))).trans zp_set_self).symm
  refine ⟨k1, ?_, ?_, ?_, ?_, ?_⟩
  · exact Eq.trans ((zp_set_ne (Or.inr (by decide))).trans (zp_set_ne (Or.inl (by decide)))) (b.trans ((zp_set_ne (Or.inr (by decide))).trans (zp_set_ne (Or.inl (by decide)))).symm)
  · exact Eq.trans ((zp_set_ne (Or.inr (by decide))).trans (zp_set_ne (Or.inl (by decide)))) (c.trans ((zp_set_ne (Or.inr (by decide))).trans (zp_set_ne (Or.inl (by decide)))).symm)
  · exact Eq.trans ((zp_set_ne (Or.inr (by decide))).trans (zp_set_ne (Or.inl (by decide)))) (d.trans ((zp_set_ne (Or.inr (by decide))).trans (zp_set_ne (Or.inl (by decide)))).symm)
  · have q1 : zp_set (zp_set W 0 18 (-5)) 20 (2000 + 3) (zw_add (W 20 (2000 + 3)) 1) 20 (2000 + 3) = zw_add (W 20 (2000 + 3)) 1 := zp_set_self
    have q2 : zp_set (zp_set V 0 1 (-5)) 2 (2000 + (4 + 1)) (zw_add (V 2 (2000 + (4 + 1))) 1) 2 (2000 + 5) = zw_add (V 2 (2000 + (4 + 1))) 1 := zp_set_self
    rw [q1, q2, e]
  · exact Eq.trans ((zp_set_ne (Or.inr (by decide))).trans (zp_set_ne (Or.inl (by decide)))) (f.trans ((zp_set_ne (Or.inr (by decide))).trans (zp_set_ne (Or.inl (by decide)))).symm)
theorem zSt_r6 {V W : Nat → Nat → Int} (h : zSt V W) : zSt (zT_tell V (-6)) (zf_rfs W (-6)).2 := by
  obtain ⟨a, b, c, d, e, f⟩ := h
  have e1 : (zf_rfs W (-6)).2 = zp_set (zp_set W 0 18 (-6)) 20 (2000 + 4) (zw_add (W 20 (2000 + 4)) 1) := by
    unfold zf_rfs
    rw [if_pos rfl]
  rw [e1, zT_tell_n (n := 5) (by decide)]
  have k1 : zp_set (zp_set W 0 18 (-6)) 20 (2000 + 4) (zw_add (W 20 (2000 + 4)) 1) 0 18 = zp_set (zp_set V 0 1 (-6)) 2 (2000 + (5 + 1)) (zw_add (V 2 (2000 + (5 + 1))) 1) 0 1 := Eq.trans ((zp_set_ne (Or.inl (by decide))).trans zp_set_self) ((zp_set_ne (Or.inl (by decide))).trans zp_set_self).symm
  refine ⟨k1, ?_, ?_, ?_, ?_, ?_⟩
  · exact Eq.trans ((zp_set_ne (Or.inr (by decide))).trans (zp_set_ne (Or.inl (by decide)))) (b.trans ((zp_set_ne (Or.inr (by decide))).trans (zp_set_ne (Or.inl (by decide)))).symm)
  · exact Eq.trans ((zp_set_ne (Or.inr (by decide))).trans (zp_set_ne (Or.inl (by decide)))) (c.trans ((zp_set_ne (Or.inr (by decide))).trans (zp_set_ne (Or.inl (by decide)))).symm)
  · exact Eq.trans ((zp_set_ne (Or.inr (by decide))).trans (zp_set_ne (Or.inl (by decide)))) (d.trans ((zp_set_ne (Or.inr (by decide))).trans (zp_set_ne (Or.inl (by decide)))).symm)
  · exact Eq.trans ((zp_set_ne (Or.inr (by decide))).trans (zp_set_ne (Or.inl (by decide)))) (e.trans ((zp_set_ne (Or.inr (by decide))).trans (zp_set_ne (Or.inl (by decide)))).symm)
  · have q1 : zp_set (zp_set W 0 18 (-6)) 20 (2000 + 4) (zw_add (W 20 (2000 + 4)) 1) 20 (2000 + 4) = zw_add (W 20 (2000 + 4)) 1 := zp_set_self
    have q2 : zp_set (zp_set V 0 1 (-6)) 2 (2000 + (5 + 1)) (zw_add (V 2 (2000 + (5 + 1))) 1) 2 (2000 + 6) = zw_add (V 2 (2000 + (5 + 1))) 1 := zp_set_self
    rw [q1, q2, f]
/-- -4 is counted on one side alone, and no one asks for it -/
theorem zSt_r4 {V W : Nat → Nat → Int} (h : zSt V W) : zSt (zT_tell V (-4)) (zf_rfs W (-4)).2 := by
  obtain ⟨a, b, c, d, e, f⟩ := h
  have e1 : (zf_rfs W (-4)).2 = zp_set W 0 18 (-4) := by
    unfold zf_rfs
    rw [if_neg (by decide), if_neg (by decide), if_pos rfl]
  rw [e1, zT_tell_n (n := 3) (by decide)]
  have k1 : zp_set W 0 18 (-4) 0 18 = zp_set (zp_set V 0 1 (-4)) 2 (2000 + (3 + 1)) (zw_add (V 2 (2000 + (3 + 1))) 1) 0 1 := Eq.trans zp_set_self ((zp_set_ne (Or.inl (by decide))).trans zp_set_self).symm
  refine ⟨k1, ?_, ?_, ?_, ?_, ?_⟩
  · exact Eq.trans (zp_set_ne (Or.inl (by decide))) (b.trans ((zp_set_ne (Or.inr (by decide))).trans (zp_set_ne (Or.inl (by decide)))).symm)
  · exact Eq.trans (zp_set_ne (Or.inl (by decide))) (c.trans ((zp_set_ne (Or.inr (by decide))).trans (zp_set_ne (Or.inl (by decide)))).symm)
  · exact Eq.trans (zp_set_ne (Or.inl (by decide))) (d.trans ((zp_set_ne (Or.inr (by decide))).trans (zp_set_ne (Or.inl (by decide)))).symm)
  · exact Eq.trans (zp_set_ne (Or.inl (by decide))) (e.trans ((zp_set_ne (Or.inr (by decide))).trans (zp_set_ne (Or.inl (by decide)))).symm)
  · exact Eq.trans (zp_set_ne (Or.inl (by decide))) (f.trans ((zp_set_ne (Or.inr (by decide))).trans (zp_set_ne (Or.inl (by decide)))).symm)
/-- any answer that is told -/
theorem zSt_stc {V W : Nat → Nat → Int} {v : Int} (h : zSt V W) (h6 : -6 ≤ v) : zSt (zT_tell V v) (zf_stc W v).2 := by
  unfold zf_stc
  by_cases c : 0 ≤ v
  · rw [if_pos c]
    exact zSt_ans h c
  · rw [if_neg c]
    have h9 : v = -1 ∨ v = -2 ∨ v = -3 ∨ v = -4 ∨ v = -5 ∨ v = -6 := by omega
    rcases h9 with rfl | rfl | rfl | rfl | rfl | rfl
    · exact zSt_r1 h
    · exact zSt_r2 h
    · exact zSt_r3 h
    · exact zSt_r4 h
    · exact zSt_r5 h
    · exact zSt_r6 h
/-- no order tells -/
theorem zSt_run {V W : Nat → Nat → Int} {nu n1 np : Nat} {Lw : List yK} {K : yK} (h : zSt V W) : zSt (zo_run V nu n1 np Lw K).2 (zo_runC W n1 np Lw K).2 := by
  refine zSt_e h (zo_run_k (by decide) (by decide) (by decide) (by decide) (Or.inr (by decide))) (fun k => zo_run_k (by decide) (by decide) (by decide) (by decide) (Or.inl (by decide))) ?_ (fun k => ?_)
  · unfold zo_runC
    split
    · split
      · split
        · exact zo_doC_0
        · split
          · (try dsimp only); exact (zp_set_ne (Or.inr (by decide))).trans ((zp_set_ne (Or.inr (by decide))).trans zo_doC_0)
          · (try dsimp only); exact (zp_set_ne (Or.inr (by decide))).trans zo_doC_0
      · rfl
    · rfl
  · have hd : ∀ a b : Int, (zo_doC W n1 np Lw K.1 a b).2 20 k = W 20 k := fun a b => by
      unfold zo_doC
      split
      · exact zf_wnbc_f (by decide)
      · split
        · exact zf_keybc_f (by decide)
        · split
          · exact zf_rudc_f (by decide)
          · exact zf_mbyc_f (by decide)
    unfold zo_runC
    split
    · split
      · split
        · exact hd _ _
        · split
          · (try dsimp only); exact (zp_set_ne (Or.inl (by decide))).trans ((zp_set_ne (Or.inl (by decide))).trans (hd _ _))
          · (try dsimp only); exact (zp_set_ne (Or.inl (by decide))).trans (hd _ _)
      · rfl
    · rfl
theorem zSt_tm {n1 np : Nat} {Lw : List yK} {K : yK} (hK : zo_wf K) (hT : ∀ x, K.2.2.2.2 = some x → yd_T x) : ∀ {t : Nat} {V W : Nat → Nat → Int} {nu : Nat}, zSt V W → zRo V W → zRI V nu n1 np Lw → zRz V np → zSt (zo_tm n1 np Lw K t V).2 (zo_tmC n1 np Lw K t W).2
  | 0, _, _, _, h, _, _, _ => h
  | t + 1, V, W, nu, h, hr, hI, hz => by
    have e8 : (V 0 8).toNat = nu := by
      have h8 := hI.2.1.1
      omega
    have h1 := zS_run hr hI hz hK hT
    obtain ⟨nu', hI'⟩ := zRI_run (K := K) hI
    have hz' := zRz_run (nu := nu) (n1 := n1) (Lw := Lw) (K := K) hz
    have hs := zSt_run (nu := nu) (n1 := n1) (np := np) (Lw := Lw) (K := K) h
    rw [zo_tm, zo_tmC, e8]
    by_cases c : (zo_run V nu n1 np Lw K).1 < 0
    · rw [if_pos c, if_neg (fun z => h1.1.mp z c)]
      exact hs
    · rw [if_neg c, if_pos (h1.1.mpr c)]
      exact zSt_tm hK hT hs h1.2 hI' hz'
theorem zSt_cs {n1 np : Nat} {Lw : List yK} : ∀ {L : List yK} {i : Nat} {V W : Nat → Nat → Int} {nu : Nat}, (∀ K ∈ L, zo_wf K ∧ ∀ x, K.2.2.2.2 = some x → yd_T x) → zSt V W → zRo V W → zRI V nu n1 np Lw → zRz V np → zSt (zo_cs n1 np Lw L i V).2 (zo_csC n1 np Lw L i W).2
  | [], _, _, _, _, _, h, _, _, _ => h
  | K :: r, i, V, W, nu, hL, h, hr, hI, hz => by
    have hK := hL K List.mem_cons_self
    have hs := zSt_tm (t := K.2.2.2.1.toNat) hK.1 hK.2 h hr hI hz
    obtain ⟨e1, h2, ⟨nu', hI'⟩, hz'⟩ := zS_tm (t := K.2.2.2.1.toNat) hK.1 hK.2 hr hI hz
    rw [zo_cs, zo_csC, e1]
    by_cases c : (zo_tm n1 np Lw K K.2.2.2.1.toNat V).1 = true
    · rw [if_pos c, if_pos c]
      exact zSt_cs (fun K' h' => hL K' (List.mem_cons_of_mem _ h')) hs h2 hI' hz'
    · rw [if_neg c, if_neg c]
      exact hs
/-- orders: the same status, the same refusals; what stood where they failed -/
theorem zSt_all {V W : Nat → Nat → Int} {nu n1 np : Nat} {Lw L : List yK} (h : zSt V W) (hr : zRr V W) (hI : zRI V nu n1 np Lw) (hz : zRz V np) (hL : ∀ K ∈ L, zo_wf K ∧ ∀ x, K.2.2.2.2 = some x → yd_T x) (h0 : 0 ≤ (zo_csC n1 np Lw L 0 (zo_beC W)).2 0 13) : zSt (zo_all V nu n1 np Lw L).2 (zo_allC W n1 np Lw L).2 := by
  have hb := zS_be hr
  have hIb := zRI_be hI
  have hzb : zRz (zo_be V) np := zRz_v (fun k => zo_be_o (by decide) (by decide) (by decide) (Or.inl (by decide))) hz
  obtain ⟨e1, ⟨-, r2, -⟩, -, -⟩ := zS_cs (i := 0) hL hb hIb hzb
  have hsb : zSt (zo_be V) (zo_beC W) := zSt_e h (zo_be_o (by decide) (by decide) (by decide) (Or.inr (by decide))) (fun k => zo_be_o (by decide) (by decide) (by decide) (Or.inl (by decide))) (by
      have g1 : zo_beC W 0 18 = (zf_uf10_3 (zf_kf9_2 (zo_b0C W)).2).2 0 18 := (zp_set_ne (Or.inr (by decide))).trans (zp_set_ne (Or.inr (by decide)))
      have g2 : zo_b0C W 0 18 = W 0 18 := (zp_set_ne (Or.inr (by decide))).trans (zp_set_ne (Or.inl (by decide)))
      exact g1.trans ((zf_uf10_3_f (by decide)).trans ((zf_kf9_2_f (by decide)).trans g2))) (fun k => by
      have g1 : zo_beC W 20 k = (zf_uf10_3 (zf_kf9_2 (zo_b0C W)).2).2 20 k := (zp_set_ne (Or.inl (by decide))).trans (zp_set_ne (Or.inl (by decide)))
      have g2 : zo_b0C W 20 k = W 20 k := (zp_set_ne (Or.inl (by decide))).trans (zp_set_ne (Or.inl (by decide)))
      exact g1.trans ((zf_uf10_3_f (by decide)).trans ((zf_kf9_2_f (by decide)).trans g2)))
  have hs := zSt_cs (i := 0) hL hsb hb hIb hzb
  unfold zo_allC zo_all
  rw [e1]
  by_cases c : (zo_cs n1 np Lw L 0 (zo_be V)).1 < 0
  · rw [if_pos c, if_pos c]
    have r3 : zf_ans (zo_csC n1 np Lw L 0 (zo_beC W)).2 ((zo_csC n1 np Lw L 0 (zo_beC W)).2 0 13) = zf_ans (zo_csC n1 np Lw L 0 (zo_beC W)).2 ((zo_cs n1 np Lw L 0 (zo_be V)).2 0 57) := by rw [r2]
    rw [r3]
    exact zSt_ans hs (by omega)
  · rw [if_neg c, if_neg c]
    refine zSt_r3 (zSt_e hs ?_ (fun k => ?_) ?_ (fun k => ?_))
    · exact (zp_set_ne (Or.inr (by decide))).trans (zo_gb_0 (by decide))
    · refine (zp_set_ne (Or.inl (by decide))).trans ?_
      unfold zo_gb
      rw [zp_set_ne (Or.inl (by decide)), zc_cp_o (by decide), zc_cp_o (by decide), zc_cp_o (by decide)]
    · refine (zp_set_ne (Or.inr (by decide))).trans ?_
      (unfold zf_uf3_10; dsimp only)
      rw [zp_set_ne (Or.inl (by decide)), zp_set_ne (Or.inl (by decide)), zc_cp_o (by decide), zc_cp_o (by decide)]
      exact zf_kf2_9_f (by decide)
    · refine (zp_set_ne (Or.inl (by decide))).trans ?_
      (unfold zf_uf3_10; dsimp only)
      rw [zp_set_ne (Or.inl (by decide)), zp_set_ne (Or.inl (by decide)), zc_cp_o (by decide), zc_cp_o (by decide)]
      exact zf_kf2_9_f (by decide)
