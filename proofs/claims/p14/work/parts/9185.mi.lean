/-! part mi: orders as a call -/
theorem yt_if_T {so : Nat → Nat} {wo : Nat → Int} {nx : Nat → Nat} {lf : Nat → Nat ⊕ (Nat × Int × Int)} {p n p1 n1 : Nat} {y : yD} (h : yt_if so wo nx lf p n (Sum.inr (p1, n1, some y))) : yd_T y := by
  unfold yt_if at h
  split at h
  · obtain ⟨t, ⟨f, hf⟩, h2⟩ := h
    rcases h2 with ⟨q, -, e⟩ | ⟨p2, n2, z, e1, e2⟩
    · cases e
    · cases e2
      subst e1
      exact (yr_T f 8 _ _ _ _ _ _ _ hf).1 (Or.inr (Or.inr rfl))
  · cases h
theorem yt_co_T {so : Nat → Nat} {wo : Nat → Int} {nx : Nat → Nat} {lf : Nat → Nat ⊕ (Nat × Int × Int)} {p n p1 n1 : Nat} {K : yK} (h : yt_co so wo nx lf p n (Sum.inr (p1, n1, K))) : ∀ x, K.2.2.2.2 = some x → yd_T x := by
  unfold yt_co at h
  split at h
  · cases h
  · obtain ⟨u, hu, hu2⟩ := h
    rcases hu2 with ⟨q, -, e⟩ | ⟨q1, m1, x, e1, v, hv, hv2⟩
    · cases e
    · rcases hv2 with ⟨q, -, e⟩ | ⟨q2, m2, y, e2, t, ht, ht2⟩
      · cases e
      · rcases ht2 with ⟨q, -, e⟩ | ⟨q3, m, e3, z, hz, hz2⟩
        · cases e
        · rcases hz2 with ⟨q, -, e⟩ | ⟨q4, n4, e, e4, e5⟩
          · cases e
          · cases e5
            subst e4
            intro x9 hx9
            have hx9 : e = some x9 := hx9
            subst hx9
            exact yt_if_T hz
theorem yT_T {so : Nat → Nat} {wo : Nat → Int} {nx : Nat → Nat} {lf : Nat → Nat ⊕ (Nat × Int × Int)} : ∀ {r p n : Nat} {L : List yK}, yT so wo nx (yt_co so wo nx lf) r p n (Sum.inr L) → ∀ K ∈ L, ∀ x, K.2.2.2.2 = some x → yd_T x
  | 0, _, _, _, h, _, _ => by
    unfold yT at h
    cases h
  | r + 1, p, n, L, h, K, hK => by
    unfold yT at h
    obtain ⟨t, h1, h2⟩ := h
    rcases h2 with ⟨q, -, e⟩ | ⟨p1, n1, c, e, h3⟩
    · cases e
    · subst e
      have hc := yt_co_T h1
      split at h3
      · cases h3
        rcases List.mem_cons.mp hK with rfl | hK
        · exact hc
        · cases hK
      · split at h3
        · obtain ⟨u, h4, h5⟩ := h3
          rcases h5 with ⟨q, -, e⟩ | ⟨L', e1, e2⟩
          · cases e
          · cases e2
            subst e1
            rcases List.mem_cons.mp hK with rfl | hK
            · exact hc
            · exact yT_T h4 K hK
        · cases h3
/-- fields that orders leave in the reference -/
theorem zo_tm_0 {n1 np : Nat} {Lw : List yK} {K : yK} {k : Nat} (hk : k ≠ 8 ∧ k ≠ 57 ∧ k ≠ 58 ∧ k ≠ 60) : ∀ {t : Nat} {V : Nat → Nat → Int}, (zo_tm n1 np Lw K t V).2 0 k = V 0 k
  | 0, _ => rfl
  | t + 1, V => by
    rw [zo_tm]
    split
    · first | exact zo_run_k (o := 0) (k := k) (by decide) (by decide) (by decide) (by decide) (Or.inr hk) | exact (zo_tm_0 hk).trans (zo_run_k (o := 0) (k := k) (by decide) (by decide) (by decide) (by decide) (Or.inr hk))
    · first | exact zo_run_k (o := 0) (k := k) (by decide) (by decide) (by decide) (by decide) (Or.inr hk) | exact (zo_tm_0 hk).trans (zo_run_k (o := 0) (k := k) (by decide) (by decide) (by decide) (by decide) (Or.inr hk))
theorem zo_cs_0 {n1 np : Nat} {Lw : List yK} {k : Nat} (hk : k ≠ 8 ∧ k ≠ 57 ∧ k ≠ 58 ∧ k ≠ 60) : ∀ {L : List yK} {i : Nat} {V : Nat → Nat → Int}, (zo_cs n1 np Lw L i V).2 0 k = V 0 k
  | [], _, _ => rfl
  | K :: r, i, V => by
    rw [zo_cs]
    split
    · exact (zo_cs_0 hk).trans (zo_tm_0 hk)
    · exact zo_tm_0 hk
theorem zo_all_k {V : Nat → Nat → Int} {nu n1 np : Nat} {Lw L : List yK} {o k : Nat} (ho : o ≠ 2 ∧ o ≠ 3 ∧ o ≠ 6 ∧ o ≠ 7 ∧ o ≠ 9 ∧ o ≠ 10 ∧ o ≠ 36) (h0 : o ≠ 0 ∨ (k ≠ 1 ∧ k ≠ 8 ∧ k ≠ 57 ∧ k ≠ 58 ∧ k ≠ 59 ∧ k ≠ 60)) : (zo_all V nu n1 np Lw L).2 o k = V o k := by
  have hb : zo_be V o k = V o k := zo_be_o (by omega) (by omega) (by omega) (by omega)
  have hc : (zo_cs n1 np Lw L 0 (zo_be V)).2 o k = zo_be V o k := by
    by_cases c : o = 0
    · subst c
      exact zo_cs_0 (by omega)
    · exact zo_cs_k (by omega) (by omega) (by omega) (by omega) c
  unfold zo_all
  split
  · exact (zT_tell_k (by omega) (by omega)).trans (hc.trans hb)
  · dsimp only
    refine (zT_tell_k (by omega) (by omega)).trans ((zp_set_ne (by omega)).trans ?_)
    unfold zo_gb
    rw [zp_set_ne (by omega), zc_cp_o (by omega), zc_cp_o (by omega), zc_cp_o (by omega)]
    exact hc.trans hb
/-- cells that orders leave in the class -/
noncomputable def zWo (o k : Nat) : Prop := o = 40 ∨ 100 ≤ o ∨ o = 22 ∨ o = 11 ∨ o = 71 ∨ o = 7 ∨ o = 55 ∨ (o = 0 ∧ (k = 15 ∨ k = 17)) ∨ o = 12 ∨ o = 6
theorem zKd_do {W : Nat → Nat → Int} {n1 np : Nat} {Lw : List yK} {d a b : Int} {o k : Nat} (ho : zWo o k) : (zo_doC W n1 np Lw d a b).2 o k = W o k := by
  unfold zWo at ho
  unfold zo_doC
  split
  · exact zf_wnbc_f (fun hm => by
      simp only [List.mem_cons, List.not_mem_nil, or_false] at hm
      omega)
  · split
    · exact zf_keybc_f (fun hm => by
        simp only [List.mem_cons, List.not_mem_nil, or_false] at hm
        omega)
    · split
      · exact zf_rudc_f (fun hm => by
          simp only [List.mem_cons, List.not_mem_nil, or_false] at hm
          omega)
      · exact zf_mbyc_f (fun hm => by
          simp only [List.mem_cons, List.not_mem_nil, or_false] at hm
          omega)
theorem zKd_run {W : Nat → Nat → Int} {n1 np : Nat} {Lw : List yK} {K : yK} {o k : Nat} (ho : zWo o k) : (zo_runC W n1 np Lw K).2 o k = W o k := by
  have h9 := ho
  unfold zWo at h9
  unfold zo_runC
  split
  · split
    · split
      · exact zKd_do ho
      · split
        · exact (zp_set_ne (by omega)).trans ((zp_set_ne (by omega)).trans (zKd_do ho))
        · exact (zp_set_ne (by omega)).trans (zKd_do ho)
    · rfl
  · rfl
theorem zKd_tm {n1 np : Nat} {Lw : List yK} {K : yK} {o k : Nat} (ho : zWo o k) : ∀ {t : Nat} {W : Nat → Nat → Int}, (zo_tmC n1 np Lw K t W).2 o k = W o k
  | 0, _ => rfl
  | t + 1, W => by
    rw [zo_tmC]
    split
    · exact (zKd_tm ho).trans (zKd_run ho)
    · exact zKd_run ho
theorem zKd_cs {n1 np : Nat} {Lw : List yK} {o k : Nat} (ho : zWo o k) : ∀ {L : List yK} {i : Nat} {W : Nat → Nat → Int}, (zo_csC n1 np Lw L i W).2 o k = W o k
  | [], _, _ => rfl
  | K :: r, i, W => by
    rw [zo_csC]
    split
    · exact (zKd_cs ho).trans (zKd_tm ho)
    · exact zKd_tm ho
theorem zo_csC_13 {n1 np : Nat} {Lw : List yK} : ∀ {L : List yK} {i : Nat} {W : Nat → Nat → Int}, 0 ≤ W 0 13 → 0 ≤ (zo_csC n1 np Lw L i W).2 0 13
  | [], _, _, h => h
  | K :: r, i, W, h => by
    have h1 := (zo_tmC_13 (n1ξ := n1) (npξ := np) (Lwξ := Lw) (K := K) (t := K.2.2.2.1.toNat) h).1
    rw [zo_csC]
    split
    · exact zo_csC_13 h1
    · exact h1
theorem zCI_csC {A : Nat → Nat} {Y : List (Nat × Nat)} {F : List (Nat × Nat × Nat)} {n1 np : Nat} {Lw : List yK} : ∀ {L : List yK} {i : Nat} {W : Nat → Nat → Int}, zCI A Y F W n1 np Lw → zCI A Y F (zo_csC n1 np Lw L i W).2 n1 np Lw
  | [], _, _, h => h
  | K :: r, i, W, h => by
    rw [zo_csC]
    split
    · exact zCI_csC (zCI_tmC h)
    · exact zCI_tmC h
theorem zo_beC_k {W : Nat → Nat → Int} {o k : Nat} (ho : zWo o k) (h11 : o ≠ 11) (h15 : o ≠ 0 ∨ k ≠ 15) : zo_beC W o k = W o k := by
  unfold zWo at ho
  unfold zo_beC
  refine (zp_set_ne (by omega)).trans ((zp_set_ne (by omega)).trans ((zf_uf10_3_f (fun hm => ?_)).trans ((zf_kf9_2_f (fun hm => ?_)).trans ?_)))
  · simp only [List.mem_cons, List.not_mem_nil, or_false] at hm
    omega
  · simp only [List.mem_cons, List.not_mem_nil, or_false] at hm
    omega
  · exact (zp_set_ne (by omega)).trans (zp_set_ne (by omega))
theorem zo_beC_z {W : Nat → Nat → Int} : zo_beC W 11 1 = 0 ∧ zo_beC W 0 15 = -1 ∧ zo_beC W 0 13 = 0 := by
  have e : ∀ o k, (o ≠ 0 ∨ (k ≠ 13 ∧ k ≠ 14)) → o ∉ ([10, 64, 65] : List Nat) → o ∉ ([9, 59, 60, 61] : List Nat) → zo_beC W o k = zo_b0C W o k := fun o k h0 h1 h2 => (zp_set_ne (by omega)).trans ((zp_set_ne (by omega)).trans ((zf_uf10_3_f h1).trans (zf_kf9_2_f h2)))
  refine ⟨(e 11 1 (by decide) (by decide) (by decide)).trans ?_, (e 0 15 (by decide) (by decide) (by decide)).trans zp_set_self, (zp_set_ne (Or.inr (by decide))).trans zp_set_self⟩
  exact (zp_set_ne (Or.inl (by decide))).trans zp_set_self
theorem zRI_e2 {V V' : Nat → Nat → Int} {nu n1 np : Nat} {Lw : List yK} (h3 : ∀ j, V' 3 (2000 + j) = V 3 (2000 + j)) (h8 : V' 0 8 = V 0 8) (h47 : V' 0 47 = V 0 47) (h20 : V' 0 20 = V 0 20) (h : zRI V nu n1 np Lw) : zRI V' nu n1 np Lw := by
  obtain ⟨⟨l1, l2, l3, l4, l5⟩, ⟨a2, a3⟩, a4, a5, a6, a7, a8, a9⟩ := h
  have e : zRw V' = zRw V := zRw_3 h3
  refine ⟨⟨fun j hj => ?_, ?_, l3, l4, h20.trans l5⟩, ⟨h8.trans a2, a3⟩, ?_, h47.trans a5, ?_, ?_, ?_, fun p hp => ?_⟩
  · rw [h3]
    exact l1 j hj
  · show zgLw (zRw V') Lw
    rw [e]
    exact l2
  · rw [e]
    exact a4
  · rw [h3]
    exact a6
  · rw [h3]
    exact a7
  · rw [h3]
    exact a8
  · rw [h3]
    exact a9 p hp
theorem zP_or {A : Nat → Nat} {Y : List (Nat × Nat)} {F : List (Nat × Nat × Nat)} {V W V1 W1 : Nat → Nat → Int} {n1 np nu ln : Nat} {Lw : List yK} {s s' : Nat ⊕ List yK} (h : zCo V W n1 np Lw) (hl : zLF A Y F W Lw) (he : zEx A Y F V W n1 np) (h8 : V 0 8 = (nu : Int)) (hln : V 0 13 = (ln : Int)) (hk : zVk W W1) (hrd : zo_rd V V1) (hy : yT (zy_so (fun j => W 71 (2000 + j)) ln) (zy_wo (fun j => W 71 (2000 + j)) ln) (zy_to (fun j => W 71 (2000 + j)) ln) (yt_co (zy_so (fun j => W 71 (2000 + j)) ln) (zy_wo (fun j => W 71 (2000 + j)) ln) (zy_to (fun j => W 71 (2000 + j)) ln) (ylf true (fun j => W 71 (2000 + j)) ln)) 12 0 0 s) (hy' : yT (zy_so (fun j => V 12 (2000 + j)) ln) (zy_wo (fun j => V 12 (2000 + j)) ln) (zy_to (fun j => V 12 (2000 + j)) ln) (yt_co (zy_so (fun j => V 12 (2000 + j)) ln) (zy_wo (fun j => V 12 (2000 + j)) ln) (zy_to (fun j => V 12 (2000 + j)) ln) (ylf true (fun j => V 12 (2000 + j)) ln)) 12 0 0 s') : s = s' ∧ (∀ q, W1 12 2 = (zy_fr (fun j => W 71 (2000 + j)) ln q : Int) → V1 0 18 = (zy_fr (fun j => V 12 (2000 + j)) ln q : Int) → zFull A Y F (zT_tell V1 (-6)) (zf_rfs (zo_b0C W1) (-6)).2) ∧ ∀ L z, s = Sum.inr L → W1 12 2 = -1 → V1 0 18 = -1 → (zo_allC W1 n1 np Lw L).1 = (zo_all V1 nu n1 np Lw L).1 ∧ zFull A Y F (zp_set (zo_all V1 nu n1 np Lw L).2 0 60 z) (zo_allC W1 n1 np Lw L).2 := by
  obtain ⟨⟨hn1, hnp⟩, -⟩ := zCo_n h
  obtain ⟨t1, t2, t3, t4⟩ := he.2.2.1
  have hB : ∀ j, j < ln → (fun j => W 71 (2000 + j)) j = (fun j => V 12 (2000 + j)) j := fun j hj => t3 j (by omega)
  have e1 : zy_so (fun j => W 71 (2000 + j)) ln = zy_so (fun j => V 12 (2000 + j)) ln := funext fun p => zy_so_c hB p
  have e2 : zy_wo (fun j => W 71 (2000 + j)) ln = zy_wo (fun j => V 12 (2000 + j)) ln := funext fun p => zy_wo_c hB p
  have e3 : zy_to (fun j => W 71 (2000 + j)) ln = zy_to (fun j => V 12 (2000 + j)) ln := funext fun p => zy_to_c hB p
  have e4 : ylf true (fun j => W 71 (2000 + j)) ln = ylf true (fun j => V 12 (2000 + j)) ln := funext fun p => ylf_c hB true p
  rw [e1, e2, e3, e4] at hy
  have hs : s = s' := by
    refine yT_det (fun p n t t' a b => ?_) _ _ _ _ _ hy hy'
    exact yt_co_det a b
  obtain ⟨r1, r2, r3, r4, r5, r6⟩ := hrd
  have v1 : ∀ o k, (o = 2 ∨ o = 3 ∨ o = 4 ∨ o = 5 ∨ o = 6 ∨ o = 7 ∨ o = 12 ∨ o = 31 ∨ o = 32 ∨ o = 33 ∨ o = 62 ∨ (o = 0 ∧ (k = 1 ∨ k = 8 ∨ k = 11 ∨ k = 47 ∨ k = 63))) → V1 o k = V o k := fun o k ho => r1 o k (by
    by_cases c : o = 0
    · right
      have c2 : k = 1 ∨ k = 8 ∨ k = 11 ∨ k = 47 ∨ k = 63 := by omega
      rcases c2 with rfl | rfl | rfl | rfl | rfl <;> decide
    · exact Or.inl c) (by
    unfold zo_rl
    simp only [List.mem_cons, List.not_mem_nil, or_false]
    omega)
  have w1 : ∀ o k, (o = 1 ∨ o = 2 ∨ o = 3 ∨ o = 20 ∨ (30 ≤ o ∧ o ≤ 40) ∨ (50 ≤ o ∧ o < 53) ∨ o = 55 ∨ o = 62 ∨ o = 63 ∨ o = 22 ∨ o = 71 ∨ o = 6 ∨ o = 7 ∨ o = 0 ∨ 100 ≤ o) → W1 o k = W o k := fun o k ho => hk o k (fun hm => by
    simp only [List.mem_cons, List.not_mem_nil, or_false] at hm
    omega) (by omega) (Or.inl (by omega))
  have hc0 : zCo V1 (zo_b0C W1) n1 np Lw := zCo_e (fun o k ho => by
    unfold zCr at ho
    by_cases c : o = 0 ∧ k = 20
    · rw [c.1, c.2, r5]
      exact h.2.2.1.2.2.2.2.symm
    · exact v1 o k (by omega)) (fun o k ho => by
    unfold zCc at ho
    exact (zp_set_ne (by omega)).trans ((zp_set_ne (by omega)).trans (w1 o k (by omega)))) h
  have hc1 : zCo V1 W1 n1 np Lw := zCo_e (fun o k ho => by
    unfold zCr at ho
    by_cases c : o = 0 ∧ k = 20
    · rw [c.1, c.2, r5]
      exact h.2.2.1.2.2.2.2.symm
    · exact v1 o k (by omega)) (fun o k ho => by
    unfold zCc at ho
    exact w1 o k (by omega)) h
  have hrow : ∀ V' : Nat → Nat → Int, (∀ j, zVr j → V' 3 (2000 + j) = V1 3 (2000 + j)) → zRow (zRw V') n1 np := fun V' hV => zRow_e hn1 (fun j hj _ => (hV j hj).trans (v1 _ _ (by omega))) he.2.1
  refine ⟨hs, fun q g1 g2 => ?_, fun L z hL g1 g2 => ?_⟩
  · have hc := zCo_st (v := -6) hc0 (by decide)
    unfold zf_stc at hc
    rw [if_neg (by decide)] at hc
    have k1 : ∀ o k, o ≠ 2 → (o ≠ 0 ∨ k ≠ 1) → zT_tell V1 (-6) o k = V1 o k := fun o k h2 h0 => zT_tell_k h2 h0
    have k2 : ∀ o k, o ≠ 20 → (o ≠ 0 ∨ (k ≠ 15 ∧ k ≠ 18)) → (o ≠ 11 ∨ k ≠ 1) → (zf_rfs (zo_b0C W1) (-6)).2 o k = W1 o k := fun o k h20 h0 h11 => (zf_rfs_k h20 (by omega)).trans ((zp_set_ne (by omega)).trans (zp_set_ne (by omega)))
    have k3 : (zf_rfs (zo_b0C W1) (-6)).2 11 1 = 0 := (zf_rfs_k (by decide) (Or.inl (by decide))).trans ((zp_set_ne (Or.inl (by decide))).trans zp_set_self)
    have k4 : (zf_rfs (zo_b0C W1) (-6)).2 0 15 = -1 := (zf_rfs_k (by decide) (Or.inr (by decide))).trans zp_set_self
    refine zF_z h hl he hc (fun j hj => (k1 _ _ (by decide) (Or.inl (by decide))).trans (v1 _ _ (by omega))) (hrow _ (fun j _ => k1 _ _ (by decide) (Or.inl (by decide)))) ⟨?_, ?_, fun j hj => ?_, fun j => ?_⟩ ⟨?_, ?_, ?_⟩ ?_ ?_ (fun o k ho => (k1 o k (by omega) (by omega)).trans (v1 o k (by omega))) (fun o k ho => (k2 o k (by omega) (by omega) (by omega)).trans (w1 o k (by omega)))
    · rw [k3, k1 0 13 (by decide) (by decide), r3]
    · rw [k1 0 13 (by decide) (by decide), r3]
      decide
    · rw [k2 71 _ (by decide) (Or.inl (by decide)) (Or.inl (by decide)), w1 71 _ (by omega), k1 12 _ (by decide) (Or.inl (by decide)), v1 12 _ (by omega)]
      exact t3 j hj
    · rw [k1 12 _ (by decide) (Or.inl (by decide)), v1 12 _ (by omega)]
      exact t4 j
    · rw [k2 0 17 (by decide) (by decide) (by decide), w1 0 17 (by omega), k1 0 11 (by decide) (by decide), v1 0 11 (by omega)]
      exact he.2.2.2.1.1
    · rw [k2 12 2 (by decide) (by decide) (by decide), k1 0 18 (by decide) (by decide), g1, g2, zy_fr_c hB]
    · rw [k4, k1 0 59 (by decide) (by decide), r4]
    · exact zDwn_e ((k1 0 63 (by decide) (by decide)).trans (v1 0 63 (by omega))) (fun k => (k1 62 k (by decide) (Or.inl (by decide))).trans (v1 62 k (by omega))) (fun o k ho => (k2 o k (by omega) (by omega) (by omega)).trans (w1 o k (by omega))) he.2.2.2.2.1
    · rw [k1 0 30 (by decide) (by decide)]
      exact r6
  · subst hL
    have hLw : ∀ K ∈ L, zo_wf K ∧ ∀ x, K.2.2.2.2 = some x → yd_T x := fun K hK => ⟨yT_wf hy K hK, yT_T hy K hK⟩
    obtain ⟨nu', hI, hz, hm⟩ := zCo_I hc1
    obtain rfl : nu' = nu := by
      have h9 := hI.2.1.1
      have h10 := v1 0 8 (by omega)
      omega
    have hr1 := hc1.1
    obtain ⟨a1, a2⟩ := zS_all hr1 hI hz hLw
    have h13 : 0 ≤ (zo_csC n1 np Lw L 0 (zo_beC W1)).2 0 13 := zo_csC_13 (by rw [zo_beC_z.2.2]; decide)
    have hCI : zCI A Y F W1 n1 np Lw := zCI_vk hk (zCI_of hl h)
    have a3 := zSt_all hc1.2.2.2.2.1 hr1 hI hz hLw h13
    have a4 := zU_all hr1 hI hz hLw hCI hc1.2.2.2.2.2
    have hb := zS_be hr1
    have hIb := zRI_be hI
    have hzb : zRz (zo_be V1) np := zRz_v (fun k => zo_be_o (by decide) (by decide) (by decide) (Or.inl (by decide))) hz
    obtain ⟨c1, ⟨c2, -, -⟩, ⟨nv, c3⟩, c4⟩ := zS_cs (i := 0) hLw hb hIb hzb
    have c5 := zKr_cs (L := L) (i := 0) hIb
    have c6 : zDm (zo_cs n1 np Lw L 0 (zo_be V1)).2 n1 := zDm_of c2 (zCI_csC (zCI_be hCI))
    have be3 : ∀ j, zo_be V1 3 (2000 + j) = V1 3 (2000 + j) := fun j => zo_be_o (by decide) (by decide) (by decide) (Or.inl (by decide))
    -- the row behind
    have key : (∃ nw, zRI (zo_all V1 nu' n1 np Lw L).2 nw n1 np Lw) ∧ zRz (zo_all V1 nu' n1 np Lw L).2 np ∧ zDm (zo_all V1 nu' n1 np Lw L).2 n1 ∧ (∀ j, zKj j → (zo_all V1 nu' n1 np Lw L).2 3 (2000 + j) = V1 3 (2000 + j)) ∧ (zo_allC W1 n1 np Lw L).2 0 15 = (zo_all V1 nu' n1 np Lw L).2 0 59 ∧ (zo_allC W1 n1 np Lw L).2 11 1 = 0 ∧ ∀ o k, zWo o k → o ≠ 11 → (o ≠ 0 ∨ k ≠ 15) → (zo_allC W1 n1 np Lw L).2 o k = W1 o k := by
      have q1 : (zo_csC n1 np Lw L 0 (zo_beC W1)).2 11 1 = 0 := (zKd_cs (by unfold zWo; omega)).trans zo_beC_z.1
      have q2 : (zo_csC n1 np Lw L 0 (zo_beC W1)).2 0 15 = -1 := (zKd_cs (by unfold zWo; omega)).trans zo_beC_z.2.1
      have q3 : ∀ o k, zWo o k → o ≠ 11 → (o ≠ 0 ∨ k ≠ 15) → (zo_csC n1 np Lw L 0 (zo_beC W1)).2 o k = W1 o k := fun o k ho h1 h2 => (zKd_cs ho).trans (zo_beC_k ho h1 h2)
      unfold zo_allC zo_all
      rw [c1]
      by_cases c : (zo_cs n1 np Lw L 0 (zo_be V1)).1 < 0
      · rw [if_pos c, if_pos c]
        dsimp only
        have e3 : ∀ j, zT_tell (zo_cs n1 np Lw L 0 (zo_be V1)).2 ((zo_cs n1 np Lw L 0 (zo_be V1)).2 0 57) 3 (2000 + j) = (zo_cs n1 np Lw L 0 (zo_be V1)).2 3 (2000 + j) := fun j => zT_tell_k (by decide) (Or.inl (by decide))
        refine ⟨⟨nv, zRI_e2 e3 (zT_tell_k (by decide) (Or.inr (by decide))) (zT_tell_k (by decide) (Or.inr (by decide))) (zT_tell_k (by decide) (Or.inr (by decide))) c3⟩, zRz_v (fun k => zT_tell_k (by decide) (Or.inl (by decide))) c4, fun w hw => ?_, fun j hj => (e3 j).trans ((c5.1 j hj).trans (be3 j)), ?_, ?_, fun o k ho h1 h2 => ?_⟩
        · rw [e3, e3]
          exact c6 w hw
        · show zp_set (zo_csC n1 np Lw L 0 (zo_beC W1)).2 0 18 0 0 15 = _
          rw [zp_set_ne (Or.inr (by decide)), q2, zT_tell_k (by decide) (Or.inr (by decide)), zo_cs_0 (by decide), zo_be_o (by decide) (by decide) (by decide) (Or.inr (by decide)), r4]
        · show zp_set (zo_csC n1 np Lw L 0 (zo_beC W1)).2 0 18 0 11 1 = 0
          rw [zp_set_ne (Or.inl (by decide)), q1]
        · show zp_set (zo_csC n1 np Lw L 0 (zo_beC W1)).2 0 18 0 o k = _
          rw [zp_set_ne (by unfold zWo at ho; omega)]
          exact q3 o k ho h1 h2
      · rw [if_neg c, if_neg c]
        dsimp only
        have e3 : ∀ j, zT_tell (zp_set (zo_gb (zo_cs n1 np Lw L 0 (zo_be V1)).2 (nu' : Int)) 0 59 (zo_cs n1 np Lw L 0 (zo_be V1)).1) (-3) 3 (2000 + j) = V1 3 (2000 + j) := fun j => (zT_tell_k (by decide) (Or.inl (by decide))).trans ((zp_set_ne (Or.inl (by decide))).trans (zo_gb_3 c5))
        have e0 : ∀ k, k ≠ 1 → k ≠ 8 → k ≠ 57 → k ≠ 58 → k ≠ 59 → k ≠ 60 → zT_tell (zp_set (zo_gb (zo_cs n1 np Lw L 0 (zo_be V1)).2 (nu' : Int)) 0 59 (zo_cs n1 np Lw L 0 (zo_be V1)).1) (-3) 0 k = V1 0 k := fun k k1 k8 k57 k58 k59 k60 => by
          refine (zT_tell_k (by decide) (Or.inr k1)).trans ((zp_set_ne (Or.inr k59)).trans ?_)
          unfold zo_gb
          rw [zp_set_ne (Or.inr k8), zc_cp_o (by decide), zc_cp_o (by decide), zc_cp_o (by decide), zo_cs_0 ⟨k8, k57, k58, k60⟩]
          exact zo_be_o (by decide) (by decide) (by decide) (Or.inr ⟨k57, k58⟩)
        have e8 : zT_tell (zp_set (zo_gb (zo_cs n1 np Lw L 0 (zo_be V1)).2 (nu' : Int)) 0 59 (zo_cs n1 np Lw L 0 (zo_be V1)).1) (-3) 0 8 = V1 0 8 := by
          refine (zT_tell_k (by decide) (Or.inr (by decide))).trans ((zp_set_ne (Or.inr (by decide))).trans ?_)
          unfold zo_gb
          rw [zp_set_self]
          exact hI.2.1.1.symm
        refine ⟨⟨nu', zRI_e2 e3 e8 (e0 47 (by decide) (by decide) (by decide) (by decide) (by decide) (by decide)) (e0 20 (by decide) (by decide) (by decide) (by decide) (by decide) (by decide)) hI⟩, ?_, fun w hw => ?_, fun j _ => e3 j, ?_, ?_, fun o k ho h1 h2 => ?_⟩
        · obtain ⟨z1, z2⟩ := hz
          refine ⟨?_, fun p h1 h2 => ?_⟩
          · rw [e3]
            exact z1
          · rw [e3, e3]
            exact z2 p h1 h2
        · rw [e3, e3]
          exact hm w hw
        · rw [zf_rfs_k (by decide) (Or.inr (by decide)), zT_tell_k (by decide) (Or.inr (by decide)), zp_set_self]
          show zp_set (zf_uf3_10 (zf_kf2_9 (zo_csC n1 np Lw L 0 (zo_beC W1)).2).2).2 0 15 _ 0 15 = _
          rw [zp_set_self]
        · rw [zf_rfs_k (by decide) (Or.inl (by decide))]
          show zp_set (zf_uf3_10 (zf_kf2_9 (zo_csC n1 np Lw L 0 (zo_beC W1)).2).2).2 0 15 _ 11 1 = _
          rw [zp_set_ne (Or.inl (by decide)), zf_uf3_10_f (by decide), zf_kf2_9_f (by decide), q1]
        · have h9 := ho
          unfold zWo at h9
          rw [zf_rfs_k (by omega) (by omega)]
          show zp_set (zf_uf3_10 (zf_kf2_9 (zo_csC n1 np Lw L 0 (zo_beC W1)).2).2).2 0 15 _ o k = _
          rw [zp_set_ne (by omega), zf_uf3_10_f (fun hm => by
            simp only [List.mem_cons, List.not_mem_nil, or_false] at hm
            omega), zf_kf2_9_f (fun hm => by
            simp only [List.mem_cons, List.not_mem_nil, or_false] at hm
            omega)]
          exact q3 o k ho h1 h2
    obtain ⟨⟨nw, k1⟩, k2, k3, k4, k5, k6, k7⟩ := key
    have s0 : ∀ o k, (o ≠ 0 ∨ k ≠ 60) → zp_set (zo_all V1 nu' n1 np Lw L).2 0 60 z o k = (zo_all V1 nu' n1 np Lw L).2 o k := fun o k ho => zp_set_ne ho
    have hc : zCo (zp_set (zo_all V1 nu' n1 np Lw L).2 0 60 z) (zo_allC W1 n1 np Lw L).2 n1 np Lw := zCo_of (zRr_0 (by decide) a2) (zRI_e2 (fun j => s0 _ _ (Or.inl (by decide))) (s0 _ _ (Or.inr (by decide))) (s0 _ _ (Or.inr (by decide))) (s0 _ _ (Or.inr (by decide))) k1) (zRz_v (fun k => s0 _ _ (Or.inl (by decide))) k2) (fun w hw => by
      rw [s0 _ _ (Or.inl (by decide)), s0 _ _ (Or.inl (by decide))]
      exact k3 w hw) (zSt_e a3 (s0 _ _ (Or.inr (by decide))) (fun k => s0 _ _ (Or.inl (by decide))) rfl (fun _ => rfl)) (zUU_e ⟨s0 _ _ (Or.inr (by decide)), fun j _ => s0 _ _ (Or.inl (by decide)), fun j _ => s0 _ _ (Or.inl (by decide))⟩ (fun j _ _ => s0 _ _ (Or.inl (by decide))) ⟨rfl, rfl, fun _ _ => rfl, fun _ _ => rfl⟩ a4)
    have va : ∀ o k, (o = 4 ∨ o = 5 ∨ o = 12 ∨ o = 31 ∨ o = 32 ∨ o = 33 ∨ o = 62 ∨ (o = 0 ∧ (k = 11 ∨ k = 13 ∨ k = 18 ∨ k = 30 ∨ k = 63))) → zp_set (zo_all V1 nu' n1 np Lw L).2 0 60 z o k = V1 o k := fun o k ho => (s0 o k (by omega)).trans (zo_all_k (by omega) (by omega))
    have wa : ∀ o k, (o = 40 ∨ 100 ≤ o ∨ o = 22 ∨ o = 71 ∨ o = 7 ∨ o = 55 ∨ (o = 0 ∧ k = 17) ∨ o = 12 ∨ o = 6) → (zo_allC W1 n1 np Lw L).2 o k = W1 o k := fun o k ho => k7 o k (by unfold zWo; omega) (by omega) (by omega)
    have h3 : ∀ j, zKj j → zp_set (zo_all V1 nu' n1 np Lw L).2 0 60 z 3 (2000 + j) = V1 3 (2000 + j) := fun j hj => (s0 _ _ (Or.inl (by decide))).trans (k4 j hj)
    refine ⟨a1, zF_z h hl he hc (fun j hj => (h3 j (by unfold zKj; omega)).trans (v1 _ _ (by omega))) (hrow _ (fun j hj => h3 j (zVr_j hj))) ⟨?_, ?_, fun j hj => ?_, fun j => ?_⟩ ⟨?_, ?_, ?_⟩ ?_ ?_ (fun o k ho => (va o k (by omega)).trans (v1 o k (by omega))) (fun o k ho => (wa o k (by omega)).trans (w1 o k (by omega)))⟩
    · rw [k6, va 0 13 (by omega), r3]
    · rw [va 0 13 (by omega), r3]
      decide
    · rw [wa 71 _ (by omega), w1 71 _ (by omega), va 12 _ (by omega), v1 12 _ (by omega)]
      exact t3 j hj
    · rw [va 12 _ (by omega), v1 12 _ (by omega)]
      exact t4 j
    · rw [wa 0 17 (by omega), w1 0 17 (by omega), va 0 11 (by omega), v1 0 11 (by omega)]
      exact he.2.2.2.1.1
    · rw [wa 12 2 (by omega), g1, va 0 18 (by omega), g2]
    · rw [k5, s0 0 59 (by decide)]
    · exact zDwn_e ((va 0 63 (by omega)).trans (v1 0 63 (by omega))) (fun k => (va 62 k (by omega)).trans (v1 62 k (by omega))) (fun o k ho => (wa o k (by omega)).trans (w1 o k (by omega))) he.2.2.2.2.1
    · rw [va 0 30 (by omega)]
      exact r6
