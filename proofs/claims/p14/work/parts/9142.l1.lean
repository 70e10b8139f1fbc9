/-! part l1: the reference, orders, over logical cells: the model of type 92 -/
noncomputable def zYq : List (Nat × Nat) := (0, 92) :: zYr.tail
noncomputable def zFq : List (Nat × Nat × Nat) := zFr
noncomputable def zUQ : List (Nat × Nat × Nat) := zp_swE 13 92 zUE
noncomputable def zMVq (A : Nat → Nat) (V : Nat → Nat → Int) (P : Nat → Option Nat) (G : Nat → Nat → Int) : Prop := ∃ M, zM A zYq zFq M P G ∧ (∀ o k, zNs o k → M o k = V o k) ∧ zSb M
theorem zYq_1 {q : Nat × Nat} (h : q ∈ zYq) : q = (0, 92) ∨ (q ∈ zYr.tail ∧ q.1 ≠ 0 ∧ q.2 ≠ 13 ∧ q.2 ≠ 92) := by
  rcases List.mem_cons.mp h with h | h
  · exact Or.inl h
  · refine Or.inr ⟨h, ?_⟩
    have h9ξ : (zYr.tail.all fun q => q.1 != 0 && (q.2 != 13 && q.2 != 92)) = true := by decide +kernel
    have h8ξ := List.all_eq_true.mp h9ξ q h
    simp only [Bool.and_eq_true, bne_iff_ne] at h8ξ
    exact h8ξ
theorem zYr_1 {q : Nat × Nat} (h : q ∈ zYr) : q = (0, 13) ∨ (q ∈ zYr.tail ∧ q.1 ≠ 0 ∧ q.2 ≠ 13 ∧ q.2 ≠ 92) := by
  have h7ξ : zYr = (0, 13) :: zYr.tail := rfl
  rw [h7ξ] at h
  rcases List.mem_cons.mp h with h | h
  · exact Or.inl h
  · refine Or.inr ⟨h, ?_⟩
    have h9ξ : (zYr.tail.all fun q => q.1 != 0 && (q.2 != 13 && q.2 != 92)) = true := by decide +kernel
    have h8ξ := List.all_eq_true.mp h9ξ q h
    simp only [Bool.and_eq_true, bne_iff_ne] at h8ξ
    exact h8ξ
theorem zYr_t {q : Nat × Nat} (h : q ∈ zYr.tail) : q ∈ zYr := List.mem_of_mem_tail h
theorem zYq_t {q : Nat × Nat} (h : q ∈ zYr.tail) : q ∈ zYq := List.mem_cons_of_mem _ h
theorem zM_qr {A : Nat → Nat} {M : Nat → Nat → Int} {P : Nat → Option Nat} {G : Nat → Nat → Int} (h : zM A zYq zFq M P G) : zM A zYr zFr M (zk_up P (A 0) (some 13)) G := by
  obtain ⟨h1ξ, h2ξ, h3ξ, h4ξ⟩ := h
  have h0ξ := h1ξ (0, 92) List.mem_cons_self
  refine ⟨fun q hqξ => ?_, h2ξ, fun q hqξ r hrξ e => ?_, h4ξ⟩
  · rcases zYr_1 hqξ with rfl | ⟨hqξ, q1, q2, q3⟩
    · exact ⟨zk_up_self, h0ξ.2⟩
    · have h5ξ := h1ξ q (zYq_t hqξ)
      exact ⟨(zk_up_ne (fun e => q1 (h3ξ q (zYq_t hqξ) (0, 92) List.mem_cons_self e))).trans h5ξ.1, h5ξ.2⟩
  · rcases zYr_1 hqξ with rfl | ⟨hqξ, q1, -⟩ <;> rcases zYr_1 hrξ with rfl | ⟨hrξ, r1, -⟩
    · rfl
    · exact h3ξ (0, 92) List.mem_cons_self r (zYq_t hrξ) e
    · exact h3ξ q (zYq_t hqξ) (0, 92) List.mem_cons_self e
    · exact h3ξ q (zYq_t hqξ) r (zYq_t hrξ) e
theorem zM_rq {A : Nat → Nat} {M : Nat → Nat → Int} {P : Nat → Option Nat} {G : Nat → Nat → Int} (h : zM A zYr zFr M P G) : zM A zYq zFq M (zk_up P (A 0) (some 92)) G := by
  obtain ⟨h1ξ, h2ξ, h3ξ, h4ξ⟩ := h
  have h8ξ : ((0, 13) : Nat × Nat) ∈ zYr := List.mem_of_getElem? (i := 0) rfl
  have h0ξ := h1ξ (0, 13) h8ξ
  refine ⟨fun q hqξ => ?_, h2ξ, fun q hqξ r hrξ e => ?_, h4ξ⟩
  · rcases zYq_1 hqξ with rfl | ⟨hqξ, q1, q2, q3⟩
    · exact ⟨zk_up_self, h0ξ.2⟩
    · have h5ξ := h1ξ q (zYr_t hqξ)
      exact ⟨(zk_up_ne (fun e => q1 (h3ξ q (zYr_t hqξ) (0, 13) h8ξ e))).trans h5ξ.1, h5ξ.2⟩
  · rcases zYq_1 hqξ with rfl | ⟨hqξ, q1, -⟩ <;> rcases zYq_1 hrξ with rfl | ⟨hrξ, r1, -⟩
    · rfl
    · exact h3ξ (0, 13) h8ξ r (zYr_t hrξ) e
    · exact h3ξ q (zYr_t hqξ) (0, 13) h8ξ e
    · exact h3ξ q (zYr_t hqξ) r (zYr_t hrξ) e
theorem zk_up_up {P : Nat → Option Nat} {a : Nat} {t t' : Option Nat} (h : P a = t) : zk_up (zk_up P a t') a t = P := by
  funext b
  by_cases e : b = a
  · rw [e, zk_up_self, h]
  · rw [zk_up_ne e, zk_up_ne e]
theorem zMq_swap {A : Nat → Nat} {V : Nat → Nat → Int} {P : Nat → Option Nat} {G : Nat → Nat → Int} (h : zMVq A V P G) : zMVr A V (zk_up P (A 0) (some 13)) G := by
  obtain ⟨M, h1ξ, h2ξ, h3ξ⟩ := h
  exact ⟨M, zM_qr h1ξ, h2ξ, h3ξ⟩
theorem zMr_swap {A : Nat → Nat} {V : Nat → Nat → Int} {P : Nat → Option Nat} {G : Nat → Nat → Int} (h : zMVr A V P G) : zMVq A V (zk_up P (A 0) (some 92)) G := by
  obtain ⟨M, h1ξ, h2ξ, h3ξ⟩ := h
  exact ⟨M, zM_rq h1ξ, h2ξ, h3ξ⟩
theorem zps0 {ps : List Int} {a b : Nat} (h : ps[0]? = some (a : Int)) (h2ξ : ps.getD 0 0 = (b : Int)) : a = b := by
  rw [List.getD_eq_getElem?_getD, h] at h2ξ
  exact Int.ofNat.inj h2ξ
/-- what is proved of the model of type 13 by its cells, for that of type 92 -/
theorem zs_V {l : Launch} {w : zk_W} {K : zk_K} {A : Nat → Nat} {V : Nat → Nat → Int} {ρ : List Int → Prop} {V' : List Int → Nat → Nat → Int} {σ : List Int → Int → Prop} (hWξ : zh_W w) (h20ξ : V 0 20 = 0) (hMξ : zk_metX l w zt_dv zt_TB K (zp_A (fun P G ps => zMVr A V P G ∧ ps.getD 0 0 = (A 0 : Int) ∧ ρ ps)) (zp_B (fun P _ ps P' G' rn => P' = P ∧ zMVr A (V' ps) P' G' ∧ σ ps rn)) ∧ zk_cok w zt_TB K) (hb : zp_swB K 13 = true) : zk_metX l w zt_dv zt_TB (zp_swK K 13 92) (zp_A (fun P G ps => zMVq A V P G ∧ ps.getD 0 0 = (A 0 : Int) ∧ ρ ps)) (zp_B (fun P _ ps P' G' rn => P' = P ∧ zMVq A (V' ps) P' G' ∧ σ ps rn)) ∧ zk_cok w zt_TB (zp_swK K 13 92) :=
  zp_swap hWξ (Or.inl ⟨rfl, rfl⟩) hMξ hb (fun P G ps a h0ξ hpξ hφ => by
    obtain ⟨h1ξ, h2ξ, h3ξ⟩ := hφ
    obtain rfl := zps0 h0ξ h2ξ
    refine ⟨fun _ => ?_, zMq_swap h1ξ, h2ξ, h3ξ⟩
    obtain ⟨M, m1, m2, -⟩ := h1ξ
    exact (zM_G m1 (o := 0) (t := 92) List.mem_cons_self 20).trans ((m2 0 20 (Or.inr (by decide))).trans h20ξ)) (fun P G ps P' G' rn a h0ξ hpξ hφ hp' h13ξ hfrξ hψ => ⟨fun z => absurd z (by decide), by
    obtain ⟨h1ξ, h2ξ, h3ξ⟩ := hφ
    obtain rfl := zps0 h0ξ h2ξ
    obtain ⟨e1, e2, e3⟩ := hψ
    subst e1
    refine ⟨zk_up_up hpξ, ?_, e3⟩
    exact zMr_swap e2⟩)
theorem zs_V0 {l : Launch} {w : zk_W} {K : zk_K} {A : Nat → Nat} {V : Nat → Nat → Int} {ρ : List Int → Prop} {V' : List Int → Nat → Nat → Int} (hWξ : zh_W w) (h20ξ : V 0 20 = 0) (hMξ : zk_metX l w zt_dv zt_TB K (zp_A (fun P G ps => zMVr A V P G ∧ ps.getD 0 0 = (A 0 : Int) ∧ ρ ps)) (zp_B (fun P _ ps P' G' _ => P' = P ∧ zMVr A (V' ps) P' G')) ∧ zk_cok w zt_TB K) (hb : zp_swB K 13 = true) : zk_metX l w zt_dv zt_TB (zp_swK K 13 92) (zp_A (fun P G ps => zMVq A V P G ∧ ps.getD 0 0 = (A 0 : Int) ∧ ρ ps)) (zp_B (fun P _ ps P' G' _ => P' = P ∧ zMVq A (V' ps) P' G')) ∧ zk_cok w zt_TB (zp_swK K 13 92) :=
  zp_swap hWξ (Or.inl ⟨rfl, rfl⟩) hMξ hb (fun P G ps a h0ξ hpξ hφ => by
    obtain ⟨h1ξ, h2ξ, h3ξ⟩ := hφ
    obtain rfl := zps0 h0ξ h2ξ
    refine ⟨fun _ => ?_, zMq_swap h1ξ, h2ξ, h3ξ⟩
    obtain ⟨M, m1, m2, -⟩ := h1ξ
    exact (zM_G m1 (o := 0) (t := 92) List.mem_cons_self 20).trans ((m2 0 20 (Or.inr (by decide))).trans h20ξ)) (fun P G ps P' G' rn a h0ξ hpξ hφ hp' h13ξ hfrξ hψ => ⟨fun z => absurd z (by decide), by
    obtain ⟨h1ξ, h2ξ, h3ξ⟩ := hφ
    obtain rfl := zps0 h0ξ h2ξ
    obtain ⟨e1, e2⟩ := hψ
    subst e1
    exact ⟨zk_up_up hpξ, zMr_swap e2⟩⟩)
theorem zMf_q {M M' : Nat → Nat → Int} {o k : Nat} (h : ∀ o t k, (o, t) ∈ zYq → (zp_nfb [(92, 38, 0), (92, 39, 0), (77, 1001, 0)] t k = true ∨ zp_ncb [(92, 38, 0), (92, 39, 0), (77, 1001, 0)] t = true) → M' o k = M o k) (hkξ : zNs o k) : M' o k = M o k := by
  rcases hkξ with hkξ | ⟨rfl, hkξ⟩
  · have h2ξ : (zNl.all fun o => zYq.any fun q => q.1 == o && zp_ncb [(92, 38, 0), (92, 39, 0), (77, 1001, 0)] q.2) = true := by decide +kernel
    obtain ⟨q, q1, q2⟩ := List.any_eq_true.mp (List.all_eq_true.mp h2ξ o hkξ)
    rw [Bool.and_eq_true, beq_iff_eq] at q2
    exact h o q.2 k (by rw [← q2.1]; exact q1) (Or.inr q2.2)
  · refine h 0 92 k List.mem_cons_self (Or.inl ?_)
    have h2ξ : ∀ k, k < 64 → k ≠ 34 ∧ k ≠ 38 ∧ k ≠ 39 ∧ k ≠ 40 → zp_nfb [(92, 38, 0), (92, 39, 0), (77, 1001, 0)] 92 k = true := by decide +kernel
    exact h2ξ k hkξ.1 hkξ.2
/-- what is asked of the row and the words where orders are reckoned -/
noncomputable def zo_rv (V : Nat → Nat → Int) : Prop := (∀ j, j < 5580 → -2147483648 ≤ V 3 (2000 + j) ∧ V 3 (2000 + j) ≤ 2147483647) ∧ zo_rb (fun j => V 3 (2000 + j)) ∧ (∀ j, j < 400 → -2147483648 ≤ V 25 (2000 + j) ∧ V 25 (2000 + j) ≤ 2147483647) ∧ ∀ j, 0 < j → j < 6 → -2147483648 ≤ V 36 (2000 + j) ∧ V 36 (2000 + j) ≤ 2147483647
/-- a sum of orders stands at i, or none does -/
noncomputable def zo_sq (V : Nat → Nat → Int) (i : Nat) (xo : Option yD) : Prop := (xo = none ∧ V 56 (2000 + i) = V 56 (2000 + (i + 1))) ∨ ∃ (x : yD) (b e k f : Nat), xo = some x ∧ V 56 (2000 + i) = (b : Int) ∧ V 56 (2000 + (i + 1)) = (e : Int) ∧ e ≤ 400 ∧ k ≤ 400 ∧ yE (fun q => V 24 (2000 + q)) (fun q => V 25 (2000 + q)) f b e k x
noncomputable def zo_eV (V : Nat → Nat → Int) : Int → Int → Int := zo_en (fun j => V 3 (2000 + j)) (fun j => V 36 (2000 + j))
/-- what a sum answers, whether it can't be -/
noncomputable def zo_sp (V : Nat → Nat → Int) (xo : Option yD) (o' rn : Int) : Prop := ((V 0 60 ≠ 0 ∨ xo = none) → o' = V 0 60 ∧ rn = -1) ∧ ∀ x, V 0 60 = 0 → xo = some x → (∀ v, x (zo_eV V) = some v → o' = 0 ∧ rn = v) ∧ (x (zo_eV V) = none → o' = 1)
theorem zo_sp_n {V : Nat → Nat → Int} {xo : Option yD} (h : V 0 60 ≠ 0 ∨ xo = none) : zo_sp V xo (V 0 60) (-1) := ⟨fun _ => ⟨rfl, rfl⟩, fun x h1ξ h2ξ => by
  rcases h with h | h
  · exact absurd h1ξ h
  · rw [h] at h2ξ
    cases h2ξ⟩
theorem zp_set_id {V : Nat → Nat → Int} {o k : Nat} : zp_set V o k (V o k) = V := by
  funext o' k'
  unfold zp_set
  split
  · rename_i h
    rw [h.1, h.2]
  · rfl
theorem zo_20 {V : Nat → Nat → Int} {v : Int} (h : V 0 20 = 0) : zp_set (zp_set (zp_set V 0 20 1) 0 20 0) 0 60 v = zp_set V 0 60 v := by
  funext o' k'
  by_cases e : o' = 0 ∧ k' = 60
  · rw [e.1, e.2, zp_set_self, zp_set_self]
  · have e1 : ∀ M : Nat → Nat → Int, zp_set M 0 60 v o' k' = M o' k' := fun M => zp_set_ne (by omega)
    rw [e1, e1]
    by_cases e2 : o' = 0 ∧ k' = 20
    · rw [e2.1, e2.2, zp_set_self, h]
    · rw [zp_set_ne (by omega), zp_set_ne (by omega)]
noncomputable def zK_suq : zk_K := (zt_mn 291, prog_14_method_110_code, 2, (Option.some Jvm.ClassFile.FieldType.int), 1, 12, [(2, 92, 0, 0), (0, 0, 0, 95)], [(some (0, 0, (-2147483648), 2147483647), [])], zUQ, (3, 180, 0, 0))
noncomputable def zφ_suq (A : Nat → Nat) (V : Nat → Nat → Int) (i9ξ : Nat) (xo : Option yD) : (Nat → Option Nat) → (Nat → Nat → Int) → List Int → Prop := fun P G ps => zMVq A V P G ∧ ps.getD 0 0 = (A 0 : Int) ∧ (ps.getD 1 0) = (i9ξ : Int) ∧ i9ξ + 1 < 96 ∧ V 0 20 = 0 ∧ zo_rv V ∧ zo_sq V i9ξ xo
noncomputable def zψ_suq (A : Nat → Nat) (V : Nat → Nat → Int) (i9ξ : Nat) (xo : Option yD) : (Nat → Option Nat) → (Nat → Nat → Int) → List Int → (Nat → Option Nat) → (Nat → Nat → Int) → Int → Prop := fun P G ps P' G' rn => P' = P ∧ ∃ o' : Int, (0 ≤ o' ∧ o' ≤ 1) ∧ zMVq A (zp_set V 0 60 o') P' G' ∧ zo_sp V xo o' rn
theorem zX_suq {l : Launch} {w : zk_W} (hWξ : zh_W w) (A : Nat → Nat) (V : Nat → Nat → Int) (i9ξ : Nat) (xo : Option yD) : zk_metX l w zt_dv zt_TB zK_suq (zp_A (zφ_suq A V i9ξ xo)) (zp_B (zψ_suq A V i9ξ xo)) ∧ zk_cok w zt_TB zK_suq := by
  refine zp_methX (cn := "WoundTownModel") zp_lkall hWξ (pl := 2025) rfl (by decide +kernel) (fun p e R s m args below meth c Q u hx hb hEξ hQξ hU5ξ heffξ hnLξ hokξ hφ => ?_)
  have hwξ := hWξ.1
  obtain ⟨p0ξ, p1ξ, hpsξ, tk0, tk1⟩ := zp_ps2 hokξ
  have hrmξ : zk_Kr (zk_ev (zt_types, zp_lk, zt_dv, [], [], zp_lc, zK_suq)) = zk_Kr zK_suq := rfl
  rw [hpsξ] at hφ ⊢
  have hφ : zMVq A V u.1 (zp_n u.2.1) ∧ p0ξ = (A 0 : Int) ∧ p1ξ = (i9ξ : Int) ∧ i9ξ + 1 < 96 ∧ V 0 20 = 0 ∧ zo_rv V ∧ zo_sq V i9ξ xo := hφ
  obtain ⟨⟨M, hMξ, hVξ, hSbξ⟩, rfl, rfl, hi95ξ, h20ξ, hrvξ, hsqξ⟩ := hφ
  have hi1ξ := zp_int tk1
  show zp_J p l e R s m args below meth c Q w u [] 0 [(0, 2, (A 0 : Int)), (1, 0, (i9ξ : Int))] [] u.1 (zp_n u.2.1)
  obtain ⟨of9, hof9ξ⟩ : ∃ z0 : Int, V 0 60 = z0 := ⟨_, rfl⟩
  refine zp_kn (k := 60) (a := (A 0)) hwξ (show zp_fd 92 60 = some (12, 0, 0, 0, 1) from rfl) rfl (zM_P hMξ (List.mem_of_getElem? (i := 0) rfl)) (fun hk60ξ => ?_)
  have hk60bξ := zp_int hk60ξ
  rw [(zM_G hMξ (List.mem_of_getElem? (i := 0) rfl) 60).trans ((hVξ 0 60 (Or.inr (by decide))).trans hof9ξ)] at hk60bξ
  refine zp_load (pc := 0) hx hb (zd_X12_sumOf (0, .aload_n 0, 1, 0, []) (List.mem_of_getElem? (i := 0) rfl)) rfl (j := 0) rfl ?_
  refine zp_getf (n := of9) (pc := 1) hx hb hEξ hwξ (zd_X12_sumOf (1, .getfield 537, 3, 0, []) (List.mem_of_getElem? (i := 1) rfl)) (j := 78) rfl rfl rfl (zM_P hMξ (List.mem_of_getElem? (i := 0) rfl)) (((zM_G hMξ (List.mem_of_getElem? (i := 0) rfl) 60).trans (hVξ 0 60 (Or.inr (by decide)))).trans hof9ξ) ?_
  refine zp_if (pc := 4) (tgt := 24) hx hb (zd_X12_sumOf (4, .ifCond .ne 20, 3, 0, []) (List.mem_of_getElem? (i := 2) rfl)) rfl (fun (hc332ξ : ¬ of9 = 0) => ?_) (fun (hc332ξ : ¬ (¬ of9 = 0)) => ?_)
  · refine zp_const (pc := 24) hx hb (zd_X12_sumOf (24, .iconst (-1), 1, 0, []) (List.mem_of_getElem? (i := 14) rfl)) rfl rfl ?_
    refine zp_iret (pc := 25) (n := (-1)) hx hb hEξ hQξ hU5ξ rfl (by decide) (zd_X12_sumOf (25, .ireturn, 1, 0, []) (List.mem_of_getElem? (i := 15) rfl)) (j := 0) rfl (zp_o0 (by omega) (by omega) (by omega) (by omega)) ?_
    rw [hpsξ]
    refine ⟨rfl, ?_⟩
    refine ⟨V 0 60, (by rw [hof9ξ]; exact hk60bξ), ?_, zo_sp_n (Or.inl (by omega))⟩
    rw [zp_set_id]
    exact ⟨M, hMξ, hVξ, hSbξ⟩
  · refine zp_load (pc := 7) hx hb (zd_X12_sumOf (7, .aload_n 0, 1, 0, []) (List.mem_of_getElem? (i := 3) rfl)) rfl (j := 0) rfl ?_
    refine zp_getf (n := (A 56 : Int)) (pc := 8) hx hb hEξ hwξ (zd_X12_sumOf (8, .getfield 149, 3, 0, []) (List.mem_of_getElem? (i := 4) rfl)) (j := 74) rfl rfl rfl (zM_P hMξ (List.mem_of_getElem? (i := 0) rfl)) ((zM_G hMξ (List.mem_of_getElem? (i := 0) rfl) 56).trans (zM_F hMξ (List.mem_of_getElem? (i := 32) rfl))) ?_
    refine zp_load (pc := 11) hx hb (zd_X12_sumOf (11, .iload_n 1, 1, 0, []) (List.mem_of_getElem? (i := 5) rfl)) rfl (j := 1) rfl ?_
    refine zp_iald (j := i9ξ) (v := (V 56 (2000 + i9ξ))) (pc := 12) hx hb hwξ (zd_X12_sumOf (12, .iaload, 1, 0, []) (List.mem_of_getElem? (i := 6) rfl)) (show zp_ia 1 90 = some (96, 0, 0, (-2147483648), 2147483647) from rfl) (zM_P hMξ (List.mem_of_getElem? (i := 33) rfl)) (by omega) (by omega) ((zM_G hMξ (List.mem_of_getElem? (i := 33) rfl) (2000 + i9ξ)).trans (hVξ 56 (2000 + i9ξ) (Or.inl (by decide)))) (fun hk333ξ => ?_)
    have hk333bξ := zp_int hk333ξ
    clear hk333ξ
    refine zp_load (pc := 13) hx hb (zd_X12_sumOf (13, .aload_n 0, 1, 0, []) (List.mem_of_getElem? (i := 7) rfl)) rfl (j := 0) rfl ?_
    refine zp_getf (n := (A 56 : Int)) (pc := 14) hx hb hEξ hwξ (zd_X12_sumOf (14, .getfield 149, 3, 0, []) (List.mem_of_getElem? (i := 8) rfl)) (j := 74) rfl rfl rfl (zM_P hMξ (List.mem_of_getElem? (i := 0) rfl)) ((zM_G hMξ (List.mem_of_getElem? (i := 0) rfl) 56).trans (zM_F hMξ (List.mem_of_getElem? (i := 32) rfl))) ?_
    refine zp_load (pc := 17) hx hb (zd_X12_sumOf (17, .iload_n 1, 1, 0, []) (List.mem_of_getElem? (i := 9) rfl)) rfl (j := 1) rfl ?_
    refine zp_const (pc := 18) hx hb (zd_X12_sumOf (18, .iconst 1, 1, 0, []) (List.mem_of_getElem? (i := 10) rfl)) rfl rfl ?_
    refine zp_add (n := ((i9ξ : Int) + 1)) (pc := 19) hx hb (zd_X12_sumOf (19, .iadd, 1, 0, []) (List.mem_of_getElem? (i := 11) rfl)) (by omega) (zp_r0 (by omega) (by omega)) ?_
    refine zp_iald (j := (i9ξ + 1)) (v := (V 56 (2000 + (i9ξ + 1)))) (pc := 20) hx hb hwξ (zd_X12_sumOf (20, .iaload, 1, 0, []) (List.mem_of_getElem? (i := 12) rfl)) (show zp_ia 1 90 = some (96, 0, 0, (-2147483648), 2147483647) from rfl) (zM_P hMξ (List.mem_of_getElem? (i := 33) rfl)) (by omega) (by omega) ((zM_G hMξ (List.mem_of_getElem? (i := 33) rfl) (2000 + (i9ξ + 1))).trans (hVξ 56 (2000 + (i9ξ + 1)) (Or.inl (by decide)))) (fun hk334ξ => ?_)
    have hk334bξ := zp_int hk334ξ
    clear hk334ξ
    refine zp_icmp (pc := 21) (tgt := 26) hx hb (zd_X12_sumOf (21, .if_icmp .ne 5, 3, 0, []) (List.mem_of_getElem? (i := 13) rfl)) rfl (fun (hc335ξ : ¬ (V 56 (2000 + i9ξ)) = (V 56 (2000 + (i9ξ + 1)))) => ?_) (fun (hc335ξ : ¬ (¬ (V 56 (2000 + i9ξ)) = (V 56 (2000 + (i9ξ + 1))))) => ?_)
    · rcases hsqξ with ⟨-, h2ξ⟩ | ⟨x9ξ, b9ξ, e9ξ, k9ξ, f9ξ, hx9ξ, hb9ξ, he9ξ, helξ, hk9ξ, hy9ξ⟩
      · exfalso
        omega
      · have hof0ξ : V 0 60 = 0 := by omega
        have hlt9ξ := yE_lt hy9ξ
        refine zp_load (pc := 26) hx hb (zd_X12_sumOf (26, .aload_n 0, 1, 0, []) (List.mem_of_getElem? (i := 16) rfl)) rfl (j := 0) rfl ?_
        refine zp_const (pc := 27) hx hb (zd_X12_sumOf (27, .iconst 1, 1, 0, []) (List.mem_of_getElem? (i := 17) rfl)) rfl rfl ?_
        refine zp_putf (pc := 28) hx hb hEξ hwξ heffξ (zd_X12_sumOf (28, .putfield 319, 3, 0, []) (List.mem_of_getElem? (i := 18) rfl)) (j := 38) rfl rfl rfl (zM_P hMξ (List.mem_of_getElem? (i := 0) rfl)) (zp_o0 (by decide) (by decide) (by decide) (by decide)) ?_
        refine zp_load (pc := 31) hx hb (zd_X12_sumOf (31, .aload_n 0, 1, 0, []) (List.mem_of_getElem? (i := 19) rfl)) rfl (j := 0) rfl ?_
        refine zp_load (pc := 32) hx hb (zd_X12_sumOf (32, .aload_n 0, 1, 0, []) (List.mem_of_getElem? (i := 20) rfl)) rfl (j := 0) rfl ?_
        refine zp_getf (n := (A 56 : Int)) (pc := 33) hx hb hEξ hwξ (zd_X12_sumOf (33, .getfield 149, 3, 0, []) (List.mem_of_getElem? (i := 21) rfl)) (j := 74) rfl rfl rfl (zM_P hMξ (List.mem_of_getElem? (i := 0) rfl)) ((zp_set_ne (Or.inr (by decide))).trans (((zM_G hMξ (List.mem_of_getElem? (i := 0) rfl) 56).trans (zM_F hMξ (List.mem_of_getElem? (i := 32) rfl))))) ?_
        refine zp_load (pc := 36) hx hb (zd_X12_sumOf (36, .iload_n 1, 1, 0, []) (List.mem_of_getElem? (i := 22) rfl)) rfl (j := 1) rfl ?_
        refine zp_iald (j := i9ξ) (v := (b9ξ : Int)) (pc := 37) hx hb hwξ (zd_X12_sumOf (37, .iaload, 1, 0, []) (List.mem_of_getElem? (i := 23) rfl)) (show zp_ia 1 90 = some (96, 0, 0, (-2147483648), 2147483647) from rfl) (zM_P hMξ (List.mem_of_getElem? (i := 33) rfl)) (by omega) (by omega) ((zp_set_ne (Or.inl (zM_ne hMξ (List.mem_of_getElem? (i := 33) rfl) (List.mem_of_getElem? (i := 0) rfl) (by decide)))).trans ((((zM_G hMξ (List.mem_of_getElem? (i := 33) rfl) (2000 + i9ξ)).trans (hVξ 56 (2000 + i9ξ) (Or.inl (by decide)))).trans hb9ξ))) (fun hk336ξ => ?_)
        have hk336bξ := zp_int hk336ξ
        clear hk336ξ
        refine zp_load (pc := 38) hx hb (zd_X12_sumOf (38, .aload_n 0, 1, 0, []) (List.mem_of_getElem? (i := 24) rfl)) rfl (j := 0) rfl ?_
        refine zp_getf (n := (A 56 : Int)) (pc := 39) hx hb hEξ hwξ (zd_X12_sumOf (39, .getfield 149, 3, 0, []) (List.mem_of_getElem? (i := 25) rfl)) (j := 74) rfl rfl rfl (zM_P hMξ (List.mem_of_getElem? (i := 0) rfl)) ((zp_set_ne (Or.inr (by decide))).trans (((zM_G hMξ (List.mem_of_getElem? (i := 0) rfl) 56).trans (zM_F hMξ (List.mem_of_getElem? (i := 32) rfl))))) ?_
        refine zp_load (pc := 42) hx hb (zd_X12_sumOf (42, .iload_n 1, 1, 0, []) (List.mem_of_getElem? (i := 26) rfl)) rfl (j := 1) rfl ?_
        refine zp_const (pc := 43) hx hb (zd_X12_sumOf (43, .iconst 1, 1, 0, []) (List.mem_of_getElem? (i := 27) rfl)) rfl rfl ?_
        refine zp_add (n := ((i9ξ : Int) + 1)) (pc := 44) hx hb (zd_X12_sumOf (44, .iadd, 1, 0, []) (List.mem_of_getElem? (i := 28) rfl)) (by omega) (zp_r0 (by omega) (by omega)) ?_
        refine zp_iald (j := (i9ξ + 1)) (v := (e9ξ : Int)) (pc := 45) hx hb hwξ (zd_X12_sumOf (45, .iaload, 1, 0, []) (List.mem_of_getElem? (i := 29) rfl)) (show zp_ia 1 90 = some (96, 0, 0, (-2147483648), 2147483647) from rfl) (zM_P hMξ (List.mem_of_getElem? (i := 33) rfl)) (by omega) (by omega) ((zp_set_ne (Or.inl (zM_ne hMξ (List.mem_of_getElem? (i := 33) rfl) (List.mem_of_getElem? (i := 0) rfl) (by decide)))).trans ((((zM_G hMξ (List.mem_of_getElem? (i := 33) rfl) (2000 + (i9ξ + 1))).trans (hVξ 56 (2000 + (i9ξ + 1)) (Or.inl (by decide)))).trans he9ξ))) (fun hk337ξ => ?_)
        have hk337bξ := zp_int hk337ξ
        clear hk337ξ
        have hMqrξ : zM A zYq zFq (zp_set M 0 20 1) u.1 (zp_set (zp_n u.2.1) (A 0) 20 1) := (zM_set hMξ (List.mem_of_getElem? (i := 0) rfl) (by decide))
        have hVqrξ : ∀ o k, zNs o k → (zp_set M 0 20 1) o k = (zp_set V 0 20 1) o k := (zV_set hVξ)
        have hSqrξ : zSb (zp_set M 0 20 1) := (zSb_set (by decide) hSbξ)
        refine zp_call (pc := 46) (how := 0) (idx := 405) (mi := 243) (S := []) hx hb hEξ hwξ heffξ hrmξ (zX_ra9 hWξ (A 3) (A 24) (A 25) (A 36) (A 37) f9ξ k9ξ (fun j => V 3 (2000 + j)) (fun j => V 24 (2000 + j)) (fun j => V 25 (2000 + j)) (fun j => V 36 (2000 + j)) x9ξ) rfl (j := 43) rfl rfl (by decide +kernel) (zd_X12_sumOf (46, .invokevirtual 405, 3, 0, []) (List.mem_of_getElem? (i := 30) rfl)) [(A 0 : Int), (b9ξ : Int), (e9ξ : Int)] rfl ⟨zp_o2 (zM_P hMξ (List.mem_of_getElem? (i := 0) rfl)), zp_o0 (by omega) (by omega) (by omega) (by omega), zp_o0 (by omega) (by omega) (by omega) (by omega), trivial⟩ (Nat.le_of_ble_eq_true rfl) ⟨⟨((zM_G hMqrξ (List.mem_of_getElem? (i := 0) rfl) 20).trans ((hVqrξ 0 20 (Or.inr (by decide))).trans zp_set_self)), ((zM_G hMqrξ (List.mem_of_getElem? (i := 0) rfl) 3).trans (zM_F hMqrξ (List.mem_of_getElem? (i := 1) rfl))), ((zM_G hMqrξ (List.mem_of_getElem? (i := 0) rfl) 24).trans (zM_F hMqrξ (List.mem_of_getElem? (i := 10) rfl))), ((zM_G hMqrξ (List.mem_of_getElem? (i := 0) rfl) 25).trans (zM_F hMqrξ (List.mem_of_getElem? (i := 11) rfl))), ((zM_G hMqrξ (List.mem_of_getElem? (i := 0) rfl) 36).trans (zM_F hMqrξ (List.mem_of_getElem? (i := 18) rfl))), ((zM_G hMqrξ (List.mem_of_getElem? (i := 0) rfl) 37).trans (zM_F hMqrξ (List.mem_of_getElem? (i := 19) rfl))), (fun j => (zM_G hMqrξ (List.mem_of_getElem? (i := 2) rfl) _).trans ((hVqrξ 3 _ (Or.inl (by decide))).trans (zp_set_ne (Or.inl (by decide))))), (fun j => (zM_G hMqrξ (List.mem_of_getElem? (i := 11) rfl) _).trans ((hVqrξ 24 _ (Or.inl (by decide))).trans (zp_set_ne (Or.inl (by decide))))), (fun j => (zM_G hMqrξ (List.mem_of_getElem? (i := 12) rfl) _).trans ((hVqrξ 25 _ (Or.inl (by decide))).trans (zp_set_ne (Or.inl (by decide))))), (fun j => (zM_G hMqrξ (List.mem_of_getElem? (i := 19) rfl) _).trans ((hVqrξ 36 _ (Or.inl (by decide))).trans (zp_set_ne (Or.inl (by decide)))))⟩, zM_P hMqrξ (List.mem_of_getElem? (i := 2) rfl), zM_P hMqrξ (List.mem_of_getElem? (i := 11) rfl), zM_P hMqrξ (List.mem_of_getElem? (i := 12) rfl), zM_P hMqrξ (List.mem_of_getElem? (i := 19) rfl), zM_P hMqrξ (List.mem_of_getElem? (i := 20) rfl), hrvξ.1, hrvξ.2.1, hrvξ.2.2.1, hrvξ.2.2.2, (show yE _ _ f9ξ ((b9ξ : Nat) : Int).toNat ((e9ξ : Nat) : Int).toNat k9ξ x9ξ by rw [Int.toNat_natCast, Int.toNat_natCast]; exact hy9ξ), hk9ξ⟩ (fun al halξ rnr Pr Gr hextrξ hfrrξ hokrξ hcsrξ hpsirξ => ?_)
        obtain rfl := List.mem_singleton.mp halξ
        obtain ⟨hPerξ, htrξ⟩ := hpsirξ
        have hMrξ := zM_eff (eff := [(92, 38, 0), (92, 39, 0), (77, 1001, 0)]) hMqrξ hfrrξ hextrξ (zM_fb (by decide +kernel))
        subst hPerξ
        obtain ⟨Mr, hMrξ, hMfrξ⟩ := hMrξ
        have hVrξ : ∀ o k, zNs o k → Mr o k = (zp_set V 0 20 1) o k := fun o k hkξ => (zMf_q hMfrξ hkξ).trans (hVqrξ o k hkξ)
        have hSbrξ : zSb Mr := fun j hjξ => by
          rw [hMfrξ 35 75 _ (List.mem_of_getElem? (i := 18) rfl) (Or.inr rfl)]
          exact hSqrξ j hjξ
        clear hMfrξ hfrrξ hextrξ hokrξ hcsrξ
        have htr1ξ : ∀ v, x9ξ (zo_eV V) = some v → (-2147483648 ≤ v ∧ v ≤ 2147483647) ∧ Gr (A 0) 38 = 0 ∧ Gr (A 0) 39 = v := htrξ.1
        have htr2ξ : x9ξ (zo_eV V) = none → Gr (A 0) 38 = 1 := htrξ.2
        rcases hxvξ : x9ξ (zo_eV V) with _ | v9ξ
        · have h38ξ : Mr 0 38 = 1 := (zM_G hMrξ (List.mem_of_getElem? (i := 0) rfl) 38).symm.trans (htr2ξ hxvξ)
          refine zp_load (pc := 49) hx hb (zd_X12_sumOf (49, .aload_n 0, 1, 0, []) (List.mem_of_getElem? (i := 31) rfl)) rfl (j := 0) rfl ?_
          refine zp_const (pc := 50) hx hb (zd_X12_sumOf (50, .iconst 0, 1, 0, []) (List.mem_of_getElem? (i := 32) rfl)) rfl rfl ?_
          refine zp_putf (pc := 51) hx hb hEξ hwξ heffξ (zd_X12_sumOf (51, .putfield 319, 3, 0, []) (List.mem_of_getElem? (i := 33) rfl)) (j := 38) rfl rfl rfl (zM_P hMrξ (List.mem_of_getElem? (i := 0) rfl)) (zp_o0 (by decide) (by decide) (by decide) (by decide)) ?_
          refine zp_load (pc := 54) hx hb (zd_X12_sumOf (54, .aload_n 0, 1, 0, []) (List.mem_of_getElem? (i := 34) rfl)) rfl (j := 0) rfl ?_
          refine zp_load (pc := 55) hx hb (zd_X12_sumOf (55, .aload_n 0, 1, 0, []) (List.mem_of_getElem? (i := 35) rfl)) rfl (j := 0) rfl ?_
          refine zp_getf (n := 1) (pc := 56) hx hb hEξ hwξ (zd_X12_sumOf (56, .getfield 388, 3, 0, []) (List.mem_of_getElem? (i := 36) rfl)) (j := 56) rfl rfl rfl (zM_P hMrξ (List.mem_of_getElem? (i := 0) rfl)) ((zp_set_ne (Or.inr (by decide))).trans (((zM_G hMrξ (List.mem_of_getElem? (i := 0) rfl) 38).trans h38ξ))) ?_
          refine zp_putf (pc := 59) hx hb hEξ hwξ heffξ (zd_X12_sumOf (59, .putfield 537, 3, 0, []) (List.mem_of_getElem? (i := 37) rfl)) (j := 78) rfl rfl rfl (zM_P hMrξ (List.mem_of_getElem? (i := 0) rfl)) (zp_o0 (by decide) (by decide) (by decide) (by decide)) ?_
          refine zp_load (pc := 62) hx hb (zd_X12_sumOf (62, .aload_n 0, 1, 0, []) (List.mem_of_getElem? (i := 38) rfl)) rfl (j := 0) rfl ?_
          refine zp_getf (n := (Mr 0 39)) (pc := 63) hx hb hEξ hwξ (zd_X12_sumOf (63, .getfield 402, 3, 0, []) (List.mem_of_getElem? (i := 39) rfl)) (j := 57) rfl rfl rfl (zM_P hMrξ (List.mem_of_getElem? (i := 0) rfl)) ((zp_set_ne (Or.inr (by decide))).trans ((zp_set_ne (Or.inr (by decide))).trans ((zM_G hMrξ (List.mem_of_getElem? (i := 0) rfl) 39)))) ?_
          refine zp_l2i (pc := 66) hx hb (zd_X12_sumOf (66, .l2i, 1, 0, []) (List.mem_of_getElem? (i := 40) rfl)) (fun x338 r_x338 e_x338 => ?_)
          have i_x338 := zp_rg0 r_x338
          refine zp_iret (pc := 67) (n := x338) hx hb hEξ hQξ hU5ξ rfl (by decide) (zd_X12_sumOf (67, .ireturn, 1, 0, []) (List.mem_of_getElem? (i := 41) rfl)) (j := 0) rfl (zp_o0 (by omega) (by omega) (by omega) (by omega)) ?_
          rw [hpsξ]
          refine ⟨rfl, ?_⟩
          refine ⟨1, by decide, ?_, ?_⟩
          · rw [← zo_20 h20ξ]
            exact ⟨(zp_set (zp_set Mr 0 20 0) 0 60 1), (zM_set (zM_set hMrξ (List.mem_of_getElem? (i := 0) rfl) (by decide)) (List.mem_of_getElem? (i := 0) rfl) (by decide)), (zV_set (zV_set hVrξ)), (zSb_set (by decide) (zSb_set (by decide) hSbrξ))⟩
          · refine ⟨fun h => ?_, fun x h1ξ h2ξ => ?_⟩
            · rcases h with h | h
              · exact absurd hof0ξ h
              · rw [h] at hx9ξ
                cases hx9ξ
            · rw [hx9ξ] at h2ξ
              obtain rfl := Option.some.inj h2ξ
              exact ⟨fun v hvξ => by (rw [hxvξ] at hvξ; cases hvξ), fun _ => rfl⟩
        · obtain ⟨hbv9ξ, h38ξ, h39ξ⟩ := htr1ξ v9ξ hxvξ
          have h38ξ : Mr 0 38 = 0 := (zM_G hMrξ (List.mem_of_getElem? (i := 0) rfl) 38).symm.trans h38ξ
          have h39ξ : Mr 0 39 = v9ξ := (zM_G hMrξ (List.mem_of_getElem? (i := 0) rfl) 39).symm.trans h39ξ
          refine zp_load (pc := 49) hx hb (zd_X12_sumOf (49, .aload_n 0, 1, 0, []) (List.mem_of_getElem? (i := 31) rfl)) rfl (j := 0) rfl ?_
          refine zp_const (pc := 50) hx hb (zd_X12_sumOf (50, .iconst 0, 1, 0, []) (List.mem_of_getElem? (i := 32) rfl)) rfl rfl ?_
          refine zp_putf (pc := 51) hx hb hEξ hwξ heffξ (zd_X12_sumOf (51, .putfield 319, 3, 0, []) (List.mem_of_getElem? (i := 33) rfl)) (j := 38) rfl rfl rfl (zM_P hMrξ (List.mem_of_getElem? (i := 0) rfl)) (zp_o0 (by decide) (by decide) (by decide) (by decide)) ?_
          refine zp_load (pc := 54) hx hb (zd_X12_sumOf (54, .aload_n 0, 1, 0, []) (List.mem_of_getElem? (i := 34) rfl)) rfl (j := 0) rfl ?_
          refine zp_load (pc := 55) hx hb (zd_X12_sumOf (55, .aload_n 0, 1, 0, []) (List.mem_of_getElem? (i := 35) rfl)) rfl (j := 0) rfl ?_
          refine zp_getf (n := 0) (pc := 56) hx hb hEξ hwξ (zd_X12_sumOf (56, .getfield 388, 3, 0, []) (List.mem_of_getElem? (i := 36) rfl)) (j := 56) rfl rfl rfl (zM_P hMrξ (List.mem_of_getElem? (i := 0) rfl)) ((zp_set_ne (Or.inr (by decide))).trans (((zM_G hMrξ (List.mem_of_getElem? (i := 0) rfl) 38).trans h38ξ))) ?_
          refine zp_putf (pc := 59) hx hb hEξ hwξ heffξ (zd_X12_sumOf (59, .putfield 537, 3, 0, []) (List.mem_of_getElem? (i := 37) rfl)) (j := 78) rfl rfl rfl (zM_P hMrξ (List.mem_of_getElem? (i := 0) rfl)) (zp_o0 (by decide) (by decide) (by decide) (by decide)) ?_
          refine zp_load (pc := 62) hx hb (zd_X12_sumOf (62, .aload_n 0, 1, 0, []) (List.mem_of_getElem? (i := 38) rfl)) rfl (j := 0) rfl ?_
          refine zp_getf (n := v9ξ) (pc := 63) hx hb hEξ hwξ (zd_X12_sumOf (63, .getfield 402, 3, 0, []) (List.mem_of_getElem? (i := 39) rfl)) (j := 57) rfl rfl rfl (zM_P hMrξ (List.mem_of_getElem? (i := 0) rfl)) ((zp_set_ne (Or.inr (by decide))).trans ((zp_set_ne (Or.inr (by decide))).trans (((zM_G hMrξ (List.mem_of_getElem? (i := 0) rfl) 39).trans h39ξ)))) ?_
          refine zp_l2i (pc := 66) hx hb (zd_X12_sumOf (66, .l2i, 1, 0, []) (List.mem_of_getElem? (i := 40) rfl)) (fun x339 r_x339 e_x339 => ?_)
          have i_x339 := zp_rg0 r_x339
          have hn9ξ : x339 = v9ξ := e_x339 (zp_r0 (by omega) (by omega))
          refine zp_iret (pc := 67) (n := x339) hx hb hEξ hQξ hU5ξ rfl (by decide) (zd_X12_sumOf (67, .ireturn, 1, 0, []) (List.mem_of_getElem? (i := 41) rfl)) (j := 0) rfl (zp_o0 (by omega) (by omega) (by omega) (by omega)) ?_
          rw [hpsξ]
          refine ⟨rfl, ?_⟩
          refine ⟨0, by decide, ?_, ?_⟩
          · rw [← zo_20 h20ξ]
            exact ⟨(zp_set (zp_set Mr 0 20 0) 0 60 0), (zM_set (zM_set hMrξ (List.mem_of_getElem? (i := 0) rfl) (by decide)) (List.mem_of_getElem? (i := 0) rfl) (by decide)), (zV_set (zV_set hVrξ)), (zSb_set (by decide) (zSb_set (by decide) hSbrξ))⟩
          · refine ⟨fun h => ?_, fun x h1ξ h2ξ => ?_⟩
            · rcases h with h | h
              · exact absurd hof0ξ h
              · rw [h] at hx9ξ
                cases hx9ξ
            · rw [hx9ξ] at h2ξ
              obtain rfl := Option.some.inj h2ξ
              exact ⟨fun v hvξ => ⟨rfl, (Eq.trans hn9ξ) (Option.some.inj ((Eq.symm hxvξ).trans hvξ))⟩, fun hvξ => by rw [hxvξ] at hvξ; cases hvξ⟩
    · refine zp_const (pc := 24) hx hb (zd_X12_sumOf (24, .iconst (-1), 1, 0, []) (List.mem_of_getElem? (i := 14) rfl)) rfl rfl ?_
      have hxnξ : xo = none := by
        rcases hsqξ with ⟨h1ξ, -⟩ | ⟨x9ξ, b9ξ, e9ξ, k9ξ, f9ξ, -, hb9ξ, he9ξ, -, -, hy9ξ⟩
        · exact h1ξ
        · have := yE_lt hy9ξ
          exfalso
          omega
      refine zp_iret (pc := 25) (n := (-1)) hx hb hEξ hQξ hU5ξ rfl (by decide) (zd_X12_sumOf (25, .ireturn, 1, 0, []) (List.mem_of_getElem? (i := 15) rfl)) (j := 0) rfl (zp_o0 (by omega) (by omega) (by omega) (by omega)) ?_
      rw [hpsξ]
      refine ⟨rfl, ?_⟩
      refine ⟨V 0 60, (by rw [hof9ξ]; exact hk60bξ), ?_, zo_sp_n (Or.inr hxnξ)⟩
      rw [zp_set_id]
      exact ⟨M, hMξ, hVξ, hSbξ⟩
