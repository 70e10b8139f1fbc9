/-! part h2ξ: the reference over logical cells: a day is laid -/
/-- a list of clauses asks for the nine words alone -/
noncomputable def zyL (L : List yK) : Prop := ∀ (en en' : Int → Int → Int), (∀ o a, 0 ≤ o → o ≤ 9 → en o a = en' o a) → ∀ h, yw en h L = yw en' h L
noncomputable def zd_S0 : Nat → Int := fun _ => 0
theorem zg_ew_9 {R St : Nat → Int} {t pw h p o a : Int} (h0ξ : 0 ≤ o) (h9ξ : o ≤ 9) : zg_ew R St t pw h p o a = zg_ew R zd_S0 t pw h p o a := by
  unfold zg_ew zg_en
  by_cases c0 : o = 0
  · rw [if_pos c0, if_pos c0]
  · rw [if_neg c0, if_neg c0]
    have hjξ : o.toNat = 1 ∨ o.toNat = 2 ∨ o.toNat = 3 ∨ o.toNat = 4 ∨ o.toNat = 5 ∨ o.toNat = 6 ∨ o.toNat = 7 ∨ o.toNat = 8 ∨ o.toNat = 9 := by omega
    rcases hjξ with e | e | e | e | e | e | e | e | e <;> rw [e] <;> rfl
theorem zy_sp_9 {R St : Nat → Int} {t pw h p li : Int} {L : List yK} (hLξ : zyL L) : zy_sp (zg_ew R St t pw h p) L pw li = zy_sp (zg_ew R zd_S0 t pw h p) L pw li := by
  unfold zy_sp
  rw [hLξ _ _ (fun o a h0ξ h9ξ => zg_ew_9 h0ξ h9ξ) 1]
theorem zy_ru_9 {R St : Nat → Int} {t pw h p : Int} {L : List yK} (hLξ : zyL L) : zy_ru (zg_ew R St t pw h p) L = zy_ru (zg_ew R zd_S0 t pw h p) L := by
  unfold zy_ru
  rw [hLξ _ _ (fun o a h0ξ h9ξ => zg_ew_9 h0ξ h9ξ) 0]
theorem zy_we_9 {R St : Nat → Int} {t pw h p t2 : Int} {L : List yK} (hLξ : zyL L) : zy_we (zg_ew R St t pw h p) L t2 = zy_we (zg_ew R zd_S0 t pw h p) L t2 := by
  unfold zy_we
  rw [hLξ _ _ (fun o a h0ξ h9ξ => zg_ew_9 h0ξ h9ξ) 2]
theorem zy_sn_9 {R St : Nat → Int} {t pw h p t2 : Int} {L : List yK} (hLξ : zyL L) : zy_sn (zg_ew R St t pw h p) L t2 = zy_sn (zg_ew R zd_S0 t pw h p) L t2 := by
  unfold zy_sn
  rw [hLξ _ _ (fun o a h0ξ h9ξ => zg_ew_9 h0ξ h9ξ) 3]
/-- which work can be gone on with at the hour's beginning -/
noncomputable def zd_rd (R W : Nat → Int) (w : Nat) : Int := if R (5 * w + 43) = -1 ∨ W (R (5 * w + 43)).toNat = R (5 * (R (5 * w + 43)).toNat + 40) then 1 else 0
/-- one person in an hourξ: what is done of works, when they ended -/
noncomputable def zd_ps (R D : Nat → Int) (n : Nat) (s h : Int) (p : Nat) (X : (Nat → Int) × (Nat → Int)) : (Nat → Int) × (Nat → Int) :=
  if zd_pk R D X.1 p n 0 = -1 then X
  else (yu X.1 (zd_pk R D X.1 p n 0).toNat (max 0 (min (R (5 * (zd_pk R D X.1 p n 0).toNat + 40)) (X.1 (zd_pk R D X.1 p n 0).toNat + s))),
    yu X.2 (zd_pk R D X.1 p n 0).toNat (if max 0 (min (R (5 * (zd_pk R D X.1 p n 0).toNat + 40)) (X.1 (zd_pk R D X.1 p n 0).toNat + s)) = R (5 * (zd_pk R D X.1 p n 0).toNat + 40) then h else -1))
/-- an hourξ, the first people of it -/
noncomputable def zd_hp (R D : Nat → Int) (n : Nat) (sp : Nat → Int) (h : Int) (X : (Nat → Int) × (Nat → Int)) : Nat → (Nat → Int) × (Nat → Int)
  | 0 => X
  | p + 1 => zd_ps R D n (sp p) h p (zd_hp R D n sp h X p)
/-- power hourξ by hourξ -/
noncomputable def zd_pw (ru : Int → Nat → Int) (t : Int) : Nat → Int
  | 0 => 100 * t
  | h + 1 => max 0 (min 100000000 (zd_pw ru t h - ru (zd_pw ru t h) h))
/-- a day, hourξ by hourξ -/
noncomputable def zd_hr (R : Nat → Int) (n npξ : Nat) (sp : Int → Nat → Nat → Int) (ru : Int → Nat → Int) (t : Int) : Nat → (Nat → Int) × (Nat → Int)
  | 0 => (fun w => R (w + 29), fun _ => -1)
  | h + 1 => zd_hp R (zd_rd R (zd_hr R n npξ sp ru t h).1) n (sp (zd_pw ru t h) h) h (zd_hr R n npξ sp ru t h) npξ
noncomputable def zd_sp (R : Nat → Int) (L : List yK) (t : Int) : Int → Nat → Nat → Int := fun pw h p => zy_sp (zg_ew R zd_S0 t pw h p) L pw (R (3 * p + 13))
noncomputable def zd_ru (R : Nat → Int) (L : List yK) (t : Int) : Int → Nat → Int := fun pw h => zy_ru (zg_ew R zd_S0 t pw h (-1)) L
theorem zd_spb {R : Nat → Int} {L : List yK} {t : Int} {pw : Int} {h p : Nat} : 0 ≤ zd_sp R L t pw h p ∧ zd_sp R L t pw h p ≤ 60 := by
  unfold zd_sp zy_sp
  split <;> omega
theorem zd_rub {R : Nat → Int} {L : List yK} {t : Int} {pw : Int} {h : Nat} : 0 ≤ zd_ru R L t pw h ∧ zd_ru R L t pw h ≤ 999 := by
  unfold zd_ru zy_ru
  split <;> omega
theorem zd_pwb {R : Nat → Int} {L : List yK} {t : Int} (h1ξ : 0 ≤ t) (h2ξ : t ≤ 12) : ∀ {h : Nat}, 0 ≤ zd_pw (zd_ru R L t) t h ∧ zd_pw (zd_ru R L t) t h ≤ 1200
  | 0 => by
    show 0 ≤ 100 * t ∧ 100 * t ≤ 1200
    omega
  | h + 1 => by
    have ih := zd_pwb (R := R) (L := L) h1ξ h2ξ (h := h)
    have := zd_rub (R := R) (L := L) (t := t) (pw := zd_pw (zd_ru R L t) t h) (h := h)
    show 0 ≤ max 0 (min 100000000 (zd_pw (zd_ru R L t) t h - zd_ru R L t (zd_pw (zd_ru R L t) t h) h)) ∧ max 0 (min 100000000 (zd_pw (zd_ru R L t) t h - zd_ru R L t (zd_pw (zd_ru R L t) t h) h)) ≤ 1200
    omega
/-- what a row must be, that a day can be laid -/
noncomputable def zd_ok (R : Nat → Int) (n npξ : Nat) : Prop := n ≤ 10 ∧ npξ ≤ 6 ∧ R 1 = (n : Int) ∧ R 0 = (npξ : Int) ∧ (∀ w, w < n → -1 ≤ R (5 * w + 43) ∧ R (5 * w + 43) < (n : Int) ∧ 0 ≤ R (5 * w + 40) ∧ R (5 * w + 40) ≤ 600 ∧ 0 ≤ R (w + 29) ∧ R (w + 29) ≤ 600) ∧ ∀ p, p < npξ → 0 ≤ R (3 * p + 13) ∧ R (3 * p + 13) ≤ 9
theorem zd_psb {R D : Nat → Int} {n npξ : Nat} {s h : Int} {p : Nat} {X : (Nat → Int) × (Nat → Int)} (hokξ : zd_ok R n npξ) (hXξ : ∀ w, w < n → 0 ≤ X.1 w ∧ X.1 w ≤ 600) : ∀ w, w < n → 0 ≤ (zd_ps R D n s h p X).1 w ∧ (zd_ps R D n s h p X).1 w ≤ 600 := by
  intro w hwξ
  unfold zd_ps
  split
  · exact hXξ w hwξ
  · rcases zd_pk_r (R := R) (D := D) (W := X.1) (p := p) (k := n) (w := 0) with e | ⟨j, e, -, e2, -⟩
    · rename_i hnξ
      exact absurd e hnξ
    · rw [e, Int.toNat_natCast]
      show 0 ≤ yu X.1 j (max 0 (min (R (5 * j + 40)) (X.1 j + s))) w ∧ yu X.1 j (max 0 (min (R (5 * j + 40)) (X.1 j + s))) w ≤ 600
      unfold yu
      split
      · have := (hokξ.2.2.2.2.1 j (by omega)).2.2.1
        have := (hokξ.2.2.2.2.1 j (by omega)).2.2.2.1
        omega
      · exact hXξ w hwξ
theorem zd_hpb {R D : Nat → Int} {n npξ : Nat} {sp : Nat → Int} {h : Int} {X : (Nat → Int) × (Nat → Int)} (hokξ : zd_ok R n npξ) (hXξ : ∀ w, w < n → 0 ≤ X.1 w ∧ X.1 w ≤ 600) : ∀ {p w : Nat}, w < n → 0 ≤ (zd_hp R D n sp h X p).1 w ∧ (zd_hp R D n sp h X p).1 w ≤ 600
  | 0, w, hwξ => hXξ w hwξ
  | p + 1, w, hwξ => zd_psb hokξ (fun w hwξ => zd_hpb hokξ hXξ (p := p) hwξ) w hwξ
theorem zd_hrb {R : Nat → Int} {n npξ : Nat} {sp : Int → Nat → Nat → Int} {ru : Int → Nat → Int} {t : Int} (hokξ : zd_ok R n npξ) : ∀ {h w : Nat}, w < n → 0 ≤ (zd_hr R n npξ sp ru t h).1 w ∧ (zd_hr R n npξ sp ru t h).1 w ≤ 600
  | 0, w, hwξ => (hokξ.2.2.2.2.1 w hwξ).2.2.2.2
  | h + 1, w, hwξ => zd_hpb hokξ (fun w hwξ => zd_hrb hokξ (h := h) hwξ) hwξ
/-- what is laid of the hoursξ ahead of h -/
noncomputable def zDyh (R : Nat → Int) (L : List yK) (n npξ : Nat) (t : Int) (h : Nat) (M : Nat → Nat → Int) : Prop :=
  (∀ g p, g < h → p < npξ → M 42 (2000 + (6 * g + p)) = zd_sp R L t (zd_pw (zd_ru R L t) t g) g p) ∧
  (∀ g, g < h → M 41 (2000 + g) = zd_pw (zd_ru R L t) t g) ∧
  ∀ g w, g < h → w < n → M 43 (2000 + (10 * g + w)) = (zd_hr R n npξ (zd_sp R L t) (zd_ru R L t) t (g + 1)).1 w
/-- works as told -/
noncomputable def zDyx (n : Nat) (X : (Nat → Int) × (Nat → Int)) (M : Nat → Nat → Int) : Prop := ∀ w, w < n → M 44 (2000 + w) = X.1 w ∧ M 45 (2000 + w) = X.2 w
/-- a law in force in the row -/
noncomputable def zgLw (R : Nat → Int) (L : List yK) : Prop := (R 4 = -1 ∧ L = []) ∨ ∃ i : Nat, i < 6 ∧ R 4 = (i : Int) ∧ R ((900 * i + 180) + 1) = (L.length : Int) ∧ L.length ≤ 12 ∧ zLs (zg_cl R (900 * i + 180)) (zg_op R (900 * i + 180)) (zg_ar R (900 * i + 180)) 400 0 L
theorem zDyh_f {R : Nat → Int} {L : List yK} {n npξ h : Nat} {t : Int} {M M' : Nat → Nat → Int} (hdξ : zDyh R L n npξ t h M) (heξ : ∀ o k, 41 ≤ o → o ≤ 43 → M' o k = M o k) : zDyh R L n npξ t h M' :=
  ⟨fun g p hgξ hpξ => (heξ 42 _ (by decide) (by decide)).trans (hdξ.1 g p hgξ hpξ), fun g hgξ => (heξ 41 _ (by decide) (by decide)).trans (hdξ.2.1 g hgξ), fun g w hgξ hwξ => (heξ 43 _ (by decide) (by decide)).trans (hdξ.2.2 g w hgξ hwξ)⟩
theorem zNs_ne {o k o' k' : Nat} (h : zNs o k) (h' : o' = 35 ∨ o' = 37 ∨ (41 ≤ o' ∧ o' ≤ 46)) : o ≠ o' ∨ k ≠ k' := by
  refine Or.inl (fun e => ?_)
  subst e
  rcases h with h | ⟨h, _⟩
  · have h2ξ : ∀ x ∈ zNl, ¬ (x = 35 ∨ x = 37 ∨ (41 ≤ x ∧ x ≤ 46)) := by decide
    exact h2ξ _ h h'
  · omega
theorem zMf_l {Y : List (Nat × Nat)} {eff : List (Nat × Nat × Nat)} {L : List Nat} {M M' : Nat → Nat → Int} (hLξ : L.all (fun o => Y.any (fun q => q.1 == o && zp_ncb eff q.2)) = true) (h : ∀ o t k, (o, t) ∈ Y → (zp_nfb eff t k = true ∨ zp_ncb eff t = true) → M' o k = M o k) {o k : Nat} (hoξ : o ∈ L) : M' o k = M o k := by
  obtain ⟨q, q1, q2⟩ := List.any_eq_true.mp (List.all_eq_true.mp hLξ o hoξ)
  rw [Bool.and_eq_true, beq_iff_eq] at q2
  exact h o q.2 k (by rw [← q2.1]; exact q1) (Or.inr q2.2)
noncomputable def zE4 : List (Nat × Nat × Nat) := [(13, 34, 0), (75, 1001, 0), (13, 38, 0), (13, 39, 0), (13, 40, 0), (77, 1001, 0)]
theorem zMf_s {M M' : Nat → Nat → Int} {o k : Nat} (h : ∀ o t k, (o, t) ∈ zYr → (zp_nfb zE4 t k = true ∨ zp_ncb zE4 t = true) → M' o k = M o k) (hkξ : zNs o k) : M' o k = M o k := by
  rcases hkξ with hkξ | ⟨rfl, hkξ⟩
  · exact zMf_l (L := zNl) (by decide +kernel) h hkξ
  · refine h 0 13 k (List.mem_of_getElem? (i := 0) rfl) (Or.inl ?_)
    have h2ξ : ∀ k, k < 64 → k ≠ 34 ∧ k ≠ 38 ∧ k ≠ 39 ∧ k ≠ 40 → zp_nfb zE4 13 k = true := by decide +kernel
    exact h2ξ k hkξ.1 hkξ.2
theorem zMf_t {M M' : Nat → Nat → Int} {o k : Nat} (h : ∀ o t k, (o, t) ∈ zYr → (zp_nfb zE4 t k = true ∨ zp_ncb zE4 t = true) → M' o k = M o k) (h1ξ : 41 ≤ o) (h2ξ : o ≤ 46) : M' o k = M o k := by
  have h3ξ : o ∈ [41, 42, 43, 44, 45, 46] := by
    have : o = 41 ∨ o = 42 ∨ o = 43 ∨ o = 44 ∨ o = 45 ∨ o = 46 := by omega
    rcases this with rfl | rfl | rfl | rfl | rfl | rfl <;> decide
  exact zMf_l (L := [41, 42, 43, 44, 45, 46]) (by decide +kernel) h h3ξ
noncomputable def zK_lay : zk_K := (zt_mn 248, prog_14_method_77_code, 8, (Option.none : Option Jvm.ClassFile.FieldType), 1, 12, [(2, 13, 0, 0), (0, 0, (-2147483648), 2147483647)], [(none, [])], [(13, 34, 0), (75, 1001, 0), (13, 38, 0), (13, 39, 0), (13, 40, 0), (77, 1001, 0), (78, 1001, 0), (79, 1001, 0), (80, 1001, 0), (81, 1001, 0), (82, 1001, 0), (83, 1001, 0)], (5, 260, 0, 0))
noncomputable def zφ_lay (A : Nat → Nat) (M : Nat → Nat → Int) (n1ξ npξ : Nat) (Rwξ : Nat → Int) (Lwξ : List yK) : (Nat → Option Nat) → (Nat → Nat → Int) → List Int → Prop := fun P G ps => zM A zYr zFr M P G ∧ ps.getD 0 0 = (A 0 : Int) ∧ M 0 47 = -1 ∧ M 0 20 = 0 ∧ zd_ok Rwξ n1ξ npξ ∧ (∀ j, M 3 (2000 + j) = Rwξ j) ∧ (∀ j, j < 5580 → -2147483648 ≤ Rwξ j ∧ Rwξ j ≤ 2147483647) ∧ zgLw Rwξ Lwξ ∧ zyL Lwξ ∧ zSb M ∧ 0 ≤ (ps.getD 1 0) ∧ (ps.getD 1 0) ≤ 12
noncomputable def zψ_lay (A : Nat → Nat) (M : Nat → Nat → Int) (n1ξ npξ : Nat) (Rwξ : Nat → Int) (Lwξ : List yK) : (Nat → Option Nat) → (Nat → Nat → Int) → List Int → (Nat → Option Nat) → (Nat → Nat → Int) → Int → Prop := fun P G ps P' G' rn => P' = P ∧ ∃ M' : Nat → Nat → Int, zM A zYr zFr M' P' G' ∧ (∀ o k, zNs o k → M' o k = M o k) ∧ zSb M' ∧ zDyh Rwξ Lwξ n1ξ npξ (ps.getD 1 0) 24 M' ∧ zDyx n1ξ (zd_hr Rwξ n1ξ npξ (zd_sp Rwξ Lwξ (ps.getD 1 0)) (zd_ru Rwξ Lwξ (ps.getD 1 0)) (ps.getD 1 0) 24) M'
set_option maxHeartbeats 4000000 in
theorem zX_lay {l : Launch} {w : zk_W} (hWξ : zh_W w) (A : Nat → Nat) (M : Nat → Nat → Int) (n1ξ npξ : Nat) (Rwξ : Nat → Int) (Lwξ : List yK) : zk_metX l w zt_dv zt_TB zK_lay (zp_A (zφ_lay A M n1ξ npξ Rwξ Lwξ)) (zp_B (zψ_lay A M n1ξ npξ Rwξ Lwξ)) ∧ zk_cok w zt_TB zK_lay := by
  refine zp_methX (cn := "WoundTownModel") zp_lkall hWξ (pl := 1842) rfl (by decide +kernel) (fun p e R s m args below meth c Q u hx hb hEξ hQξ hU5ξ heffξ hnLξ hokξ hφ => ?_)
  have hwξ := hWξ.1
  obtain ⟨p0ξ, p1ξ, hpsξ, tk0, tk1⟩ := zp_ps2 hokξ
  have hrmξ : zk_Kr (zk_ev (zt_types, zp_lk, zt_dv, [], [], zp_lc, zK_lay)) = zk_Kr zK_lay := rfl
  rw [hpsξ] at hφ ⊢
  have hφ : zM A zYr zFr M u.1 (zp_n u.2.1) ∧ p0ξ = (A 0 : Int) ∧ M 0 47 = -1 ∧ M 0 20 = 0 ∧ zd_ok Rwξ n1ξ npξ ∧ (∀ j, M 3 (2000 + j) = Rwξ j) ∧ (∀ j, j < 5580 → -2147483648 ≤ Rwξ j ∧ Rwξ j ≤ 2147483647) ∧ zgLw Rwξ Lwξ ∧ zyL Lwξ ∧ zSb M ∧ 0 ≤ p1ξ ∧ p1ξ ≤ 12 := hφ
  obtain ⟨hMξ, rfl, h47ξ, h20ξ, hDξ, hRw0ξ, hRbξ, hlwξ, hLξ, hSb0ξ, ht0ξ, ht12ξ⟩ := hφ
  have hi1ξ := zp_int tk1
  show zp_J p l e R s m args below meth c Q w u [] 0 [(0, 2, (A 0 : Int)), (1, 0, p1ξ)] [] u.1 (zp_n u.2.1)
  have hDkξ := hDξ
  obtain ⟨hn10ξ, hnp6ξ, hn1ξ, hnpξ, hDwξ, hDpξ⟩ := hDξ
  obtain ⟨M0ξ, hM0ξ⟩ : ∃ M0ξ : Nat → Nat → Int, M0ξ = M := ⟨_, rfl⟩
  rw [← hM0ξ] at h47ξ h20ξ hRw0ξ
  have loopB : ∀ (q9ξ h9ξ : Nat) (M : Nat → Nat → Int) (G : Nat → Nat → Int), q9ξ + h9ξ = 24 → zM A zYr zFr M u.1 G → (∀ o k, zNs o k → M o k = M0ξ o k) → zSb M → zDyh Rwξ Lwξ n1ξ npξ p1ξ h9ξ M → zDyx n1ξ (zd_hr Rwξ n1ξ npξ (zd_sp Rwξ Lwξ p1ξ) (zd_ru Rwξ Lwξ p1ξ) p1ξ h9ξ) M → zp_J p l e R s m args below meth c Q w u [] 55 [(4, 0, (h9ξ : Int)), (2, 0, (zd_pw (zd_ru Rwξ Lwξ p1ξ) p1ξ h9ξ)), (3, 0, (n1ξ : Int)), (0, 2, (A 0 : Int)), (1, 0, p1ξ)] [] u.1 G := by
    intro q9ξ
    induction q9ξ with
    | zero =>
      intro h9ξ M G hqξ hMξ hSξ hSbξ hdξ hx9ξ
      have hRwξ : ∀ j, M 3 (2000 + j) = Rwξ j := fun j => (hSξ 3 _ (Or.inl (by decide))).trans (hRw0ξ j)
      have hRξ : zRb M := fun j hjξ => by rw [hRwξ]; exact hRbξ j hjξ
      have k47 : M 0 47 = -1 := (hSξ 0 47 (Or.inr (by decide))).trans h47ξ
      have k20 : M 0 20 = 0 := (hSξ 0 20 (Or.inr (by decide))).trans h20ξ
      refine zp_load (pc := 55) hx hb (zd_X12_layDay (55, .iload 4, 2, 0, []) (List.mem_of_getElem? (i := 33) rfl)) rfl (j := 0) rfl ?_
      refine zp_const (pc := 57) hx hb (zd_X12_layDay (57, .bipush 24, 2, 0, []) (List.mem_of_getElem? (i := 34) rfl)) rfl rfl ?_
      refine zp_icmp (pc := 59) (tgt := 309) hx hb (zd_X12_layDay (59, .if_icmp .ge 250, 3, 0, []) (List.mem_of_getElem? (i := 35) rfl)) rfl (fun (hc221ξ : 24 ≤ (h9ξ : Int)) => ?_) (fun (hc221ξ : ¬ (24 ≤ (h9ξ : Int))) => ?_)
      · obtain rfl : h9ξ = 24 := by omega
        refine zp_vret (pc := 309) hx hb hEξ hQξ hU5ξ rfl (by decide) (zd_X12_layDay (309, .return_, 1, 0, []) (List.mem_of_getElem? (i := 171) rfl)) (j := 0) rfl ?_
        rw [hpsξ]
        refine ⟨rfl, M, hMξ, ?_⟩
        exact ⟨by rw [← hM0ξ]; exact hSξ, hSbξ, hdξ, hx9ξ⟩
      · exfalso
        omega
    | succ q9ξ ih =>
      intro h9ξ M G hqξ hMξ hSξ hSbξ hdξ hx9ξ
      have hpwbξ := zd_pwb (R := Rwξ) (L := Lwξ) ht0ξ ht12ξ (h := h9ξ)
      obtain ⟨X0ξ, hX0ξ⟩ : ∃ X0ξ, X0ξ = zd_hr Rwξ n1ξ npξ (zd_sp Rwξ Lwξ p1ξ) (zd_ru Rwξ Lwξ p1ξ) p1ξ h9ξ := ⟨_, rfl⟩
      rw [← hX0ξ] at hx9ξ
      have hXbξ : ∀ w, w < n1ξ → 0 ≤ X0ξ.1 w ∧ X0ξ.1 w ≤ 600 := fun w hwξ => by rw [hX0ξ]; exact zd_hrb hDkξ hwξ
      have loopE : ∀ (r9ξ w9ξ : Nat) (M : Nat → Nat → Int) (G : Nat → Nat → Int), r9ξ + w9ξ = n1ξ → zM A zYr zFr M u.1 G → (∀ o k, zNs o k → M o k = M0ξ o k) → zSb M → zDyh Rwξ Lwξ n1ξ npξ p1ξ h9ξ M → M 41 (2000 + h9ξ) = (zd_pw (zd_ru Rwξ Lwξ p1ξ) p1ξ h9ξ) → (∀ p, p < npξ → M 42 (2000 + (6 * h9ξ + p)) = zd_sp Rwξ Lwξ p1ξ (zd_pw (zd_ru Rwξ Lwξ p1ξ) p1ξ h9ξ) h9ξ p) → zDyx n1ξ (zd_hp Rwξ (zd_rd Rwξ X0ξ.1) n1ξ (zd_sp Rwξ Lwξ p1ξ (zd_pw (zd_ru Rwξ Lwξ p1ξ) p1ξ h9ξ) h9ξ) h9ξ X0ξ npξ) M → (∀ w, w < w9ξ → M 43 (2000 + (10 * h9ξ + w)) = (zd_hp Rwξ (zd_rd Rwξ X0ξ.1) n1ξ (zd_sp Rwξ Lwξ p1ξ (zd_pw (zd_ru Rwξ Lwξ p1ξ) p1ξ h9ξ) h9ξ) h9ξ X0ξ npξ).1 w) → zp_J p l e R s m args below meth c Q w u [] 271 [(5, 0, (w9ξ : Int)), (2, 0, (zd_pw (zd_ru Rwξ Lwξ p1ξ) p1ξ (h9ξ + 1))), (4, 0, (h9ξ : Int)), (3, 0, (n1ξ : Int)), (0, 2, (A 0 : Int)), (1, 0, p1ξ)] [] u.1 G := by
        intro r9ξ
        induction r9ξ with
        | zero =>
          intro w9ξ M G hrξ hMξ hSξ hSbξ hdξ h41ξ h42ξ hxdξ h43ξ
          have hRwξ : ∀ j, M 3 (2000 + j) = Rwξ j := fun j => (hSξ 3 _ (Or.inl (by decide))).trans (hRw0ξ j)
          have hRξ : zRb M := fun j hjξ => by rw [hRwξ]; exact hRbξ j hjξ
          have k47 : M 0 47 = -1 := (hSξ 0 47 (Or.inr (by decide))).trans h47ξ
          have k20 : M 0 20 = 0 := (hSξ 0 20 (Or.inr (by decide))).trans h20ξ
          refine zp_load (pc := 271) hx hb (zd_X12_layDay (271, .iload 5, 2, 0, []) (List.mem_of_getElem? (i := 152) rfl)) rfl (j := 0) rfl ?_
          refine zp_load (pc := 273) hx hb (zd_X12_layDay (273, .iload_n 3, 1, 0, []) (List.mem_of_getElem? (i := 153) rfl)) rfl (j := 3) rfl ?_
          refine zp_icmp (pc := 274) (tgt := 303) hx hb (zd_X12_layDay (274, .if_icmp .ge 29, 3, 0, []) (List.mem_of_getElem? (i := 154) rfl)) rfl (fun (hc222ξ : (n1ξ : Int) ≤ (w9ξ : Int)) => ?_) (fun (hc222ξ : ¬ ((n1ξ : Int) ≤ (w9ξ : Int))) => ?_)
          · refine zp_iinc (L' := [(4, 0, ((h9ξ : Int) + 1)), (5, 0, (w9ξ : Int)), (2, 0, (zd_pw (zd_ru Rwξ Lwξ p1ξ) p1ξ (h9ξ + 1))), (3, 0, (n1ξ : Int)), (0, 2, (A 0 : Int)), (1, 0, p1ξ)]) (n := ((h9ξ : Int) + 1)) (pc := 303) hx hb hnLξ (zd_X12_layDay (303, .iinc 4 1, 3, 0, []) (List.mem_of_getElem? (i := 169) rfl)) (j := 2) rfl (by omega) (zp_r0 (by omega) (by omega)) rfl rfl ?_
            refine zp_goto (tgt := 55) (pc := 306) hx hb (zd_X12_layDay (306, .goto (-251), 3, 0, []) (List.mem_of_getElem? (i := 170) rfl)) rfl ?_
            refine zp_drop (L' := [(4, 0, ((h9ξ : Int) + 1)), (2, 0, (zd_pw (zd_ru Rwξ Lwξ p1ξ) p1ξ (h9ξ + 1))), (3, 0, (n1ξ : Int)), (0, 2, (A 0 : Int)), (1, 0, p1ξ)]) (by simp) ?_
            refine ih (h9ξ + 1) M G (by omega) hMξ hSξ hSbξ ⟨fun g p hgξ hpξ => ?_, fun g hgξ => ?_, fun g w hgξ hwξ => ?_⟩ (by rw [zd_hr, ← hX0ξ]; exact hxdξ)
            · by_cases e9ξ : g = h9ξ
              · rw [e9ξ]
                exact h42ξ p hpξ
              · exact hdξ.1 g p (by omega) hpξ
            · by_cases e9ξ : g = h9ξ
              · rw [e9ξ]
                exact h41ξ
              · exact hdξ.2.1 g (by omega)
            · by_cases e9ξ : g = h9ξ
              · rw [e9ξ, zd_hr, ← hX0ξ]
                exact h43ξ w (by omega)
              · exact hdξ.2.2 g w (by omega) hwξ
          · exfalso
            omega
        | succ r9ξ ihE =>
          intro w9ξ M G hrξ hMξ hSξ hSbξ hdξ h41ξ h42ξ hxdξ h43ξ
          have hRwξ : ∀ j, M 3 (2000 + j) = Rwξ j := fun j => (hSξ 3 _ (Or.inl (by decide))).trans (hRw0ξ j)
          have hRξ : zRb M := fun j hjξ => by rw [hRwξ]; exact hRbξ j hjξ
          have k47 : M 0 47 = -1 := (hSξ 0 47 (Or.inr (by decide))).trans h47ξ
          have k20 : M 0 20 = 0 := (hSξ 0 20 (Or.inr (by decide))).trans h20ξ
          have hb9ξ := zd_hpb (D := (zd_rd Rwξ X0ξ.1)) (sp := zd_sp Rwξ Lwξ p1ξ (zd_pw (zd_ru Rwξ Lwξ p1ξ) p1ξ h9ξ) h9ξ) (h := h9ξ) (p := npξ) hDkξ hXbξ (w := w9ξ) (by omega)
          refine zp_load (pc := 271) hx hb (zd_X12_layDay (271, .iload 5, 2, 0, []) (List.mem_of_getElem? (i := 152) rfl)) rfl (j := 0) rfl ?_
          refine zp_load (pc := 273) hx hb (zd_X12_layDay (273, .iload_n 3, 1, 0, []) (List.mem_of_getElem? (i := 153) rfl)) rfl (j := 3) rfl ?_
          refine zp_icmp (pc := 274) (tgt := 303) hx hb (zd_X12_layDay (274, .if_icmp .ge 29, 3, 0, []) (List.mem_of_getElem? (i := 154) rfl)) rfl (fun (hc223ξ : (n1ξ : Int) ≤ (w9ξ : Int)) => ?_) (fun (hc223ξ : ¬ ((n1ξ : Int) ≤ (w9ξ : Int))) => ?_)
          · exfalso
            omega
          · refine zp_load (pc := 277) hx hb (zd_X12_layDay (277, .aload_n 0, 1, 0, []) (List.mem_of_getElem? (i := 155) rfl)) rfl (j := 4) rfl ?_
            refine zp_getf (n := (A 43 : Int)) (pc := 278) hx hb hEξ hwξ (zd_X12_layDay (278, .getfield 116, 3, 0, []) (List.mem_of_getElem? (i := 156) rfl)) (j := 61) rfl rfl rfl (zM_P hMξ (List.mem_of_getElem? (i := 0) rfl)) ((zM_G hMξ (List.mem_of_getElem? (i := 0) rfl) 43).trans (zM_F hMξ (List.mem_of_getElem? (i := 22) rfl))) ?_
            refine zp_const (pc := 281) hx hb (zd_X12_layDay (281, .bipush 10, 2, 0, []) (List.mem_of_getElem? (i := 157) rfl)) rfl rfl ?_
            refine zp_load (pc := 283) hx hb (zd_X12_layDay (283, .iload 4, 2, 0, []) (List.mem_of_getElem? (i := 158) rfl)) rfl (j := 2) rfl ?_
            refine zp_mul (n := (10 * (h9ξ : Int))) (pc := 285) hx hb (zd_X12_layDay (285, .imul, 1, 0, []) (List.mem_of_getElem? (i := 159) rfl)) (by omega) (zp_r0 (by omega) (by omega)) ?_
            refine zp_load (pc := 286) hx hb (zd_X12_layDay (286, .iload 5, 2, 0, []) (List.mem_of_getElem? (i := 160) rfl)) rfl (j := 0) rfl ?_
            refine zp_add (n := (10 * (h9ξ : Int) + (w9ξ : Int))) (pc := 288) hx hb (zd_X12_layDay (288, .iadd, 1, 0, []) (List.mem_of_getElem? (i := 161) rfl)) (by omega) (zp_r0 (by omega) (by omega)) ?_
            refine zp_load (pc := 289) hx hb (zd_X12_layDay (289, .aload_n 0, 1, 0, []) (List.mem_of_getElem? (i := 162) rfl)) rfl (j := 4) rfl ?_
            refine zp_getf (n := (A 44 : Int)) (pc := 290) hx hb hEξ hwξ (zd_X12_layDay (290, .getfield 119, 3, 0, []) (List.mem_of_getElem? (i := 163) rfl)) (j := 62) rfl rfl rfl (zM_P hMξ (List.mem_of_getElem? (i := 0) rfl)) ((zM_G hMξ (List.mem_of_getElem? (i := 0) rfl) 44).trans (zM_F hMξ (List.mem_of_getElem? (i := 23) rfl))) ?_
            refine zp_load (pc := 293) hx hb (zd_X12_layDay (293, .iload 5, 2, 0, []) (List.mem_of_getElem? (i := 164) rfl)) rfl (j := 0) rfl ?_
            refine zp_iald (j := w9ξ) (v := ((zd_hp Rwξ (zd_rd Rwξ X0ξ.1) n1ξ (zd_sp Rwξ Lwξ p1ξ (zd_pw (zd_ru Rwξ Lwξ p1ξ) p1ξ h9ξ) h9ξ) h9ξ X0ξ npξ).1 w9ξ)) (pc := 295) hx hb hwξ (zd_X12_layDay (295, .iaload, 1, 0, []) (List.mem_of_getElem? (i := 165) rfl)) (show zp_ia 1 81 = some (10, 0, 0, (-2147483648), 2147483647) from rfl) (zM_P hMξ (List.mem_of_getElem? (i := 24) rfl)) (by omega) (by omega) ((zM_G hMξ (List.mem_of_getElem? (i := 24) rfl) (2000 + w9ξ)).trans (hxdξ w9ξ (by omega)).1) (fun hk224ξ => ?_)
            have hk224bξ := zp_int hk224ξ
            clear hk224ξ
            refine zp_iast (j := (10 * h9ξ + w9ξ)) (pc := 296) hx hb hwξ heffξ (zd_X12_layDay (296, .iastore, 1, 0, []) (List.mem_of_getElem? (i := 166) rfl)) (show zp_ia 1 80 = some (240, 0, 0, (-2147483648), 2147483647) from rfl) (zM_P hMξ (List.mem_of_getElem? (i := 23) rfl)) (by omega) (by omega) (zp_o0 (by omega) (by omega) (by omega) (by omega)) rfl ?_
            refine zp_iinc (L' := [(5, 0, ((w9ξ : Int) + 1)), (2, 0, (zd_pw (zd_ru Rwξ Lwξ p1ξ) p1ξ (h9ξ + 1))), (4, 0, (h9ξ : Int)), (3, 0, (n1ξ : Int)), (0, 2, (A 0 : Int)), (1, 0, p1ξ)]) (n := ((w9ξ : Int) + 1)) (pc := 297) hx hb hnLξ (zd_X12_layDay (297, .iinc 5 1, 3, 0, []) (List.mem_of_getElem? (i := 167) rfl)) (j := 0) rfl (by omega) (zp_r0 (by omega) (by omega)) rfl rfl ?_
            refine zp_goto (tgt := 271) (pc := 300) hx hb (zd_X12_layDay (300, .goto (-29), 3, 0, []) (List.mem_of_getElem? (i := 168) rfl)) rfl ?_
            refine zp_drop (L' := [(5, 0, ((w9ξ : Int) + 1)), (2, 0, (zd_pw (zd_ru Rwξ Lwξ p1ξ) p1ξ (h9ξ + 1))), (4, 0, (h9ξ : Int)), (3, 0, (n1ξ : Int)), (0, 2, (A 0 : Int)), (1, 0, p1ξ)]) (by simp) ?_
            refine ihE (w9ξ + 1) (zp_set M 43 (2000 + (10 * h9ξ + w9ξ)) ((zd_hp Rwξ (zd_rd Rwξ X0ξ.1) n1ξ (zd_sp Rwξ Lwξ p1ξ (zd_pw (zd_ru Rwξ Lwξ p1ξ) p1ξ h9ξ) h9ξ) h9ξ X0ξ npξ).1 w9ξ)) (zp_set G (A 43) (2000 + (10 * h9ξ + w9ξ)) ((zd_hp Rwξ (zd_rd Rwξ X0ξ.1) n1ξ (zd_sp Rwξ Lwξ p1ξ (zd_pw (zd_ru Rwξ Lwξ p1ξ) p1ξ h9ξ) h9ξ) h9ξ X0ξ npξ).1 w9ξ)) (by omega) (zM_setE hMξ (List.mem_of_getElem? (i := 23) rfl)) (fun o k hkξ => (zp_set_ne (zNs_ne hkξ (by decide))).trans (hSξ o k hkξ)) (fun j hjξ => by rw [zp_set_ne (Or.inl (by decide))]; exact hSbξ j hjξ) ⟨fun g p hgξ hpξ => (zp_set_ne (Or.inl (by decide))).trans (hdξ.1 g p hgξ hpξ), fun g hgξ => (zp_set_ne (Or.inl (by decide))).trans (hdξ.2.1 g hgξ), fun g w hgξ hwξ => (zp_set_ne (Or.inr (by omega))).trans (hdξ.2.2 g w hgξ hwξ)⟩ ((zp_set_ne (Or.inl (by decide))).trans h41ξ) (fun p hpξ => (zp_set_ne (Or.inl (by decide))).trans (h42ξ p hpξ)) (fun w hwξ => ⟨(zp_set_ne (Or.inl (by decide))).trans (hxdξ w hwξ).1, (zp_set_ne (Or.inl (by decide))).trans (hxdξ w hwξ).2⟩) (fun w hwξ => ?_)
            by_cases e9ξ : w = w9ξ
            · rw [e9ξ]
              exact zp_set_self
            · exact (zp_set_ne (Or.inr (by omega))).trans (h43ξ w (by omega))
      have loopD : ∀ (r9ξ p9ξ : Nat) (M : Nat → Nat → Int) (G : Nat → Nat → Int), r9ξ + p9ξ = npξ → zM A zYr zFr M u.1 G → (∀ o k, zNs o k → M o k = M0ξ o k) → zSb M → zDyh Rwξ Lwξ n1ξ npξ p1ξ h9ξ M → M 41 (2000 + h9ξ) = (zd_pw (zd_ru Rwξ Lwξ p1ξ) p1ξ h9ξ) → (∀ p, p < p9ξ → M 42 (2000 + (6 * h9ξ + p)) = zd_sp Rwξ Lwξ p1ξ (zd_pw (zd_ru Rwξ Lwξ p1ξ) p1ξ h9ξ) h9ξ p) → zDyx n1ξ (zd_hp Rwξ (zd_rd Rwξ X0ξ.1) n1ξ (zd_sp Rwξ Lwξ p1ξ (zd_pw (zd_ru Rwξ Lwξ p1ξ) p1ξ h9ξ) h9ξ) h9ξ X0ξ p9ξ) M → (∀ w, w < n1ξ → M 46 (2000 + w) = zd_rd Rwξ X0ξ.1 w) → zp_J p l e R s m args below meth c Q w u [] 132 [(5, 0, (p9ξ : Int)), (4, 0, (h9ξ : Int)), (2, 0, (zd_pw (zd_ru Rwξ Lwξ p1ξ) p1ξ h9ξ)), (3, 0, (n1ξ : Int)), (0, 2, (A 0 : Int)), (1, 0, p1ξ)] [] u.1 G := by
        intro r9ξ
        induction r9ξ with
        | zero =>
          intro p9ξ M G hrξ hMξ hSξ hSbξ hdξ h41ξ h42ξ hxdξ h46ξ
          obtain rfl : p9ξ = npξ := by omega
          have hRwξ : ∀ j, M 3 (2000 + j) = Rwξ j := fun j => (hSξ 3 _ (Or.inl (by decide))).trans (hRw0ξ j)
          have hRξ : zRb M := fun j hjξ => by rw [hRwξ]; exact hRbξ j hjξ
          have k47 : M 0 47 = -1 := (hSξ 0 47 (Or.inr (by decide))).trans h47ξ
          have k20 : M 0 20 = 0 := (hSξ 0 20 (Or.inr (by decide))).trans h20ξ
          refine zp_load (pc := 132) hx hb (zd_X12_layDay (132, .iload 5, 2, 0, []) (List.mem_of_getElem? (i := 74) rfl)) rfl (j := 0) rfl ?_
          refine zp_load (pc := 134) hx hb (zd_X12_layDay (134, .aload_n 0, 1, 0, []) (List.mem_of_getElem? (i := 75) rfl)) rfl (j := 4) rfl ?_
          refine zp_getf (n := (A 3 : Int)) (pc := 135) hx hb hEξ hwξ (zd_X12_layDay (135, .getfield 13, 3, 0, []) (List.mem_of_getElem? (i := 76) rfl)) (j := 21) rfl rfl rfl (zM_P hMξ (List.mem_of_getElem? (i := 0) rfl)) ((zM_G hMξ (List.mem_of_getElem? (i := 0) rfl) 3).trans (zM_F hMξ (List.mem_of_getElem? (i := 1) rfl))) ?_
          refine zp_const (pc := 138) hx hb (zd_X12_layDay (138, .iconst 0, 1, 0, []) (List.mem_of_getElem? (i := 77) rfl)) rfl rfl ?_
          refine zp_ialdT (j := 0) (v := (p9ξ : Int)) (pc := 139) hx hb hwξ (zd_X12_layDay (139, .iaload, 1, 0, []) (List.mem_of_getElem? (i := 78) rfl)) zl_T59 rfl (zl_kd 0) (zM_P hMξ (List.mem_of_getElem? (i := 2) rfl)) (by omega) (show 0 < 5580 by omega) ((zM_G hMξ (List.mem_of_getElem? (i := 2) rfl) (2000 + 0)).trans ((hRwξ 0).trans hnpξ)) (fun _ => ?_)
          refine zp_icmp (pc := 140) (tgt := 249) hx hb (zd_X12_layDay (140, .if_icmp .ge 109, 3, 0, []) (List.mem_of_getElem? (i := 79) rfl)) rfl (fun (hc226ξ : (p9ξ : Int) ≤ (p9ξ : Int)) => ?_) (fun (hc226ξ : ¬ ((p9ξ : Int) ≤ (p9ξ : Int))) => ?_)
          · refine zp_load (pc := 249) hx hb (zd_X12_layDay (249, .iload_n 2, 1, 0, []) (List.mem_of_getElem? (i := 138) rfl)) rfl (j := 2) rfl ?_
            refine zp_load (pc := 250) hx hb (zd_X12_layDay (250, .aload_n 0, 1, 0, []) (List.mem_of_getElem? (i := 139) rfl)) rfl (j := 4) rfl ?_
            refine zp_load (pc := 251) hx hb (zd_X12_layDay (251, .iload_n 1, 1, 0, []) (List.mem_of_getElem? (i := 140) rfl)) rfl (j := 5) rfl ?_
            refine zp_load (pc := 252) hx hb (zd_X12_layDay (252, .iload_n 2, 1, 0, []) (List.mem_of_getElem? (i := 141) rfl)) rfl (j := 2) rfl ?_
            refine zp_load (pc := 253) hx hb (zd_X12_layDay (253, .iload 4, 2, 0, []) (List.mem_of_getElem? (i := 142) rfl)) rfl (j := 1) rfl ?_
            refine zp_call (pc := 255) (how := 0) (idx := 452) (mi := 252) (S := [(0, (zd_pw (zd_ru Rwξ Lwξ p1ξ) p1ξ h9ξ))]) hx hb hEξ hwξ heffξ hrmξ (zX_ruo hWξ (A 3) (A 35) (A 37) Rwξ (fun j => M 35 (2000 + j)) Lwξ) rfl (j := 51) rfl rfl (by decide +kernel) (zd_X12_layDay (255, .invokevirtual 452, 3, 0, []) (List.mem_of_getElem? (i := 143) rfl)) [(A 0 : Int), p1ξ, (zd_pw (zd_ru Rwξ Lwξ p1ξ) p1ξ h9ξ), (h9ξ : Int)] rfl ⟨zp_o2 (zM_P hMξ (List.mem_of_getElem? (i := 0) rfl)), zp_o0 (by omega) (by omega) (by omega) (by omega), zp_o0 (by omega) (by omega) (by omega) (by omega), zp_o0 (by omega) (by omega) (by omega) (by omega), trivial⟩ (Nat.le_of_ble_eq_true rfl) ⟨⟨⟨((zM_G hMξ (List.mem_of_getElem? (i := 0) rfl) 20).trans k20), ((zM_G hMξ (List.mem_of_getElem? (i := 0) rfl) 3).trans (zM_F hMξ (List.mem_of_getElem? (i := 1) rfl))), ((zM_G hMξ (List.mem_of_getElem? (i := 0) rfl) 35).trans (zM_F hMξ (List.mem_of_getElem? (i := 17) rfl))), ((zM_G hMξ (List.mem_of_getElem? (i := 0) rfl) 37).trans (zM_F hMξ (List.mem_of_getElem? (i := 19) rfl))), fun j => ((zM_G hMξ (List.mem_of_getElem? (i := 2) rfl) (2000 + j)).trans (hRwξ j)), fun j => (zM_G hMξ (List.mem_of_getElem? (i := 18) rfl) (2000 + j))⟩, (zM_P hMξ (List.mem_of_getElem? (i := 2) rfl)), (zM_P hMξ (List.mem_of_getElem? (i := 18) rfl)), (zM_P hMξ (List.mem_of_getElem? (i := 20) rfl)), hRbξ, hSbξ⟩, hlwξ⟩ (fun al halξ rnu Pu Gu hextuξ hfruξ hokuξ hcsuξ hpsiuξ => ?_)
            obtain rfl := List.mem_singleton.mp halξ
            have hruξ := zp_int (hokuξ _ rfl).1
            obtain ⟨hPeuξ, htuξ⟩ := hpsiuξ
            have hMuξ := zM_eff (eff := [(13, 34, 0), (75, 1001, 0), (13, 38, 0), (13, 39, 0), (13, 40, 0), (77, 1001, 0)]) hMξ hfruξ hextuξ (zM_fb (by decide +kernel))
            subst hPeuξ
            obtain ⟨Mu, hMuξ, hMfuξ⟩ := hMuξ
            obtain ⟨htuξ, hSzuξ⟩ := htuξ
            have hSbuξ : zSb Mu := fun j hjξ => by rw [← zM_G hMuξ (List.mem_of_getElem? (i := 18) rfl) (2000 + j)]; exact hSzuξ j hjξ
            have htuξ : rnu = zd_ru Rwξ Lwξ p1ξ (zd_pw (zd_ru Rwξ Lwξ p1ξ) p1ξ h9ξ) h9ξ := Eq.trans htuξ (zy_ru_9 hLξ)
            subst htuξ
            have hrubξ := zd_rub (R := Rwξ) (L := Lwξ) (t := p1ξ) (pw := (zd_pw (zd_ru Rwξ Lwξ p1ξ) p1ξ h9ξ)) (h := h9ξ)
            have hSuξ : ∀ o k, zNs o k → Mu o k = M0ξ o k := fun o k hkξ => (zMf_s hMfuξ hkξ).trans (hSξ o k hkξ)
            have hSu2ξ : ∀ o k, 41 ≤ o → o ≤ 46 → Mu o k = M o k := fun o k h1ξ h2ξ => zMf_t hMfuξ h1ξ h2ξ
            clear hMfuξ hfruξ hextuξ hokuξ hcsuξ
            replace hRwξ : ∀ j, Mu 3 (2000 + j) = Rwξ j := fun j => (hSuξ 3 _ (Or.inl (by decide))).trans (hRw0ξ j)
            replace hRξ : zRb Mu := fun j hjξ => by rw [hRwξ]; exact hRbξ j hjξ
            replace k47 : Mu 0 47 = -1 := (hSuξ 0 47 (Or.inr (by decide))).trans h47ξ
            replace k20 : Mu 0 20 = 0 := (hSuξ 0 20 (Or.inr (by decide))).trans h20ξ
            refine zp_sub (n := ((zd_pw (zd_ru Rwξ Lwξ p1ξ) p1ξ h9ξ) - (zd_ru Rwξ Lwξ p1ξ (zd_pw (zd_ru Rwξ Lwξ p1ξ) p1ξ h9ξ) h9ξ))) (pc := 258) hx hb (zd_X12_layDay (258, .isub, 1, 0, []) (List.mem_of_getElem? (i := 144) rfl)) (by omega) (zp_r0 (by omega) (by omega)) ?_
            refine zp_i2l (pc := 259) hx hb (zd_X12_layDay (259, .i2l, 1, 0, []) (List.mem_of_getElem? (i := 145) rfl)) ?_
            refine zp_const (pc := 260) hx hb (zd_X12_layDay (260, .iconst 0, 1, 0, []) (List.mem_of_getElem? (i := 146) rfl)) rfl rfl ?_
            refine zp_ldcw (pc := 261) hx hb hEξ (zd_X12_layDay (261, .ldc_w 456, 3, 0, []) (List.mem_of_getElem? (i := 147) rfl)) (j := 109) rfl ?_
            refine zp_call (pc := 264) (how := 1) (idx := 427) (mi := 245) (S := []) hx hb hEξ hwξ heffξ hrmξ (zX_wi hWξ) rfl (j := 45) rfl rfl (by decide +kernel) (zd_X12_layDay (264, .invokestatic 427, 3, 0, []) (List.mem_of_getElem? (i := 148) rfl)) [((zd_pw (zd_ru Rwξ Lwξ p1ξ) p1ξ h9ξ) - (zd_ru Rwξ Lwξ p1ξ (zd_pw (zd_ru Rwξ Lwξ p1ξ) p1ξ h9ξ) h9ξ)), 0, 100000000] rfl ⟨zp_o1 (zp_r1 (by omega) (by omega)), zp_o0 (by omega) (by omega) (by omega) (by omega), zp_o0 (by omega) (by omega) (by omega) (by omega), trivial⟩ (Nat.le_of_ble_eq_true rfl) (show 0 ≤ 100000000 by omega) (fun al halξ rnv227ξ Pv227 Gv227 hextv227ξ hfrv227ξ hokv227ξ hcsv227ξ hpsiv227ξ => ?_)
            obtain rfl := List.mem_singleton.mp halξ
            have hrv227ξ := zp_int (hokv227ξ _ rfl).1
            obtain ⟨hPev227ξ, hGev227ξ, htv227ξ⟩ := hpsiv227ξ
            rw [hPev227ξ, hGev227ξ]
            clear hextv227ξ hfrv227ξ hcsv227ξ hPev227ξ hGev227ξ
            have htv227ξ : rnv227ξ = (max 0 (min 100000000 ((zd_pw (zd_ru Rwξ Lwξ p1ξ) p1ξ h9ξ) - (zd_ru Rwξ Lwξ p1ξ (zd_pw (zd_ru Rwξ Lwξ p1ξ) p1ξ h9ξ) h9ξ)))) := htv227ξ
            have htv227ξ := (Eq.symm htv227ξ)
            subst htv227ξ
            obtain ⟨pw9, hpw9ξ⟩ : ∃ pw9, pw9 = (zd_pw (zd_ru Rwξ Lwξ p1ξ) p1ξ (h9ξ + 1)) := ⟨_, rfl⟩
            have hpeξ : (max 0 (min 100000000 ((zd_pw (zd_ru Rwξ Lwξ p1ξ) p1ξ h9ξ) - (zd_ru Rwξ Lwξ p1ξ (zd_pw (zd_ru Rwξ Lwξ p1ξ) p1ξ h9ξ) h9ξ)))) = pw9 := (Eq.symm hpw9ξ)
            rw [hpeξ]
            refine zp_store (L' := [(2, 0, pw9), (5, 0, (p9ξ : Int)), (4, 0, (h9ξ : Int)), (3, 0, (n1ξ : Int)), (0, 2, (A 0 : Int)), (1, 0, p1ξ)]) (pc := 267) hx hb hnLξ (zd_X12_layDay (267, .istore_n 2, 1, 0, []) (List.mem_of_getElem? (i := 149) rfl)) rfl rfl rfl ?_
            refine zp_const (pc := 268) hx hb (zd_X12_layDay (268, .iconst 0, 1, 0, []) (List.mem_of_getElem? (i := 150) rfl)) rfl rfl ?_
            refine zp_store (L' := [(5, 0, 0), (2, 0, pw9), (4, 0, (h9ξ : Int)), (3, 0, (n1ξ : Int)), (0, 2, (A 0 : Int)), (1, 0, p1ξ)]) (pc := 269) hx hb hnLξ (zd_X12_layDay (269, .istore 5, 2, 0, []) (List.mem_of_getElem? (i := 151) rfl)) rfl rfl rfl ?_
            subst hpw9ξ
            refine zp_drop (L' := [(5, 0, 0), (2, 0, (zd_pw (zd_ru Rwξ Lwξ p1ξ) p1ξ (h9ξ + 1))), (4, 0, (h9ξ : Int)), (3, 0, (n1ξ : Int)), (0, 2, (A 0 : Int)), (1, 0, p1ξ)]) (by simp) ?_
            exact loopE n1ξ 0 Mu Gu (by omega) hMuξ hSuξ hSbuξ (zDyh_f hdξ (fun o k h1ξ h2ξ => hSu2ξ o k h1ξ (by omega))) ((hSu2ξ 41 _ (by decide) (by decide)).trans h41ξ) (fun p hpξ => (hSu2ξ 42 _ (by decide) (by decide)).trans (h42ξ p hpξ)) (fun w hwξ => ⟨(hSu2ξ 44 _ (by decide) (by decide)).trans (hxdξ w hwξ).1, (hSu2ξ 45 _ (by decide) (by decide)).trans (hxdξ w hwξ).2⟩) (fun w hwξ => absurd hwξ (Nat.not_lt_zero w))
          · exfalso
            omega
        | succ r9ξ ihD =>
          intro p9ξ M G hrξ hMξ hSξ hSbξ hdξ h41ξ h42ξ hxdξ h46ξ
          have hRwξ : ∀ j, M 3 (2000 + j) = Rwξ j := fun j => (hSξ 3 _ (Or.inl (by decide))).trans (hRw0ξ j)
          have hRξ : zRb M := fun j hjξ => by rw [hRwξ]; exact hRbξ j hjξ
          have k47 : M 0 47 = -1 := (hSξ 0 47 (Or.inr (by decide))).trans h47ξ
          have k20 : M 0 20 = 0 := (hSξ 0 20 (Or.inr (by decide))).trans h20ξ
          obtain ⟨X, hXξ⟩ : ∃ X, X = (zd_hp Rwξ (zd_rd Rwξ X0ξ.1) n1ξ (zd_sp Rwξ Lwξ p1ξ (zd_pw (zd_ru Rwξ Lwξ p1ξ) p1ξ h9ξ) h9ξ) h9ξ X0ξ p9ξ) := ⟨_, rfl⟩
          rw [← hXξ] at hxdξ
          have hXb9ξ : ∀ w, w < n1ξ → 0 ≤ X.1 w ∧ X.1 w ≤ 600 := fun w hwξ => by rw [hXξ]; exact zd_hpb hDkξ hXbξ hwξ
          have hliξ : zg_po Rwξ 2 (p9ξ : Int) = Rwξ (3 * p9ξ + 13) := by
            unfold zg_po
            rw [if_neg (by omega), Int.toNat_natCast]
          refine zp_load (pc := 132) hx hb (zd_X12_layDay (132, .iload 5, 2, 0, []) (List.mem_of_getElem? (i := 74) rfl)) rfl (j := 0) rfl ?_
          refine zp_load (pc := 134) hx hb (zd_X12_layDay (134, .aload_n 0, 1, 0, []) (List.mem_of_getElem? (i := 75) rfl)) rfl (j := 4) rfl ?_
          refine zp_getf (n := (A 3 : Int)) (pc := 135) hx hb hEξ hwξ (zd_X12_layDay (135, .getfield 13, 3, 0, []) (List.mem_of_getElem? (i := 76) rfl)) (j := 21) rfl rfl rfl (zM_P hMξ (List.mem_of_getElem? (i := 0) rfl)) ((zM_G hMξ (List.mem_of_getElem? (i := 0) rfl) 3).trans (zM_F hMξ (List.mem_of_getElem? (i := 1) rfl))) ?_
          refine zp_const (pc := 138) hx hb (zd_X12_layDay (138, .iconst 0, 1, 0, []) (List.mem_of_getElem? (i := 77) rfl)) rfl rfl ?_
          refine zp_ialdT (j := 0) (v := (npξ : Int)) (pc := 139) hx hb hwξ (zd_X12_layDay (139, .iaload, 1, 0, []) (List.mem_of_getElem? (i := 78) rfl)) zl_T59 rfl (zl_kd 0) (zM_P hMξ (List.mem_of_getElem? (i := 2) rfl)) (by omega) (show 0 < 5580 by omega) ((zM_G hMξ (List.mem_of_getElem? (i := 2) rfl) (2000 + 0)).trans ((hRwξ 0).trans hnpξ)) (fun _ => ?_)
          refine zp_icmp (pc := 140) (tgt := 249) hx hb (zd_X12_layDay (140, .if_icmp .ge 109, 3, 0, []) (List.mem_of_getElem? (i := 79) rfl)) rfl (fun (hc229ξ : (npξ : Int) ≤ (p9ξ : Int)) => ?_) (fun (hc229ξ : ¬ ((npξ : Int) ≤ (p9ξ : Int))) => ?_)
          · exfalso
            omega
          · refine zp_load (pc := 143) hx hb (zd_X12_layDay (143, .aload_n 0, 1, 0, []) (List.mem_of_getElem? (i := 80) rfl)) rfl (j := 4) rfl ?_
            refine zp_load (pc := 144) hx hb (zd_X12_layDay (144, .iload_n 1, 1, 0, []) (List.mem_of_getElem? (i := 81) rfl)) rfl (j := 5) rfl ?_
            refine zp_load (pc := 145) hx hb (zd_X12_layDay (145, .iload_n 2, 1, 0, []) (List.mem_of_getElem? (i := 82) rfl)) rfl (j := 2) rfl ?_
            refine zp_load (pc := 146) hx hb (zd_X12_layDay (146, .iload 4, 2, 0, []) (List.mem_of_getElem? (i := 83) rfl)) rfl (j := 1) rfl ?_
            refine zp_load (pc := 148) hx hb (zd_X12_layDay (148, .iload 5, 2, 0, []) (List.mem_of_getElem? (i := 84) rfl)) rfl (j := 0) rfl ?_
            have hDp9ξ := hDpξ p9ξ (by omega)
            refine zp_call (pc := 150) (how := 0) (idx := 445) (mi := 249) (S := []) hx hb hEξ hwξ heffξ hrmξ (zX_spo hWξ (A 3) (A 35) (A 37) Rwξ (fun j => M 35 (2000 + j)) Lwξ) rfl (j := 48) rfl rfl (by decide +kernel) (zd_X12_layDay (150, .invokevirtual 445, 3, 0, []) (List.mem_of_getElem? (i := 85) rfl)) [(A 0 : Int), p1ξ, (zd_pw (zd_ru Rwξ Lwξ p1ξ) p1ξ h9ξ), (h9ξ : Int), (p9ξ : Int)] rfl ⟨zp_o2 (zM_P hMξ (List.mem_of_getElem? (i := 0) rfl)), zp_o0 (by omega) (by omega) (by omega) (by omega), zp_o0 (by omega) (by omega) (by omega) (by omega), zp_o0 (by omega) (by omega) (by omega) (by omega), zp_o0 (by omega) (by omega) (by omega) (by omega), trivial⟩ (Nat.le_of_ble_eq_true rfl) ⟨⟨⟨⟨((zM_G hMξ (List.mem_of_getElem? (i := 0) rfl) 20).trans k20), ((zM_G hMξ (List.mem_of_getElem? (i := 0) rfl) 3).trans (zM_F hMξ (List.mem_of_getElem? (i := 1) rfl))), ((zM_G hMξ (List.mem_of_getElem? (i := 0) rfl) 35).trans (zM_F hMξ (List.mem_of_getElem? (i := 17) rfl))), ((zM_G hMξ (List.mem_of_getElem? (i := 0) rfl) 37).trans (zM_F hMξ (List.mem_of_getElem? (i := 19) rfl))), fun j => ((zM_G hMξ (List.mem_of_getElem? (i := 2) rfl) (2000 + j)).trans (hRwξ j)), fun j => (zM_G hMξ (List.mem_of_getElem? (i := 18) rfl) (2000 + j))⟩, (zM_P hMξ (List.mem_of_getElem? (i := 2) rfl)), (zM_P hMξ (List.mem_of_getElem? (i := 18) rfl)), (zM_P hMξ (List.mem_of_getElem? (i := 20) rfl)), hRbξ, hSbξ⟩, hlwξ⟩, (show 0 ≤ zg_po Rwξ 2 (p9ξ : Int) ∧ zg_po Rwξ 2 (p9ξ : Int) ≤ 1000 by rw [hliξ]; omega)⟩ (fun al halξ rnu Pu Gu hextuξ hfruξ hokuξ hcsuξ hpsiuξ => ?_)
            obtain rfl := List.mem_singleton.mp halξ
            have hruξ := zp_int (hokuξ _ rfl).1
            obtain ⟨hPeuξ, htuξ⟩ := hpsiuξ
            have hMuξ := zM_eff (eff := [(13, 34, 0), (75, 1001, 0), (13, 38, 0), (13, 39, 0), (13, 40, 0), (77, 1001, 0)]) hMξ hfruξ hextuξ (zM_fb (by decide +kernel))
            subst hPeuξ
            obtain ⟨Mu, hMuξ, hMfuξ⟩ := hMuξ
            obtain ⟨htuξ, hSzuξ⟩ := htuξ
            have hSbuξ : zSb Mu := fun j hjξ => by rw [← zM_G hMuξ (List.mem_of_getElem? (i := 18) rfl) (2000 + j)]; exact hSzuξ j hjξ
            have htuξ : rnu = zd_sp Rwξ Lwξ p1ξ (zd_pw (zd_ru Rwξ Lwξ p1ξ) p1ξ h9ξ) h9ξ p9ξ := by
              refine Eq.trans htuξ ?_
              show zy_sp (zg_ew Rwξ _ p1ξ (zd_pw (zd_ru Rwξ Lwξ p1ξ) p1ξ h9ξ) h9ξ p9ξ) Lwξ (zd_pw (zd_ru Rwξ Lwξ p1ξ) p1ξ h9ξ) (zg_po Rwξ 2 (p9ξ : Int)) = _
              rw [hliξ]
              exact zy_sp_9 hLξ
            subst htuξ
            have hspbξ := zd_spb (R := Rwξ) (L := Lwξ) (t := p1ξ) (pw := (zd_pw (zd_ru Rwξ Lwξ p1ξ) p1ξ h9ξ)) (h := h9ξ) (p := p9ξ)
            have hSuξ : ∀ o k, zNs o k → Mu o k = M0ξ o k := fun o k hkξ => (zMf_s hMfuξ hkξ).trans (hSξ o k hkξ)
            have hSu2ξ : ∀ o k, 41 ≤ o → o ≤ 46 → Mu o k = M o k := fun o k h1ξ h2ξ => zMf_t hMfuξ h1ξ h2ξ
            clear hMfuξ hfruξ hextuξ hokuξ hcsuξ
            replace hRwξ : ∀ j, Mu 3 (2000 + j) = Rwξ j := fun j => (hSuξ 3 _ (Or.inl (by decide))).trans (hRw0ξ j)
            replace hRξ : zRb Mu := fun j hjξ => by rw [hRwξ]; exact hRbξ j hjξ
            replace k47 : Mu 0 47 = -1 := (hSuξ 0 47 (Or.inr (by decide))).trans h47ξ
            replace k20 : Mu 0 20 = 0 := (hSuξ 0 20 (Or.inr (by decide))).trans h20ξ
            replace hxdξ : zDyx n1ξ X Mu := fun w hwξ => ⟨(hSu2ξ 44 _ (by decide) (by decide)).trans (hxdξ w hwξ).1, (hSu2ξ 45 _ (by decide) (by decide)).trans (hxdξ w hwξ).2⟩
            replace h46ξ : ∀ w, w < n1ξ → Mu 46 (2000 + w) = zd_rd Rwξ X0ξ.1 w := fun w hwξ => (hSu2ξ 46 _ (by decide) (by decide)).trans (h46ξ w hwξ)
            replace h42ξ : ∀ p, p < p9ξ → Mu 42 (2000 + (6 * h9ξ + p)) = zd_sp Rwξ Lwξ p1ξ (zd_pw (zd_ru Rwξ Lwξ p1ξ) p1ξ h9ξ) h9ξ p := fun p hpξ => (hSu2ξ 42 _ (by decide) (by decide)).trans (h42ξ p hpξ)
            replace h41ξ : Mu 41 (2000 + h9ξ) = (zd_pw (zd_ru Rwξ Lwξ p1ξ) p1ξ h9ξ) := (hSu2ξ 41 _ (by decide) (by decide)).trans h41ξ
            replace hdξ := zDyh_f hdξ (fun o k h1ξ h2ξ => hSu2ξ o k h1ξ (by omega))
            refine zp_store (L' := [(6, 0, (zd_sp Rwξ Lwξ p1ξ (zd_pw (zd_ru Rwξ Lwξ p1ξ) p1ξ h9ξ) h9ξ p9ξ)), (5, 0, (p9ξ : Int)), (4, 0, (h9ξ : Int)), (2, 0, (zd_pw (zd_ru Rwξ Lwξ p1ξ) p1ξ h9ξ)), (3, 0, (n1ξ : Int)), (0, 2, (A 0 : Int)), (1, 0, p1ξ)]) (pc := 153) hx hb hnLξ (zd_X12_layDay (153, .istore 6, 2, 0, []) (List.mem_of_getElem? (i := 86) rfl)) rfl rfl rfl ?_
            refine zp_load (pc := 155) hx hb (zd_X12_layDay (155, .aload_n 0, 1, 0, []) (List.mem_of_getElem? (i := 87) rfl)) rfl (j := 5) rfl ?_
            refine zp_load (pc := 156) hx hb (zd_X12_layDay (156, .iload 5, 2, 0, []) (List.mem_of_getElem? (i := 88) rfl)) rfl (j := 1) rfl ?_
            refine zp_call (pc := 158) (how := 0) (idx := 449) (mi := 250) (S := []) hx hb hEξ hwξ heffξ hrmξ (zX_pk hWξ A Mu n1ξ) rfl (j := 49) rfl rfl (by decide +kernel) (zd_X12_layDay (158, .invokevirtual 449, 3, 0, []) (List.mem_of_getElem? (i := 89) rfl)) [(A 0 : Int), (p9ξ : Int)] rfl ⟨zp_o2 (zM_P hMuξ (List.mem_of_getElem? (i := 0) rfl)), zp_o0 (by omega) (by omega) (by omega) (by omega), trivial⟩ (Nat.le_of_ble_eq_true rfl) ⟨hMuξ, rfl, hRξ, k47, (hRwξ 1).trans hn1ξ, hn10ξ⟩ (fun al halξ rnq Pq Gq hextqξ hfrqξ hokqξ hcsqξ hpsiqξ => ?_)
            obtain rfl := List.mem_singleton.mp halξ
            have hrqξ := zp_int (hokqξ _ rfl).1
            obtain ⟨hPeqξ, hGeqξ, htqξ⟩ := hpsiqξ
            rw [hPeqξ, hGeqξ]
            clear hextqξ hfrqξ hcsqξ hPeqξ hGeqξ
            have htqξ : rnq = zd_pk Rwξ (zd_rd Rwξ X0ξ.1) X.1 p9ξ n1ξ 0 := Eq.trans htqξ (zd_pk_c hRwξ (fun j hjξ => h46ξ j (by omega)) (fun j hjξ => (hxdξ j (by omega)).1))
            rcases zd_pk_r (R := Rwξ) (D := zd_rd Rwξ X0ξ.1) (W := X.1) (p := p9ξ) (k := n1ξ) (w := 0) with e9ξ | ⟨j9ξ, e9ξ, -, ej9, -⟩
            · have htqξ : rnq = -1 := (Eq.trans htqξ) e9ξ
              subst htqξ
              refine zp_store (L' := [(7, 0, (-1)), (6, 0, (zd_sp Rwξ Lwξ p1ξ (zd_pw (zd_ru Rwξ Lwξ p1ξ) p1ξ h9ξ) h9ξ p9ξ)), (5, 0, (p9ξ : Int)), (4, 0, (h9ξ : Int)), (2, 0, (zd_pw (zd_ru Rwξ Lwξ p1ξ) p1ξ h9ξ)), (3, 0, (n1ξ : Int)), (0, 2, (A 0 : Int)), (1, 0, p1ξ)]) (pc := 161) hx hb hnLξ (zd_X12_layDay (161, .istore 7, 2, 0, []) (List.mem_of_getElem? (i := 90) rfl)) rfl rfl rfl ?_
              refine zp_load (pc := 163) hx hb (zd_X12_layDay (163, .aload_n 0, 1, 0, []) (List.mem_of_getElem? (i := 91) rfl)) rfl (j := 6) rfl ?_
              refine zp_getf (n := (A 42 : Int)) (pc := 164) hx hb hEξ hwξ (zd_X12_layDay (164, .getfield 113, 3, 0, []) (List.mem_of_getElem? (i := 92) rfl)) (j := 60) rfl rfl rfl (zM_P hMuξ (List.mem_of_getElem? (i := 0) rfl)) ((zM_G hMuξ (List.mem_of_getElem? (i := 0) rfl) 42).trans (zM_F hMuξ (List.mem_of_getElem? (i := 21) rfl))) ?_
              refine zp_const (pc := 167) hx hb (zd_X12_layDay (167, .bipush 6, 2, 0, []) (List.mem_of_getElem? (i := 93) rfl)) rfl rfl ?_
              refine zp_load (pc := 169) hx hb (zd_X12_layDay (169, .iload 4, 2, 0, []) (List.mem_of_getElem? (i := 94) rfl)) rfl (j := 3) rfl ?_
              refine zp_mul (n := (6 * (h9ξ : Int))) (pc := 171) hx hb (zd_X12_layDay (171, .imul, 1, 0, []) (List.mem_of_getElem? (i := 95) rfl)) (by omega) (zp_r0 (by omega) (by omega)) ?_
              refine zp_load (pc := 172) hx hb (zd_X12_layDay (172, .iload 5, 2, 0, []) (List.mem_of_getElem? (i := 96) rfl)) rfl (j := 2) rfl ?_
              refine zp_add (n := (6 * (h9ξ : Int) + (p9ξ : Int))) (pc := 174) hx hb (zd_X12_layDay (174, .iadd, 1, 0, []) (List.mem_of_getElem? (i := 97) rfl)) (by omega) (zp_r0 (by omega) (by omega)) ?_
              refine zp_load (pc := 175) hx hb (zd_X12_layDay (175, .iload 6, 2, 0, []) (List.mem_of_getElem? (i := 98) rfl)) rfl (j := 1) rfl ?_
              refine zp_iast (j := (6 * h9ξ + p9ξ)) (pc := 177) hx hb hwξ heffξ (zd_X12_layDay (177, .iastore, 1, 0, []) (List.mem_of_getElem? (i := 99) rfl)) (show zp_ia 1 79 = some (144, 0, 0, (-2147483648), 2147483647) from rfl) (zM_P hMuξ (List.mem_of_getElem? (i := 22) rfl)) (by omega) (by omega) (zp_o0 (by omega) (by omega) (by omega) (by omega)) rfl ?_
              refine zp_load (pc := 178) hx hb (zd_X12_layDay (178, .iload 7, 2, 0, []) (List.mem_of_getElem? (i := 100) rfl)) rfl (j := 0) rfl ?_
              refine zp_const (pc := 180) hx hb (zd_X12_layDay (180, .iconst (-1), 1, 0, []) (List.mem_of_getElem? (i := 101) rfl)) rfl rfl ?_
              refine zp_icmp (pc := 181) (tgt := 243) hx hb (zd_X12_layDay (181, .if_icmp .eq 62, 3, 0, []) (List.mem_of_getElem? (i := 102) rfl)) rfl (fun (hc230ξ : (-1 : Int) = (-1)) => ?_) (fun (hc230ξ : ¬ ((-1 : Int) = (-1))) => ?_)
              · refine zp_iinc (L' := [(5, 0, ((p9ξ : Int) + 1)), (7, 0, (-1)), (6, 0, (zd_sp Rwξ Lwξ p1ξ (zd_pw (zd_ru Rwξ Lwξ p1ξ) p1ξ h9ξ) h9ξ p9ξ)), (4, 0, (h9ξ : Int)), (2, 0, (zd_pw (zd_ru Rwξ Lwξ p1ξ) p1ξ h9ξ)), (3, 0, (n1ξ : Int)), (0, 2, (A 0 : Int)), (1, 0, p1ξ)]) (n := ((p9ξ : Int) + 1)) (pc := 243) hx hb hnLξ (zd_X12_layDay (243, .iinc 5 1, 3, 0, []) (List.mem_of_getElem? (i := 136) rfl)) (j := 2) rfl (by omega) (zp_r0 (by omega) (by omega)) rfl rfl ?_
                refine zp_goto (tgt := 132) (pc := 246) hx hb (zd_X12_layDay (246, .goto (-114), 3, 0, []) (List.mem_of_getElem? (i := 137) rfl)) rfl ?_
                refine zp_drop (L' := [(5, 0, ((p9ξ : Int) + 1)), (4, 0, (h9ξ : Int)), (2, 0, (zd_pw (zd_ru Rwξ Lwξ p1ξ) p1ξ h9ξ)), (3, 0, (n1ξ : Int)), (0, 2, (A 0 : Int)), (1, 0, p1ξ)]) (by simp) ?_
                refine ihD (p9ξ + 1) (zp_set Mu 42 (2000 + (6 * h9ξ + p9ξ)) (zd_sp Rwξ Lwξ p1ξ (zd_pw (zd_ru Rwξ Lwξ p1ξ) p1ξ h9ξ) h9ξ p9ξ)) (zp_set Gu (A 42) (2000 + (6 * h9ξ + p9ξ)) (zd_sp Rwξ Lwξ p1ξ (zd_pw (zd_ru Rwξ Lwξ p1ξ) p1ξ h9ξ) h9ξ p9ξ)) (by omega) (zM_setE hMuξ (List.mem_of_getElem? (i := 22) rfl)) (fun o k hkξ => (zp_set_ne (zNs_ne hkξ (by decide))).trans (hSuξ o k hkξ)) (fun j hjξ => by rw [zp_set_ne (Or.inl (by decide))]; exact hSbuξ j hjξ) ⟨fun g p hgξ hpξ => (zp_set_ne (Or.inr (by omega))).trans (hdξ.1 g p hgξ hpξ), fun g hgξ => (zp_set_ne (Or.inl (by decide))).trans (hdξ.2.1 g hgξ), fun g w hgξ hwξ => (zp_set_ne (Or.inl (by decide))).trans (hdξ.2.2 g w hgξ hwξ)⟩ ((zp_set_ne (Or.inl (by decide))).trans (h41ξ)) (fun p hpξ => ?_) ?_ (fun w hwξ => (zp_set_ne (Or.inl (by decide))).trans (h46ξ w hwξ))
                · by_cases e8 : p = p9ξ
                  · rw [e8]
                    exact zp_set_self
                  · exact (zp_set_ne (Or.inr (by omega))).trans (h42ξ p (by omega))
                · rw [zd_hp, ← hXξ]
                  unfold zd_ps
                  rw [if_pos e9ξ]
                  exact fun w hwξ => ⟨(zp_set_ne (Or.inl (by decide))).trans ((hxdξ w hwξ).1), (zp_set_ne (Or.inl (by decide))).trans ((hxdξ w hwξ).2)⟩
              · exfalso
                omega
            · have htqξ : rnq = (j9ξ : Int) := (Eq.trans htqξ) e9ξ
              subst htqξ
              have hxb9ξ := hXb9ξ j9ξ (by omega)
              have hmjξ := hDwξ j9ξ (by omega)
              refine zp_store (L' := [(7, 0, (j9ξ : Int)), (6, 0, (zd_sp Rwξ Lwξ p1ξ (zd_pw (zd_ru Rwξ Lwξ p1ξ) p1ξ h9ξ) h9ξ p9ξ)), (5, 0, (p9ξ : Int)), (4, 0, (h9ξ : Int)), (2, 0, (zd_pw (zd_ru Rwξ Lwξ p1ξ) p1ξ h9ξ)), (3, 0, (n1ξ : Int)), (0, 2, (A 0 : Int)), (1, 0, p1ξ)]) (pc := 161) hx hb hnLξ (zd_X12_layDay (161, .istore 7, 2, 0, []) (List.mem_of_getElem? (i := 90) rfl)) rfl rfl rfl ?_
              refine zp_load (pc := 163) hx hb (zd_X12_layDay (163, .aload_n 0, 1, 0, []) (List.mem_of_getElem? (i := 91) rfl)) rfl (j := 6) rfl ?_
              refine zp_getf (n := (A 42 : Int)) (pc := 164) hx hb hEξ hwξ (zd_X12_layDay (164, .getfield 113, 3, 0, []) (List.mem_of_getElem? (i := 92) rfl)) (j := 60) rfl rfl rfl (zM_P hMuξ (List.mem_of_getElem? (i := 0) rfl)) ((zM_G hMuξ (List.mem_of_getElem? (i := 0) rfl) 42).trans (zM_F hMuξ (List.mem_of_getElem? (i := 21) rfl))) ?_
              refine zp_const (pc := 167) hx hb (zd_X12_layDay (167, .bipush 6, 2, 0, []) (List.mem_of_getElem? (i := 93) rfl)) rfl rfl ?_
              refine zp_load (pc := 169) hx hb (zd_X12_layDay (169, .iload 4, 2, 0, []) (List.mem_of_getElem? (i := 94) rfl)) rfl (j := 3) rfl ?_
              refine zp_mul (n := (6 * (h9ξ : Int))) (pc := 171) hx hb (zd_X12_layDay (171, .imul, 1, 0, []) (List.mem_of_getElem? (i := 95) rfl)) (by omega) (zp_r0 (by omega) (by omega)) ?_
              refine zp_load (pc := 172) hx hb (zd_X12_layDay (172, .iload 5, 2, 0, []) (List.mem_of_getElem? (i := 96) rfl)) rfl (j := 2) rfl ?_
              refine zp_add (n := (6 * (h9ξ : Int) + (p9ξ : Int))) (pc := 174) hx hb (zd_X12_layDay (174, .iadd, 1, 0, []) (List.mem_of_getElem? (i := 97) rfl)) (by omega) (zp_r0 (by omega) (by omega)) ?_
              refine zp_load (pc := 175) hx hb (zd_X12_layDay (175, .iload 6, 2, 0, []) (List.mem_of_getElem? (i := 98) rfl)) rfl (j := 1) rfl ?_
              refine zp_iast (j := (6 * h9ξ + p9ξ)) (pc := 177) hx hb hwξ heffξ (zd_X12_layDay (177, .iastore, 1, 0, []) (List.mem_of_getElem? (i := 99) rfl)) (show zp_ia 1 79 = some (144, 0, 0, (-2147483648), 2147483647) from rfl) (zM_P hMuξ (List.mem_of_getElem? (i := 22) rfl)) (by omega) (by omega) (zp_o0 (by omega) (by omega) (by omega) (by omega)) rfl ?_
              refine zp_load (pc := 178) hx hb (zd_X12_layDay (178, .iload 7, 2, 0, []) (List.mem_of_getElem? (i := 100) rfl)) rfl (j := 0) rfl ?_
              refine zp_const (pc := 180) hx hb (zd_X12_layDay (180, .iconst (-1), 1, 0, []) (List.mem_of_getElem? (i := 101) rfl)) rfl rfl ?_
              refine zp_icmp (pc := 181) (tgt := 243) hx hb (zd_X12_layDay (181, .if_icmp .eq 62, 3, 0, []) (List.mem_of_getElem? (i := 102) rfl)) rfl (fun (hc231ξ : (j9ξ : Int) = (-1)) => ?_) (fun (hc231ξ : ¬ ((j9ξ : Int) = (-1))) => ?_)
              · exfalso
                omega
              · refine zp_load (pc := 184) hx hb (zd_X12_layDay (184, .aload_n 0, 1, 0, []) (List.mem_of_getElem? (i := 103) rfl)) rfl (j := 6) rfl ?_
                refine zp_getf (n := (A 44 : Int)) (pc := 185) hx hb hEξ hwξ (zd_X12_layDay (185, .getfield 119, 3, 0, []) (List.mem_of_getElem? (i := 104) rfl)) (j := 62) rfl rfl rfl (zM_P hMuξ (List.mem_of_getElem? (i := 0) rfl)) ((zp_set_ne (Or.inl (zM_ne hMuξ (List.mem_of_getElem? (i := 0) rfl) (List.mem_of_getElem? (i := 22) rfl) (by decide)))).trans (((zM_G hMuξ (List.mem_of_getElem? (i := 0) rfl) 44).trans (zM_F hMuξ (List.mem_of_getElem? (i := 23) rfl))))) ?_
                refine zp_load (pc := 188) hx hb (zd_X12_layDay (188, .iload 7, 2, 0, []) (List.mem_of_getElem? (i := 105) rfl)) rfl (j := 0) rfl ?_
                refine zp_load (pc := 190) hx hb (zd_X12_layDay (190, .aload_n 0, 1, 0, []) (List.mem_of_getElem? (i := 106) rfl)) rfl (j := 6) rfl ?_
                refine zp_getf (n := (A 44 : Int)) (pc := 191) hx hb hEξ hwξ (zd_X12_layDay (191, .getfield 119, 3, 0, []) (List.mem_of_getElem? (i := 107) rfl)) (j := 62) rfl rfl rfl (zM_P hMuξ (List.mem_of_getElem? (i := 0) rfl)) ((zp_set_ne (Or.inl (zM_ne hMuξ (List.mem_of_getElem? (i := 0) rfl) (List.mem_of_getElem? (i := 22) rfl) (by decide)))).trans (((zM_G hMuξ (List.mem_of_getElem? (i := 0) rfl) 44).trans (zM_F hMuξ (List.mem_of_getElem? (i := 23) rfl))))) ?_
                refine zp_load (pc := 194) hx hb (zd_X12_layDay (194, .iload 7, 2, 0, []) (List.mem_of_getElem? (i := 108) rfl)) rfl (j := 0) rfl ?_
                refine zp_iald (j := j9ξ) (v := (X.1 j9ξ)) (pc := 196) hx hb hwξ (zd_X12_layDay (196, .iaload, 1, 0, []) (List.mem_of_getElem? (i := 109) rfl)) (show zp_ia 1 81 = some (10, 0, 0, (-2147483648), 2147483647) from rfl) (zM_P hMuξ (List.mem_of_getElem? (i := 24) rfl)) (by omega) (by omega) ((zp_set_ne (Or.inl (zM_ne hMuξ (List.mem_of_getElem? (i := 24) rfl) (List.mem_of_getElem? (i := 22) rfl) (by decide)))).trans (((zM_G hMuξ (List.mem_of_getElem? (i := 24) rfl) (2000 + j9ξ)).trans (hxdξ j9ξ (by omega)).1))) (fun hk232ξ => ?_)
                have hk232bξ := zp_int hk232ξ
                clear hk232ξ
                refine zp_load (pc := 197) hx hb (zd_X12_layDay (197, .iload 6, 2, 0, []) (List.mem_of_getElem? (i := 110) rfl)) rfl (j := 1) rfl ?_
                refine zp_add (n := ((X.1 j9ξ) + (zd_sp Rwξ Lwξ p1ξ (zd_pw (zd_ru Rwξ Lwξ p1ξ) p1ξ h9ξ) h9ξ p9ξ))) (pc := 199) hx hb (zd_X12_layDay (199, .iadd, 1, 0, []) (List.mem_of_getElem? (i := 111) rfl)) (by omega) (zp_r0 (by omega) (by omega)) ?_
                refine zp_i2l (pc := 200) hx hb (zd_X12_layDay (200, .i2l, 1, 0, []) (List.mem_of_getElem? (i := 112) rfl)) ?_
                refine zp_const (pc := 201) hx hb (zd_X12_layDay (201, .iconst 0, 1, 0, []) (List.mem_of_getElem? (i := 113) rfl)) rfl rfl ?_
                refine zp_load (pc := 202) hx hb (zd_X12_layDay (202, .aload_n 0, 1, 0, []) (List.mem_of_getElem? (i := 114) rfl)) rfl (j := 6) rfl ?_
                refine zp_load (pc := 203) hx hb (zd_X12_layDay (203, .iload 7, 2, 0, []) (List.mem_of_getElem? (i := 115) rfl)) rfl (j := 0) rfl ?_
                refine zp_const (pc := 205) hx hb (zd_X12_layDay (205, .iconst 1, 1, 0, []) (List.mem_of_getElem? (i := 116) rfl)) rfl rfl ?_
                refine zp_call (pc := 206) (how := 0) (idx := 188) (mi := 196) (S := [(0, 0), (1, ((X.1 j9ξ) + (zd_sp Rwξ Lwξ p1ξ (zd_pw (zd_ru Rwξ Lwξ p1ξ) p1ξ h9ξ) h9ξ p9ξ))), (0, (j9ξ : Int)), (2, (A 44 : Int))]) hx hb hEξ hwξ heffξ hrmξ (zX_ofw hWξ A (zp_set Mu 42 (2000 + (6 * h9ξ + p9ξ)) (zd_sp Rwξ Lwξ p1ξ (zd_pw (zd_ru Rwξ Lwξ p1ξ) p1ξ h9ξ) h9ξ p9ξ)) j9ξ 1) rfl (j := 7) rfl rfl (by decide +kernel) (zd_X12_layDay (206, .invokevirtual 188, 3, 0, []) (List.mem_of_getElem? (i := 117) rfl)) [(A 0 : Int), (j9ξ : Int), 1] rfl ⟨zp_o2 (zM_P hMuξ (List.mem_of_getElem? (i := 0) rfl)), zp_o0 (by omega) (by omega) (by omega) (by omega), zp_o0 (by decide) (by decide) (by decide) (by decide), trivial⟩ (Nat.le_of_ble_eq_true rfl) ⟨(zM_setE hMuξ (List.mem_of_getElem? (i := 22) rfl)), rfl, (show (j9ξ : Int) = ((j9ξ : Nat) : Int) by omega), rfl, (show -2147483648 ≤ (zp_set Mu 42 (2000 + (6 * h9ξ + p9ξ)) (zd_sp Rwξ Lwξ p1ξ (zd_pw (zd_ru Rwξ Lwξ p1ξ) p1ξ h9ξ) h9ξ p9ξ)) 3 (2000 + (5 * j9ξ + 40)) ∧ (zp_set Mu 42 (2000 + (6 * h9ξ + p9ξ)) (zd_sp Rwξ Lwξ p1ξ (zd_pw (zd_ru Rwξ Lwξ p1ξ) p1ξ h9ξ) h9ξ p9ξ)) 3 (2000 + (5 * j9ξ + 40)) ≤ 2147483647 by rw [((zp_set_ne (Or.inl (by decide))).trans ((hRwξ (5 * j9ξ + 40))))]; omega)⟩ (fun al halξ rnf233ξ Pf233 Gf233 hextf233ξ hfrf233ξ hokf233ξ hcsf233ξ hpsif233ξ => ?_)
                obtain rfl := List.mem_singleton.mp halξ
                have hrf233ξ := zp_int (hokf233ξ _ rfl).1
                obtain ⟨hPef233ξ, hGef233ξ, htf233ξ⟩ := hpsif233ξ
                rw [hPef233ξ, hGef233ξ]
                clear hextf233ξ hfrf233ξ hcsf233ξ hPef233ξ hGef233ξ
                have htf233ξ : rnf233ξ = (Rwξ (5 * j9ξ + 40)) := (Eq.trans htf233ξ) (((zp_set_ne (Or.inl (by decide))).trans ((hRwξ (5 * j9ξ + 40)))))
                have htf233ξ := (Eq.symm htf233ξ)
                subst htf233ξ
                refine zp_call (pc := 209) (how := 1) (idx := 427) (mi := 245) (S := [(0, (j9ξ : Int)), (2, (A 44 : Int))]) hx hb hEξ hwξ heffξ hrmξ (zX_wi hWξ) rfl (j := 45) rfl rfl (by decide +kernel) (zd_X12_layDay (209, .invokestatic 427, 3, 0, []) (List.mem_of_getElem? (i := 118) rfl)) [((X.1 j9ξ) + (zd_sp Rwξ Lwξ p1ξ (zd_pw (zd_ru Rwξ Lwξ p1ξ) p1ξ h9ξ) h9ξ p9ξ)), 0, (Rwξ (5 * j9ξ + 40))] rfl ⟨zp_o1 (zp_r1 (by omega) (by omega)), zp_o0 (by omega) (by omega) (by omega) (by omega), zp_o0 (by omega) (by omega) (by omega) (by omega), trivial⟩ (Nat.le_of_ble_eq_true rfl) (show 0 ≤ (Rwξ (5 * j9ξ + 40)) by omega) (fun al halξ rnv234ξ Pv234 Gv234 hextv234ξ hfrv234ξ hokv234ξ hcsv234ξ hpsiv234ξ => ?_)
                obtain rfl := List.mem_singleton.mp halξ
                have hrv234ξ := zp_int (hokv234ξ _ rfl).1
                obtain ⟨hPev234ξ, hGev234ξ, htv234ξ⟩ := hpsiv234ξ
                rw [hPev234ξ, hGev234ξ]
                clear hextv234ξ hfrv234ξ hcsv234ξ hPev234ξ hGev234ξ
                have htv234ξ : rnv234ξ = (max 0 (min (Rwξ (5 * j9ξ + 40)) ((X.1 j9ξ) + (zd_sp Rwξ Lwξ p1ξ (zd_pw (zd_ru Rwξ Lwξ p1ξ) p1ξ h9ξ) h9ξ p9ξ)))) := htv234ξ
                have htv234ξ := (Eq.symm htv234ξ)
                subst htv234ξ
                have hv9ξ : 0 ≤ (max 0 (min (Rwξ (5 * j9ξ + 40)) ((X.1 j9ξ) + (zd_sp Rwξ Lwξ p1ξ (zd_pw (zd_ru Rwξ Lwξ p1ξ) p1ξ h9ξ) h9ξ p9ξ)))) ∧ (max 0 (min (Rwξ (5 * j9ξ + 40)) ((X.1 j9ξ) + (zd_sp Rwξ Lwξ p1ξ (zd_pw (zd_ru Rwξ Lwξ p1ξ) p1ξ h9ξ) h9ξ p9ξ)))) ≤ Rwξ (5 * j9ξ + 40) := by omega
                refine zp_iast (j := j9ξ) (pc := 212) hx hb hwξ heffξ (zd_X12_layDay (212, .iastore, 1, 0, []) (List.mem_of_getElem? (i := 119) rfl)) (show zp_ia 1 81 = some (10, 0, 0, (-2147483648), 2147483647) from rfl) (zM_P hMuξ (List.mem_of_getElem? (i := 24) rfl)) (by omega) (by omega) (zp_o0 (by omega) (by omega) (by omega) (by omega)) rfl ?_
                refine zp_load (pc := 213) hx hb (zd_X12_layDay (213, .aload_n 0, 1, 0, []) (List.mem_of_getElem? (i := 120) rfl)) rfl (j := 6) rfl ?_
                refine zp_getf (n := (A 45 : Int)) (pc := 214) hx hb hEξ hwξ (zd_X12_layDay (214, .getfield 122, 3, 0, []) (List.mem_of_getElem? (i := 121) rfl)) (j := 63) rfl rfl rfl (zM_P hMuξ (List.mem_of_getElem? (i := 0) rfl)) ((zp_set_ne (Or.inl (zM_ne hMuξ (List.mem_of_getElem? (i := 0) rfl) (List.mem_of_getElem? (i := 24) rfl) (by decide)))).trans ((zp_set_ne (Or.inl (zM_ne hMuξ (List.mem_of_getElem? (i := 0) rfl) (List.mem_of_getElem? (i := 22) rfl) (by decide)))).trans (((zM_G hMuξ (List.mem_of_getElem? (i := 0) rfl) 45).trans (zM_F hMuξ (List.mem_of_getElem? (i := 24) rfl)))))) ?_
                refine zp_load (pc := 217) hx hb (zd_X12_layDay (217, .iload 7, 2, 0, []) (List.mem_of_getElem? (i := 122) rfl)) rfl (j := 0) rfl ?_
                refine zp_load (pc := 219) hx hb (zd_X12_layDay (219, .aload_n 0, 1, 0, []) (List.mem_of_getElem? (i := 123) rfl)) rfl (j := 6) rfl ?_
                refine zp_getf (n := (A 44 : Int)) (pc := 220) hx hb hEξ hwξ (zd_X12_layDay (220, .getfield 119, 3, 0, []) (List.mem_of_getElem? (i := 124) rfl)) (j := 62) rfl rfl rfl (zM_P hMuξ (List.mem_of_getElem? (i := 0) rfl)) ((zp_set_ne (Or.inl (zM_ne hMuξ (List.mem_of_getElem? (i := 0) rfl) (List.mem_of_getElem? (i := 24) rfl) (by decide)))).trans ((zp_set_ne (Or.inl (zM_ne hMuξ (List.mem_of_getElem? (i := 0) rfl) (List.mem_of_getElem? (i := 22) rfl) (by decide)))).trans (((zM_G hMuξ (List.mem_of_getElem? (i := 0) rfl) 44).trans (zM_F hMuξ (List.mem_of_getElem? (i := 23) rfl)))))) ?_
                refine zp_load (pc := 223) hx hb (zd_X12_layDay (223, .iload 7, 2, 0, []) (List.mem_of_getElem? (i := 125) rfl)) rfl (j := 0) rfl ?_
                refine zp_iald (j := j9ξ) (v := (max 0 (min (Rwξ (5 * j9ξ + 40)) ((X.1 j9ξ) + (zd_sp Rwξ Lwξ p1ξ (zd_pw (zd_ru Rwξ Lwξ p1ξ) p1ξ h9ξ) h9ξ p9ξ))))) (pc := 225) hx hb hwξ (zd_X12_layDay (225, .iaload, 1, 0, []) (List.mem_of_getElem? (i := 126) rfl)) (show zp_ia 1 81 = some (10, 0, 0, (-2147483648), 2147483647) from rfl) (zM_P hMuξ (List.mem_of_getElem? (i := 24) rfl)) (by omega) (by omega) zp_set_self (fun hk235ξ => ?_)
                have hk235bξ := zp_int hk235ξ
                clear hk235ξ
                refine zp_load (pc := 226) hx hb (zd_X12_layDay (226, .aload_n 0, 1, 0, []) (List.mem_of_getElem? (i := 127) rfl)) rfl (j := 6) rfl ?_
                refine zp_load (pc := 227) hx hb (zd_X12_layDay (227, .iload 7, 2, 0, []) (List.mem_of_getElem? (i := 128) rfl)) rfl (j := 0) rfl ?_
                refine zp_const (pc := 229) hx hb (zd_X12_layDay (229, .iconst 1, 1, 0, []) (List.mem_of_getElem? (i := 129) rfl)) rfl rfl ?_
                refine zp_call (pc := 230) (how := 0) (idx := 188) (mi := 196) (S := [(0, (max 0 (min (Rwξ (5 * j9ξ + 40)) ((X.1 j9ξ) + (zd_sp Rwξ Lwξ p1ξ (zd_pw (zd_ru Rwξ Lwξ p1ξ) p1ξ h9ξ) h9ξ p9ξ))))), (0, (j9ξ : Int)), (2, (A 45 : Int))]) hx hb hEξ hwξ heffξ hrmξ (zX_ofw hWξ A (zp_set (zp_set Mu 42 (2000 + (6 * h9ξ + p9ξ)) (zd_sp Rwξ Lwξ p1ξ (zd_pw (zd_ru Rwξ Lwξ p1ξ) p1ξ h9ξ) h9ξ p9ξ)) 44 (2000 + j9ξ) (max 0 (min (Rwξ (5 * j9ξ + 40)) ((X.1 j9ξ) + (zd_sp Rwξ Lwξ p1ξ (zd_pw (zd_ru Rwξ Lwξ p1ξ) p1ξ h9ξ) h9ξ p9ξ))))) j9ξ 1) rfl (j := 7) rfl rfl (by decide +kernel) (zd_X12_layDay (230, .invokevirtual 188, 3, 0, []) (List.mem_of_getElem? (i := 130) rfl)) [(A 0 : Int), (j9ξ : Int), 1] rfl ⟨zp_o2 (zM_P hMuξ (List.mem_of_getElem? (i := 0) rfl)), zp_o0 (by omega) (by omega) (by omega) (by omega), zp_o0 (by decide) (by decide) (by decide) (by decide), trivial⟩ (Nat.le_of_ble_eq_true rfl) ⟨(zM_setE (zM_setE hMuξ (List.mem_of_getElem? (i := 22) rfl)) (List.mem_of_getElem? (i := 24) rfl)), rfl, (show (j9ξ : Int) = ((j9ξ : Nat) : Int) by omega), rfl, (show -2147483648 ≤ (zp_set (zp_set Mu 42 (2000 + (6 * h9ξ + p9ξ)) (zd_sp Rwξ Lwξ p1ξ (zd_pw (zd_ru Rwξ Lwξ p1ξ) p1ξ h9ξ) h9ξ p9ξ)) 44 (2000 + j9ξ) (max 0 (min (Rwξ (5 * j9ξ + 40)) ((X.1 j9ξ) + (zd_sp Rwξ Lwξ p1ξ (zd_pw (zd_ru Rwξ Lwξ p1ξ) p1ξ h9ξ) h9ξ p9ξ))))) 3 (2000 + (5 * j9ξ + 40)) ∧ (zp_set (zp_set Mu 42 (2000 + (6 * h9ξ + p9ξ)) (zd_sp Rwξ Lwξ p1ξ (zd_pw (zd_ru Rwξ Lwξ p1ξ) p1ξ h9ξ) h9ξ p9ξ)) 44 (2000 + j9ξ) (max 0 (min (Rwξ (5 * j9ξ + 40)) ((X.1 j9ξ) + (zd_sp Rwξ Lwξ p1ξ (zd_pw (zd_ru Rwξ Lwξ p1ξ) p1ξ h9ξ) h9ξ p9ξ))))) 3 (2000 + (5 * j9ξ + 40)) ≤ 2147483647 by rw [((zp_set_ne (Or.inl (by decide))).trans ((zp_set_ne (Or.inl (by decide))).trans ((hRwξ (5 * j9ξ + 40)))))]; omega)⟩ (fun al halξ rnf236ξ Pf236 Gf236 hextf236ξ hfrf236ξ hokf236ξ hcsf236ξ hpsif236ξ => ?_)
                obtain rfl := List.mem_singleton.mp halξ
                have hrf236ξ := zp_int (hokf236ξ _ rfl).1
                obtain ⟨hPef236ξ, hGef236ξ, htf236ξ⟩ := hpsif236ξ
                rw [hPef236ξ, hGef236ξ]
                clear hextf236ξ hfrf236ξ hcsf236ξ hPef236ξ hGef236ξ
                have htf236ξ : rnf236ξ = (Rwξ (5 * j9ξ + 40)) := (Eq.trans htf236ξ) (((zp_set_ne (Or.inl (by decide))).trans ((zp_set_ne (Or.inl (by decide))).trans ((hRwξ (5 * j9ξ + 40))))))
                have htf236ξ := (Eq.symm htf236ξ)
                subst htf236ξ
                refine zp_icmp (pc := 233) (tgt := 241) hx hb (zd_X12_layDay (233, .if_icmp .ne 8, 3, 0, []) (List.mem_of_getElem? (i := 131) rfl)) rfl (fun (hc237ξ : ¬ (max 0 (min (Rwξ (5 * j9ξ + 40)) ((X.1 j9ξ) + (zd_sp Rwξ Lwξ p1ξ (zd_pw (zd_ru Rwξ Lwξ p1ξ) p1ξ h9ξ) h9ξ p9ξ)))) = (Rwξ (5 * j9ξ + 40))) => ?_) (fun (hc237ξ : ¬ (¬ (max 0 (min (Rwξ (5 * j9ξ + 40)) ((X.1 j9ξ) + (zd_sp Rwξ Lwξ p1ξ (zd_pw (zd_ru Rwξ Lwξ p1ξ) p1ξ h9ξ) h9ξ p9ξ)))) = (Rwξ (5 * j9ξ + 40)))) => ?_)
                · refine zp_const (pc := 241) hx hb (zd_X12_layDay (241, .iconst (-1), 1, 0, []) (List.mem_of_getElem? (i := 134) rfl)) rfl rfl ?_
                  refine zp_iast (j := j9ξ) (pc := 242) hx hb hwξ heffξ (zd_X12_layDay (242, .iastore, 1, 0, []) (List.mem_of_getElem? (i := 135) rfl)) (show zp_ia 1 82 = some (10, 0, 0, (-2147483648), 2147483647) from rfl) (zM_P hMuξ (List.mem_of_getElem? (i := 25) rfl)) (by omega) (by omega) (zp_o0 (by omega) (by omega) (by omega) (by omega)) rfl ?_
                  refine zp_iinc (L' := [(5, 0, ((p9ξ : Int) + 1)), (7, 0, (j9ξ : Int)), (6, 0, (zd_sp Rwξ Lwξ p1ξ (zd_pw (zd_ru Rwξ Lwξ p1ξ) p1ξ h9ξ) h9ξ p9ξ)), (4, 0, (h9ξ : Int)), (2, 0, (zd_pw (zd_ru Rwξ Lwξ p1ξ) p1ξ h9ξ)), (3, 0, (n1ξ : Int)), (0, 2, (A 0 : Int)), (1, 0, p1ξ)]) (n := ((p9ξ : Int) + 1)) (pc := 243) hx hb hnLξ (zd_X12_layDay (243, .iinc 5 1, 3, 0, []) (List.mem_of_getElem? (i := 136) rfl)) (j := 2) rfl (by omega) (zp_r0 (by omega) (by omega)) rfl rfl ?_
                  refine zp_goto (tgt := 132) (pc := 246) hx hb (zd_X12_layDay (246, .goto (-114), 3, 0, []) (List.mem_of_getElem? (i := 137) rfl)) rfl ?_
                  refine zp_drop (L' := [(5, 0, ((p9ξ : Int) + 1)), (4, 0, (h9ξ : Int)), (2, 0, (zd_pw (zd_ru Rwξ Lwξ p1ξ) p1ξ h9ξ)), (3, 0, (n1ξ : Int)), (0, 2, (A 0 : Int)), (1, 0, p1ξ)]) (by simp) ?_
                  refine ihD (p9ξ + 1) (zp_set (zp_set (zp_set Mu 42 (2000 + (6 * h9ξ + p9ξ)) (zd_sp Rwξ Lwξ p1ξ (zd_pw (zd_ru Rwξ Lwξ p1ξ) p1ξ h9ξ) h9ξ p9ξ)) 44 (2000 + j9ξ) (max 0 (min (Rwξ (5 * j9ξ + 40)) ((X.1 j9ξ) + (zd_sp Rwξ Lwξ p1ξ (zd_pw (zd_ru Rwξ Lwξ p1ξ) p1ξ h9ξ) h9ξ p9ξ))))) 45 (2000 + j9ξ) (-1)) (zp_set (zp_set (zp_set Gu (A 42) (2000 + (6 * h9ξ + p9ξ)) (zd_sp Rwξ Lwξ p1ξ (zd_pw (zd_ru Rwξ Lwξ p1ξ) p1ξ h9ξ) h9ξ p9ξ)) (A 44) (2000 + j9ξ) (max 0 (min (Rwξ (5 * j9ξ + 40)) ((X.1 j9ξ) + (zd_sp Rwξ Lwξ p1ξ (zd_pw (zd_ru Rwξ Lwξ p1ξ) p1ξ h9ξ) h9ξ p9ξ))))) (A 45) (2000 + j9ξ) (-1)) (by omega) (zM_setE (zM_setE (zM_setE hMuξ (List.mem_of_getElem? (i := 22) rfl)) (List.mem_of_getElem? (i := 24) rfl)) (List.mem_of_getElem? (i := 25) rfl)) (fun o k hkξ => (zp_set_ne (zNs_ne hkξ (by decide))).trans ((zp_set_ne (zNs_ne hkξ (by decide))).trans ((zp_set_ne (zNs_ne hkξ (by decide))).trans (hSuξ o k hkξ)))) (fun j hjξ => by rw [zp_set_ne (Or.inl (by decide)), zp_set_ne (Or.inl (by decide)), zp_set_ne (Or.inl (by decide))]; exact hSbuξ j hjξ) ⟨fun g p hgξ hpξ => (zp_set_ne (Or.inl (by decide))).trans ((zp_set_ne (Or.inl (by decide))).trans ((zp_set_ne (Or.inr (by omega))).trans (hdξ.1 g p hgξ hpξ))), fun g hgξ => (zp_set_ne (Or.inl (by decide))).trans ((zp_set_ne (Or.inl (by decide))).trans ((zp_set_ne (Or.inl (by decide))).trans (hdξ.2.1 g hgξ))), fun g w hgξ hwξ => (zp_set_ne (Or.inl (by decide))).trans ((zp_set_ne (Or.inl (by decide))).trans ((zp_set_ne (Or.inl (by decide))).trans (hdξ.2.2 g w hgξ hwξ)))⟩ ((zp_set_ne (Or.inl (by decide))).trans ((zp_set_ne (Or.inl (by decide))).trans ((zp_set_ne (Or.inl (by decide))).trans (h41ξ)))) (fun p hpξ => ?_) ?_ (fun w hwξ => (zp_set_ne (Or.inl (by decide))).trans ((zp_set_ne (Or.inl (by decide))).trans ((zp_set_ne (Or.inl (by decide))).trans (h46ξ w hwξ))))
                  · by_cases e8 : p = p9ξ
                    · rw [e8]
                      exact (zp_set_ne (Or.inl (by decide))).trans ((zp_set_ne (Or.inl (by decide))).trans (zp_set_self))
                    · exact (zp_set_ne (Or.inl (by decide))).trans ((zp_set_ne (Or.inl (by decide))).trans ((zp_set_ne (Or.inr (by omega))).trans (h42ξ p (by omega))))
                  · rw [zd_hp, ← hXξ]
                    unfold zd_ps
                    rw [if_neg (by omega), e9ξ, Int.toNat_natCast]
                    intro w hwξ
                    by_cases e8 : w = j9ξ
                    · rw [e8]
                      exact ⟨(zp_set_ne (Or.inl (by decide))).trans (zp_set_self.trans (yu_at).symm), zp_set_self.trans (Eq.trans ((if_neg (by omega)).symm) (yu_at).symm)⟩
                    · exact ⟨(zp_set_ne (Or.inl (by decide))).trans ((zp_set_ne (Or.inr (by omega))).trans ((zp_set_ne (Or.inl (by decide))).trans ((hxdξ w hwξ).1.trans (yu_ne e8).symm))), (zp_set_ne (Or.inr (by omega))).trans ((zp_set_ne (Or.inl (by decide))).trans ((zp_set_ne (Or.inl (by decide))).trans ((hxdξ w hwξ).2.trans (yu_ne e8).symm)))⟩
                · refine zp_load (pc := 236) hx hb (zd_X12_layDay (236, .iload 4, 2, 0, []) (List.mem_of_getElem? (i := 132) rfl)) rfl (j := 3) rfl ?_
                  refine zp_goto (tgt := 242) (pc := 238) hx hb (zd_X12_layDay (238, .goto 4, 3, 0, []) (List.mem_of_getElem? (i := 133) rfl)) rfl ?_
                  refine zp_iast (j := j9ξ) (pc := 242) hx hb hwξ heffξ (zd_X12_layDay (242, .iastore, 1, 0, []) (List.mem_of_getElem? (i := 135) rfl)) (show zp_ia 1 82 = some (10, 0, 0, (-2147483648), 2147483647) from rfl) (zM_P hMuξ (List.mem_of_getElem? (i := 25) rfl)) (by omega) (by omega) (zp_o0 (by omega) (by omega) (by omega) (by omega)) rfl ?_
                  refine zp_iinc (L' := [(5, 0, ((p9ξ : Int) + 1)), (7, 0, (j9ξ : Int)), (6, 0, (zd_sp Rwξ Lwξ p1ξ (zd_pw (zd_ru Rwξ Lwξ p1ξ) p1ξ h9ξ) h9ξ p9ξ)), (4, 0, (h9ξ : Int)), (2, 0, (zd_pw (zd_ru Rwξ Lwξ p1ξ) p1ξ h9ξ)), (3, 0, (n1ξ : Int)), (0, 2, (A 0 : Int)), (1, 0, p1ξ)]) (n := ((p9ξ : Int) + 1)) (pc := 243) hx hb hnLξ (zd_X12_layDay (243, .iinc 5 1, 3, 0, []) (List.mem_of_getElem? (i := 136) rfl)) (j := 2) rfl (by omega) (zp_r0 (by omega) (by omega)) rfl rfl ?_
                  refine zp_goto (tgt := 132) (pc := 246) hx hb (zd_X12_layDay (246, .goto (-114), 3, 0, []) (List.mem_of_getElem? (i := 137) rfl)) rfl ?_
                  refine zp_drop (L' := [(5, 0, ((p9ξ : Int) + 1)), (4, 0, (h9ξ : Int)), (2, 0, (zd_pw (zd_ru Rwξ Lwξ p1ξ) p1ξ h9ξ)), (3, 0, (n1ξ : Int)), (0, 2, (A 0 : Int)), (1, 0, p1ξ)]) (by simp) ?_
                  refine ihD (p9ξ + 1) (zp_set (zp_set (zp_set Mu 42 (2000 + (6 * h9ξ + p9ξ)) (zd_sp Rwξ Lwξ p1ξ (zd_pw (zd_ru Rwξ Lwξ p1ξ) p1ξ h9ξ) h9ξ p9ξ)) 44 (2000 + j9ξ) (max 0 (min (Rwξ (5 * j9ξ + 40)) ((X.1 j9ξ) + (zd_sp Rwξ Lwξ p1ξ (zd_pw (zd_ru Rwξ Lwξ p1ξ) p1ξ h9ξ) h9ξ p9ξ))))) 45 (2000 + j9ξ) (h9ξ : Int)) (zp_set (zp_set (zp_set Gu (A 42) (2000 + (6 * h9ξ + p9ξ)) (zd_sp Rwξ Lwξ p1ξ (zd_pw (zd_ru Rwξ Lwξ p1ξ) p1ξ h9ξ) h9ξ p9ξ)) (A 44) (2000 + j9ξ) (max 0 (min (Rwξ (5 * j9ξ + 40)) ((X.1 j9ξ) + (zd_sp Rwξ Lwξ p1ξ (zd_pw (zd_ru Rwξ Lwξ p1ξ) p1ξ h9ξ) h9ξ p9ξ))))) (A 45) (2000 + j9ξ) (h9ξ : Int)) (by omega) (zM_setE (zM_setE (zM_setE hMuξ (List.mem_of_getElem? (i := 22) rfl)) (List.mem_of_getElem? (i := 24) rfl)) (List.mem_of_getElem? (i := 25) rfl)) (fun o k hkξ => (zp_set_ne (zNs_ne hkξ (by decide))).trans ((zp_set_ne (zNs_ne hkξ (by decide))).trans ((zp_set_ne (zNs_ne hkξ (by decide))).trans (hSuξ o k hkξ)))) (fun j hjξ => by rw [zp_set_ne (Or.inl (by decide)), zp_set_ne (Or.inl (by decide)), zp_set_ne (Or.inl (by decide))]; exact hSbuξ j hjξ) ⟨fun g p hgξ hpξ => (zp_set_ne (Or.inl (by decide))).trans ((zp_set_ne (Or.inl (by decide))).trans ((zp_set_ne (Or.inr (by omega))).trans (hdξ.1 g p hgξ hpξ))), fun g hgξ => (zp_set_ne (Or.inl (by decide))).trans ((zp_set_ne (Or.inl (by decide))).trans ((zp_set_ne (Or.inl (by decide))).trans (hdξ.2.1 g hgξ))), fun g w hgξ hwξ => (zp_set_ne (Or.inl (by decide))).trans ((zp_set_ne (Or.inl (by decide))).trans ((zp_set_ne (Or.inl (by decide))).trans (hdξ.2.2 g w hgξ hwξ)))⟩ ((zp_set_ne (Or.inl (by decide))).trans ((zp_set_ne (Or.inl (by decide))).trans ((zp_set_ne (Or.inl (by decide))).trans (h41ξ)))) (fun p hpξ => ?_) ?_ (fun w hwξ => (zp_set_ne (Or.inl (by decide))).trans ((zp_set_ne (Or.inl (by decide))).trans ((zp_set_ne (Or.inl (by decide))).trans (h46ξ w hwξ))))
                  · by_cases e8 : p = p9ξ
                    · rw [e8]
                      exact (zp_set_ne (Or.inl (by decide))).trans ((zp_set_ne (Or.inl (by decide))).trans (zp_set_self))
                    · exact (zp_set_ne (Or.inl (by decide))).trans ((zp_set_ne (Or.inl (by decide))).trans ((zp_set_ne (Or.inr (by omega))).trans (h42ξ p (by omega))))
                  · rw [zd_hp, ← hXξ]
                    unfold zd_ps
                    rw [if_neg (by omega), e9ξ, Int.toNat_natCast]
                    intro w hwξ
                    by_cases e8 : w = j9ξ
                    · rw [e8]
                      exact ⟨(zp_set_ne (Or.inl (by decide))).trans (zp_set_self.trans (yu_at).symm), zp_set_self.trans (Eq.trans ((if_pos (by omega)).symm) (yu_at).symm)⟩
                    · exact ⟨(zp_set_ne (Or.inl (by decide))).trans ((zp_set_ne (Or.inr (by omega))).trans ((zp_set_ne (Or.inl (by decide))).trans ((hxdξ w hwξ).1.trans (yu_ne e8).symm))), (zp_set_ne (Or.inr (by omega))).trans ((zp_set_ne (Or.inl (by decide))).trans ((zp_set_ne (Or.inl (by decide))).trans ((hxdξ w hwξ).2.trans (yu_ne e8).symm)))⟩
      have loopC : ∀ (r9ξ w9ξ : Nat) (M : Nat → Nat → Int) (G : Nat → Nat → Int), r9ξ + w9ξ = n1ξ → zM A zYr zFr M u.1 G → (∀ o k, zNs o k → M o k = M0ξ o k) → zSb M → zDyh Rwξ Lwξ n1ξ npξ p1ξ h9ξ M → M 41 (2000 + h9ξ) = (zd_pw (zd_ru Rwξ Lwξ p1ξ) p1ξ h9ξ) → zDyx n1ξ X0ξ M → (∀ w, w < w9ξ → M 46 (2000 + w) = zd_rd Rwξ X0ξ.1 w) → zp_J p l e R s m args below meth c Q w u [] 73 [(5, 0, (w9ξ : Int)), (4, 0, (h9ξ : Int)), (2, 0, (zd_pw (zd_ru Rwξ Lwξ p1ξ) p1ξ h9ξ)), (3, 0, (n1ξ : Int)), (0, 2, (A 0 : Int)), (1, 0, p1ξ)] [] u.1 G := by
        clear loopE
        intro r9ξ
        induction r9ξ with
        | zero =>
          intro w9ξ M G hrξ hMξ hSξ hSbξ hdξ h41ξ hxdξ h46ξ
          obtain rfl : w9ξ = n1ξ := by omega
          have hRwξ : ∀ j, M 3 (2000 + j) = Rwξ j := fun j => (hSξ 3 _ (Or.inl (by decide))).trans (hRw0ξ j)
          have hRξ : zRb M := fun j hjξ => by rw [hRwξ]; exact hRbξ j hjξ
          have k47 : M 0 47 = -1 := (hSξ 0 47 (Or.inr (by decide))).trans h47ξ
          have k20 : M 0 20 = 0 := (hSξ 0 20 (Or.inr (by decide))).trans h20ξ
          refine zp_load (pc := 73) hx hb (zd_X12_layDay (73, .iload 5, 2, 0, []) (List.mem_of_getElem? (i := 43) rfl)) rfl (j := 0) rfl ?_
          refine zp_load (pc := 75) hx hb (zd_X12_layDay (75, .iload_n 3, 1, 0, []) (List.mem_of_getElem? (i := 44) rfl)) rfl (j := 3) rfl ?_
          refine zp_icmp (pc := 76) (tgt := 129) hx hb (zd_X12_layDay (76, .if_icmp .ge 53, 3, 0, []) (List.mem_of_getElem? (i := 45) rfl)) rfl (fun (hc238ξ : (w9ξ : Int) ≤ (w9ξ : Int)) => ?_) (fun (hc238ξ : ¬ ((w9ξ : Int) ≤ (w9ξ : Int))) => ?_)
          · refine zp_const (pc := 129) hx hb (zd_X12_layDay (129, .iconst 0, 1, 0, []) (List.mem_of_getElem? (i := 72) rfl)) rfl rfl ?_
            refine zp_store (L' := [(5, 0, 0), (4, 0, (h9ξ : Int)), (2, 0, (zd_pw (zd_ru Rwξ Lwξ p1ξ) p1ξ h9ξ)), (3, 0, (w9ξ : Int)), (0, 2, (A 0 : Int)), (1, 0, p1ξ)]) (pc := 130) hx hb hnLξ (zd_X12_layDay (130, .istore 5, 2, 0, []) (List.mem_of_getElem? (i := 73) rfl)) rfl rfl rfl ?_
            refine zp_drop (L' := [(5, 0, 0), (4, 0, (h9ξ : Int)), (2, 0, (zd_pw (zd_ru Rwξ Lwξ p1ξ) p1ξ h9ξ)), (3, 0, (w9ξ : Int)), (0, 2, (A 0 : Int)), (1, 0, p1ξ)]) (by simp) ?_
            exact loopD npξ 0 M G (by omega) hMξ hSξ hSbξ hdξ h41ξ (fun p hpξ => absurd hpξ (Nat.not_lt_zero p)) hxdξ h46ξ
          · exfalso
            omega
        | succ r9ξ ihC =>
          intro w9ξ M G hrξ hMξ hSξ hSbξ hdξ h41ξ hxdξ h46ξ
          have hRwξ : ∀ j, M 3 (2000 + j) = Rwξ j := fun j => (hSξ 3 _ (Or.inl (by decide))).trans (hRw0ξ j)
          have hRξ : zRb M := fun j hjξ => by rw [hRwξ]; exact hRbξ j hjξ
          have k47 : M 0 47 = -1 := (hSξ 0 47 (Or.inr (by decide))).trans h47ξ
          have k20 : M 0 20 = 0 := (hSξ 0 20 (Or.inr (by decide))).trans h20ξ
          have hahξ := hDwξ w9ξ (by omega)
          refine zp_load (pc := 73) hx hb (zd_X12_layDay (73, .iload 5, 2, 0, []) (List.mem_of_getElem? (i := 43) rfl)) rfl (j := 0) rfl ?_
          refine zp_load (pc := 75) hx hb (zd_X12_layDay (75, .iload_n 3, 1, 0, []) (List.mem_of_getElem? (i := 44) rfl)) rfl (j := 3) rfl ?_
          refine zp_icmp (pc := 76) (tgt := 129) hx hb (zd_X12_layDay (76, .if_icmp .ge 53, 3, 0, []) (List.mem_of_getElem? (i := 45) rfl)) rfl (fun (hc239ξ : (n1ξ : Int) ≤ (w9ξ : Int)) => ?_) (fun (hc239ξ : ¬ ((n1ξ : Int) ≤ (w9ξ : Int))) => ?_)
          · exfalso
            omega
          · refine zp_load (pc := 79) hx hb (zd_X12_layDay (79, .aload_n 0, 1, 0, []) (List.mem_of_getElem? (i := 46) rfl)) rfl (j := 4) rfl ?_
            refine zp_load (pc := 80) hx hb (zd_X12_layDay (80, .iload 5, 2, 0, []) (List.mem_of_getElem? (i := 47) rfl)) rfl (j := 0) rfl ?_
            refine zp_const (pc := 82) hx hb (zd_X12_layDay (82, .iconst 4, 1, 0, []) (List.mem_of_getElem? (i := 48) rfl)) rfl rfl ?_
            refine zp_call (pc := 83) (how := 0) (idx := 188) (mi := 196) (S := []) hx hb hEξ hwξ heffξ hrmξ (zX_ofw hWξ A M w9ξ 4) rfl (j := 7) rfl rfl (by decide +kernel) (zd_X12_layDay (83, .invokevirtual 188, 3, 0, []) (List.mem_of_getElem? (i := 49) rfl)) [(A 0 : Int), (w9ξ : Int), 4] rfl ⟨zp_o2 (zM_P hMξ (List.mem_of_getElem? (i := 0) rfl)), zp_o0 (by omega) (by omega) (by omega) (by omega), zp_o0 (by decide) (by decide) (by decide) (by decide), trivial⟩ (Nat.le_of_ble_eq_true rfl) ⟨hMξ, rfl, (show (w9ξ : Int) = ((w9ξ : Nat) : Int) by omega), rfl, (show -2147483648 ≤ M 3 (2000 + (5 * w9ξ + 43)) ∧ M 3 (2000 + (5 * w9ξ + 43)) ≤ 2147483647 by rw [(hRwξ (5 * w9ξ + 43))]; omega)⟩ (fun al halξ rnf240ξ Pf240 Gf240 hextf240ξ hfrf240ξ hokf240ξ hcsf240ξ hpsif240ξ => ?_)
            obtain rfl := List.mem_singleton.mp halξ
            have hrf240ξ := zp_int (hokf240ξ _ rfl).1
            obtain ⟨hPef240ξ, hGef240ξ, htf240ξ⟩ := hpsif240ξ
            rw [hPef240ξ, hGef240ξ]
            clear hextf240ξ hfrf240ξ hcsf240ξ hPef240ξ hGef240ξ
            have htf240ξ : rnf240ξ = (Rwξ (5 * w9ξ + 43)) := (Eq.trans htf240ξ) ((hRwξ (5 * w9ξ + 43)))
            have htf240ξ := (Eq.symm htf240ξ)
            subst htf240ξ
            by_cases ea9 : (Rwξ (5 * w9ξ + 43)) = -1
            · have hz9ξ : zd_rd Rwξ X0ξ.1 w9ξ = 1 := if_pos (Or.inl ea9)
              refine zp_store (L' := [(6, 0, (Rwξ (5 * w9ξ + 43))), (5, 0, (w9ξ : Int)), (4, 0, (h9ξ : Int)), (2, 0, (zd_pw (zd_ru Rwξ Lwξ p1ξ) p1ξ h9ξ)), (3, 0, (n1ξ : Int)), (0, 2, (A 0 : Int)), (1, 0, p1ξ)]) (pc := 86) hx hb hnLξ (zd_X12_layDay (86, .istore 6, 2, 0, []) (List.mem_of_getElem? (i := 50) rfl)) rfl rfl rfl ?_
              refine zp_load (pc := 88) hx hb (zd_X12_layDay (88, .aload_n 0, 1, 0, []) (List.mem_of_getElem? (i := 51) rfl)) rfl (j := 5) rfl ?_
              refine zp_getf (n := (A 46 : Int)) (pc := 89) hx hb hEξ hwξ (zd_X12_layDay (89, .getfield 125, 3, 0, []) (List.mem_of_getElem? (i := 52) rfl)) (j := 64) rfl rfl rfl (zM_P hMξ (List.mem_of_getElem? (i := 0) rfl)) ((zM_G hMξ (List.mem_of_getElem? (i := 0) rfl) 46).trans (zM_F hMξ (List.mem_of_getElem? (i := 25) rfl))) ?_
              refine zp_load (pc := 92) hx hb (zd_X12_layDay (92, .iload 5, 2, 0, []) (List.mem_of_getElem? (i := 53) rfl)) rfl (j := 1) rfl ?_
              refine zp_load (pc := 94) hx hb (zd_X12_layDay (94, .iload 6, 2, 0, []) (List.mem_of_getElem? (i := 54) rfl)) rfl (j := 0) rfl ?_
              refine zp_const (pc := 96) hx hb (zd_X12_layDay (96, .iconst (-1), 1, 0, []) (List.mem_of_getElem? (i := 55) rfl)) rfl rfl ?_
              refine zp_icmp (pc := 97) (tgt := 117) hx hb (zd_X12_layDay (97, .if_icmp .eq 20, 3, 0, []) (List.mem_of_getElem? (i := 56) rfl)) rfl (fun (hc241ξ : (Rwξ (5 * w9ξ + 43)) = (-1)) => ?_) (fun (hc241ξ : ¬ ((Rwξ (5 * w9ξ + 43)) = (-1))) => ?_)
              · refine zp_const (pc := 117) hx hb (zd_X12_layDay (117, .iconst 1, 1, 0, []) (List.mem_of_getElem? (i := 66) rfl)) rfl rfl ?_
                refine zp_goto (tgt := 122) (pc := 118) hx hb (zd_X12_layDay (118, .goto 4, 3, 0, []) (List.mem_of_getElem? (i := 67) rfl)) rfl ?_
                refine zp_zast (j := w9ξ) (pc := 122) hx hb hwξ heffξ (zd_X12_layDay (122, .bastore, 1, 0, []) (List.mem_of_getElem? (i := 69) rfl)) (show zp_ia 4 83 = some (10, 0, 0, 0, 1) from rfl) (zM_P hMξ (List.mem_of_getElem? (i := 26) rfl)) (by omega) (by omega) (zp_o0 (by omega) (by omega) (by omega) (by omega)) (by omega) rfl ?_
                refine zp_iinc (L' := [(5, 0, ((w9ξ : Int) + 1)), (6, 0, (Rwξ (5 * w9ξ + 43))), (4, 0, (h9ξ : Int)), (2, 0, (zd_pw (zd_ru Rwξ Lwξ p1ξ) p1ξ h9ξ)), (3, 0, (n1ξ : Int)), (0, 2, (A 0 : Int)), (1, 0, p1ξ)]) (n := ((w9ξ : Int) + 1)) (pc := 123) hx hb hnLξ (zd_X12_layDay (123, .iinc 5 1, 3, 0, []) (List.mem_of_getElem? (i := 70) rfl)) (j := 1) rfl (by omega) (zp_r0 (by omega) (by omega)) rfl rfl ?_
                refine zp_goto (tgt := 73) (pc := 126) hx hb (zd_X12_layDay (126, .goto (-53), 3, 0, []) (List.mem_of_getElem? (i := 71) rfl)) rfl ?_
                refine zp_drop (L' := [(5, 0, ((w9ξ : Int) + 1)), (4, 0, (h9ξ : Int)), (2, 0, (zd_pw (zd_ru Rwξ Lwξ p1ξ) p1ξ h9ξ)), (3, 0, (n1ξ : Int)), (0, 2, (A 0 : Int)), (1, 0, p1ξ)]) (by simp) ?_
                refine ihC (w9ξ + 1) (zp_set M 46 (2000 + w9ξ) 1) (zp_set G (A 46) (2000 + w9ξ) 1) (by omega) (zM_setE hMξ (List.mem_of_getElem? (i := 26) rfl)) (fun o k hkξ => (zp_set_ne (zNs_ne hkξ (by decide))).trans (hSξ o k hkξ)) (fun j hjξ => by rw [zp_set_ne (Or.inl (by decide))]; exact hSbξ j hjξ) (zDyh_f hdξ (fun o k h1ξ h2ξ => zp_set_ne (Or.inl (by omega)))) ((zp_set_ne (Or.inl (by decide))).trans h41ξ) (fun w hwξ => ⟨(zp_set_ne (Or.inl (by decide))).trans (hxdξ w hwξ).1, (zp_set_ne (Or.inl (by decide))).trans (hxdξ w hwξ).2⟩) (fun w hwξ => ?_)
                by_cases e9ξ : w = w9ξ
                · rw [e9ξ, hz9ξ]
                  exact zp_set_self
                · exact (zp_set_ne (Or.inr (by omega))).trans (h46ξ w (by omega))
              · exfalso
                omega
            · obtain ⟨a9ξ, ha9ξ⟩ : ∃ a9ξ : Nat, (Rwξ (5 * w9ξ + 43)) = (a9ξ : Int) := zp_nat (by omega)
              rw [ha9ξ]
              rw [ha9ξ] at hahξ
              have hz9ξ : zd_rd Rwξ X0ξ.1 w9ξ = if X0ξ.1 a9ξ = Rwξ (5 * a9ξ + 40) then 1 else 0 := by
                unfold zd_rd
                rw [ha9ξ, Int.toNat_natCast]
                by_cases c9ξ : X0ξ.1 a9ξ = Rwξ (5 * a9ξ + 40)
                · rw [if_pos (Or.inr c9ξ), if_pos c9ξ]
                · rw [if_neg (fun z => z.elim (fun z => by omega) c9ξ), if_neg c9ξ]
              have hmaξ := hDwξ a9ξ (by omega)
              refine zp_store (L' := [(6, 0, (a9ξ : Int)), (5, 0, (w9ξ : Int)), (4, 0, (h9ξ : Int)), (2, 0, (zd_pw (zd_ru Rwξ Lwξ p1ξ) p1ξ h9ξ)), (3, 0, (n1ξ : Int)), (0, 2, (A 0 : Int)), (1, 0, p1ξ)]) (pc := 86) hx hb hnLξ (zd_X12_layDay (86, .istore 6, 2, 0, []) (List.mem_of_getElem? (i := 50) rfl)) rfl rfl rfl ?_
              refine zp_load (pc := 88) hx hb (zd_X12_layDay (88, .aload_n 0, 1, 0, []) (List.mem_of_getElem? (i := 51) rfl)) rfl (j := 5) rfl ?_
              refine zp_getf (n := (A 46 : Int)) (pc := 89) hx hb hEξ hwξ (zd_X12_layDay (89, .getfield 125, 3, 0, []) (List.mem_of_getElem? (i := 52) rfl)) (j := 64) rfl rfl rfl (zM_P hMξ (List.mem_of_getElem? (i := 0) rfl)) ((zM_G hMξ (List.mem_of_getElem? (i := 0) rfl) 46).trans (zM_F hMξ (List.mem_of_getElem? (i := 25) rfl))) ?_
              refine zp_load (pc := 92) hx hb (zd_X12_layDay (92, .iload 5, 2, 0, []) (List.mem_of_getElem? (i := 53) rfl)) rfl (j := 1) rfl ?_
              refine zp_load (pc := 94) hx hb (zd_X12_layDay (94, .iload 6, 2, 0, []) (List.mem_of_getElem? (i := 54) rfl)) rfl (j := 0) rfl ?_
              refine zp_const (pc := 96) hx hb (zd_X12_layDay (96, .iconst (-1), 1, 0, []) (List.mem_of_getElem? (i := 55) rfl)) rfl rfl ?_
              refine zp_icmp (pc := 97) (tgt := 117) hx hb (zd_X12_layDay (97, .if_icmp .eq 20, 3, 0, []) (List.mem_of_getElem? (i := 56) rfl)) rfl (fun (hc242ξ : (a9ξ : Int) = (-1)) => ?_) (fun (hc242ξ : ¬ ((a9ξ : Int) = (-1))) => ?_)
              · exfalso
                omega
              · refine zp_load (pc := 100) hx hb (zd_X12_layDay (100, .aload_n 0, 1, 0, []) (List.mem_of_getElem? (i := 57) rfl)) rfl (j := 5) rfl ?_
                refine zp_getf (n := (A 44 : Int)) (pc := 101) hx hb hEξ hwξ (zd_X12_layDay (101, .getfield 119, 3, 0, []) (List.mem_of_getElem? (i := 58) rfl)) (j := 62) rfl rfl rfl (zM_P hMξ (List.mem_of_getElem? (i := 0) rfl)) ((zM_G hMξ (List.mem_of_getElem? (i := 0) rfl) 44).trans (zM_F hMξ (List.mem_of_getElem? (i := 23) rfl))) ?_
                refine zp_load (pc := 104) hx hb (zd_X12_layDay (104, .iload 6, 2, 0, []) (List.mem_of_getElem? (i := 59) rfl)) rfl (j := 0) rfl ?_
                refine zp_iald (j := a9ξ) (v := (X0ξ.1 a9ξ)) (pc := 106) hx hb hwξ (zd_X12_layDay (106, .iaload, 1, 0, []) (List.mem_of_getElem? (i := 60) rfl)) (show zp_ia 1 81 = some (10, 0, 0, (-2147483648), 2147483647) from rfl) (zM_P hMξ (List.mem_of_getElem? (i := 24) rfl)) (by omega) (by omega) ((zM_G hMξ (List.mem_of_getElem? (i := 24) rfl) (2000 + a9ξ)).trans (hxdξ a9ξ (by omega)).1) (fun hk243ξ => ?_)
                have hk243bξ := zp_int hk243ξ
                clear hk243ξ
                refine zp_load (pc := 107) hx hb (zd_X12_layDay (107, .aload_n 0, 1, 0, []) (List.mem_of_getElem? (i := 61) rfl)) rfl (j := 5) rfl ?_
                refine zp_load (pc := 108) hx hb (zd_X12_layDay (108, .iload 6, 2, 0, []) (List.mem_of_getElem? (i := 62) rfl)) rfl (j := 0) rfl ?_
                refine zp_const (pc := 110) hx hb (zd_X12_layDay (110, .iconst 1, 1, 0, []) (List.mem_of_getElem? (i := 63) rfl)) rfl rfl ?_
                refine zp_call (pc := 111) (how := 0) (idx := 188) (mi := 196) (S := [(0, (X0ξ.1 a9ξ)), (0, (w9ξ : Int)), (2, (A 46 : Int))]) hx hb hEξ hwξ heffξ hrmξ (zX_ofw hWξ A M a9ξ 1) rfl (j := 7) rfl rfl (by decide +kernel) (zd_X12_layDay (111, .invokevirtual 188, 3, 0, []) (List.mem_of_getElem? (i := 64) rfl)) [(A 0 : Int), (a9ξ : Int), 1] rfl ⟨zp_o2 (zM_P hMξ (List.mem_of_getElem? (i := 0) rfl)), zp_o0 (by omega) (by omega) (by omega) (by omega), zp_o0 (by decide) (by decide) (by decide) (by decide), trivial⟩ (Nat.le_of_ble_eq_true rfl) ⟨hMξ, rfl, (show (a9ξ : Int) = ((a9ξ : Nat) : Int) by omega), rfl, (show -2147483648 ≤ M 3 (2000 + (5 * a9ξ + 40)) ∧ M 3 (2000 + (5 * a9ξ + 40)) ≤ 2147483647 by rw [(hRwξ (5 * a9ξ + 40))]; omega)⟩ (fun al halξ rnf244ξ Pf244 Gf244 hextf244ξ hfrf244ξ hokf244ξ hcsf244ξ hpsif244ξ => ?_)
                obtain rfl := List.mem_singleton.mp halξ
                have hrf244ξ := zp_int (hokf244ξ _ rfl).1
                obtain ⟨hPef244ξ, hGef244ξ, htf244ξ⟩ := hpsif244ξ
                rw [hPef244ξ, hGef244ξ]
                clear hextf244ξ hfrf244ξ hcsf244ξ hPef244ξ hGef244ξ
                have htf244ξ : rnf244ξ = (Rwξ (5 * a9ξ + 40)) := (Eq.trans htf244ξ) ((hRwξ (5 * a9ξ + 40)))
                have htf244ξ := (Eq.symm htf244ξ)
                subst htf244ξ
                refine zp_icmp (pc := 114) (tgt := 121) hx hb (zd_X12_layDay (114, .if_icmp .ne 7, 3, 0, []) (List.mem_of_getElem? (i := 65) rfl)) rfl (fun (hc245ξ : ¬ (X0ξ.1 a9ξ) = (Rwξ (5 * a9ξ + 40))) => ?_) (fun (hc245ξ : ¬ (¬ (X0ξ.1 a9ξ) = (Rwξ (5 * a9ξ + 40)))) => ?_)
                · refine zp_const (pc := 121) hx hb (zd_X12_layDay (121, .iconst 0, 1, 0, []) (List.mem_of_getElem? (i := 68) rfl)) rfl rfl ?_
                  refine zp_zast (j := w9ξ) (pc := 122) hx hb hwξ heffξ (zd_X12_layDay (122, .bastore, 1, 0, []) (List.mem_of_getElem? (i := 69) rfl)) (show zp_ia 4 83 = some (10, 0, 0, 0, 1) from rfl) (zM_P hMξ (List.mem_of_getElem? (i := 26) rfl)) (by omega) (by omega) (zp_o0 (by omega) (by omega) (by omega) (by omega)) (by omega) rfl ?_
                  refine zp_iinc (L' := [(5, 0, ((w9ξ : Int) + 1)), (6, 0, (a9ξ : Int)), (4, 0, (h9ξ : Int)), (2, 0, (zd_pw (zd_ru Rwξ Lwξ p1ξ) p1ξ h9ξ)), (3, 0, (n1ξ : Int)), (0, 2, (A 0 : Int)), (1, 0, p1ξ)]) (n := ((w9ξ : Int) + 1)) (pc := 123) hx hb hnLξ (zd_X12_layDay (123, .iinc 5 1, 3, 0, []) (List.mem_of_getElem? (i := 70) rfl)) (j := 1) rfl (by omega) (zp_r0 (by omega) (by omega)) rfl rfl ?_
                  refine zp_goto (tgt := 73) (pc := 126) hx hb (zd_X12_layDay (126, .goto (-53), 3, 0, []) (List.mem_of_getElem? (i := 71) rfl)) rfl ?_
                  refine zp_drop (L' := [(5, 0, ((w9ξ : Int) + 1)), (4, 0, (h9ξ : Int)), (2, 0, (zd_pw (zd_ru Rwξ Lwξ p1ξ) p1ξ h9ξ)), (3, 0, (n1ξ : Int)), (0, 2, (A 0 : Int)), (1, 0, p1ξ)]) (by simp) ?_
                  refine ihC (w9ξ + 1) (zp_set M 46 (2000 + w9ξ) 0) (zp_set G (A 46) (2000 + w9ξ) 0) (by omega) (zM_setE hMξ (List.mem_of_getElem? (i := 26) rfl)) (fun o k hkξ => (zp_set_ne (zNs_ne hkξ (by decide))).trans (hSξ o k hkξ)) (fun j hjξ => by rw [zp_set_ne (Or.inl (by decide))]; exact hSbξ j hjξ) (zDyh_f hdξ (fun o k h1ξ h2ξ => zp_set_ne (Or.inl (by omega)))) ((zp_set_ne (Or.inl (by decide))).trans h41ξ) (fun w hwξ => ⟨(zp_set_ne (Or.inl (by decide))).trans (hxdξ w hwξ).1, (zp_set_ne (Or.inl (by decide))).trans (hxdξ w hwξ).2⟩) (fun w hwξ => ?_)
                  by_cases e9ξ : w = w9ξ
                  · rw [e9ξ, hz9ξ]
                    exact zp_set_self.trans (if_neg (by omega)).symm
                  · exact (zp_set_ne (Or.inr (by omega))).trans (h46ξ w (by omega))
                · refine zp_const (pc := 117) hx hb (zd_X12_layDay (117, .iconst 1, 1, 0, []) (List.mem_of_getElem? (i := 66) rfl)) rfl rfl ?_
                  refine zp_goto (tgt := 122) (pc := 118) hx hb (zd_X12_layDay (118, .goto 4, 3, 0, []) (List.mem_of_getElem? (i := 67) rfl)) rfl ?_
                  refine zp_zast (j := w9ξ) (pc := 122) hx hb hwξ heffξ (zd_X12_layDay (122, .bastore, 1, 0, []) (List.mem_of_getElem? (i := 69) rfl)) (show zp_ia 4 83 = some (10, 0, 0, 0, 1) from rfl) (zM_P hMξ (List.mem_of_getElem? (i := 26) rfl)) (by omega) (by omega) (zp_o0 (by omega) (by omega) (by omega) (by omega)) (by omega) rfl ?_
                  refine zp_iinc (L' := [(5, 0, ((w9ξ : Int) + 1)), (6, 0, (a9ξ : Int)), (4, 0, (h9ξ : Int)), (2, 0, (zd_pw (zd_ru Rwξ Lwξ p1ξ) p1ξ h9ξ)), (3, 0, (n1ξ : Int)), (0, 2, (A 0 : Int)), (1, 0, p1ξ)]) (n := ((w9ξ : Int) + 1)) (pc := 123) hx hb hnLξ (zd_X12_layDay (123, .iinc 5 1, 3, 0, []) (List.mem_of_getElem? (i := 70) rfl)) (j := 1) rfl (by omega) (zp_r0 (by omega) (by omega)) rfl rfl ?_
                  refine zp_goto (tgt := 73) (pc := 126) hx hb (zd_X12_layDay (126, .goto (-53), 3, 0, []) (List.mem_of_getElem? (i := 71) rfl)) rfl ?_
                  refine zp_drop (L' := [(5, 0, ((w9ξ : Int) + 1)), (4, 0, (h9ξ : Int)), (2, 0, (zd_pw (zd_ru Rwξ Lwξ p1ξ) p1ξ h9ξ)), (3, 0, (n1ξ : Int)), (0, 2, (A 0 : Int)), (1, 0, p1ξ)]) (by simp) ?_
                  refine ihC (w9ξ + 1) (zp_set M 46 (2000 + w9ξ) 1) (zp_set G (A 46) (2000 + w9ξ) 1) (by omega) (zM_setE hMξ (List.mem_of_getElem? (i := 26) rfl)) (fun o k hkξ => (zp_set_ne (zNs_ne hkξ (by decide))).trans (hSξ o k hkξ)) (fun j hjξ => by rw [zp_set_ne (Or.inl (by decide))]; exact hSbξ j hjξ) (zDyh_f hdξ (fun o k h1ξ h2ξ => zp_set_ne (Or.inl (by omega)))) ((zp_set_ne (Or.inl (by decide))).trans h41ξ) (fun w hwξ => ⟨(zp_set_ne (Or.inl (by decide))).trans (hxdξ w hwξ).1, (zp_set_ne (Or.inl (by decide))).trans (hxdξ w hwξ).2⟩) (fun w hwξ => ?_)
                  by_cases e9ξ : w = w9ξ
                  · rw [e9ξ, hz9ξ]
                    exact zp_set_self.trans (if_pos (by omega)).symm
                  · exact (zp_set_ne (Or.inr (by omega))).trans (h46ξ w (by omega))
      have hRwξ : ∀ j, M 3 (2000 + j) = Rwξ j := fun j => (hSξ 3 _ (Or.inl (by decide))).trans (hRw0ξ j)
      have hRξ : zRb M := fun j hjξ => by rw [hRwξ]; exact hRbξ j hjξ
      have k47 : M 0 47 = -1 := (hSξ 0 47 (Or.inr (by decide))).trans h47ξ
      have k20 : M 0 20 = 0 := (hSξ 0 20 (Or.inr (by decide))).trans h20ξ
      refine zp_load (pc := 55) hx hb (zd_X12_layDay (55, .iload 4, 2, 0, []) (List.mem_of_getElem? (i := 33) rfl)) rfl (j := 0) rfl ?_
      refine zp_const (pc := 57) hx hb (zd_X12_layDay (57, .bipush 24, 2, 0, []) (List.mem_of_getElem? (i := 34) rfl)) rfl rfl ?_
      refine zp_icmp (pc := 59) (tgt := 309) hx hb (zd_X12_layDay (59, .if_icmp .ge 250, 3, 0, []) (List.mem_of_getElem? (i := 35) rfl)) rfl (fun (hc246ξ : 24 ≤ (h9ξ : Int)) => ?_) (fun (hc246ξ : ¬ (24 ≤ (h9ξ : Int))) => ?_)
      · exfalso
        omega
      · refine zp_load (pc := 62) hx hb (zd_X12_layDay (62, .aload_n 0, 1, 0, []) (List.mem_of_getElem? (i := 36) rfl)) rfl (j := 3) rfl ?_
        refine zp_getf (n := (A 41 : Int)) (pc := 63) hx hb hEξ hwξ (zd_X12_layDay (63, .getfield 110, 3, 0, []) (List.mem_of_getElem? (i := 37) rfl)) (j := 59) rfl rfl rfl (zM_P hMξ (List.mem_of_getElem? (i := 0) rfl)) ((zM_G hMξ (List.mem_of_getElem? (i := 0) rfl) 41).trans (zM_F hMξ (List.mem_of_getElem? (i := 20) rfl))) ?_
        refine zp_load (pc := 66) hx hb (zd_X12_layDay (66, .iload 4, 2, 0, []) (List.mem_of_getElem? (i := 38) rfl)) rfl (j := 0) rfl ?_
        refine zp_load (pc := 68) hx hb (zd_X12_layDay (68, .iload_n 2, 1, 0, []) (List.mem_of_getElem? (i := 39) rfl)) rfl (j := 1) rfl ?_
        refine zp_iast (j := h9ξ) (pc := 69) hx hb hwξ heffξ (zd_X12_layDay (69, .iastore, 1, 0, []) (List.mem_of_getElem? (i := 40) rfl)) (show zp_ia 1 78 = some (24, 0, 0, (-2147483648), 2147483647) from rfl) (zM_P hMξ (List.mem_of_getElem? (i := 21) rfl)) (by omega) (by omega) (zp_o0 (by omega) (by omega) (by omega) (by omega)) rfl ?_
        refine zp_const (pc := 70) hx hb (zd_X12_layDay (70, .iconst 0, 1, 0, []) (List.mem_of_getElem? (i := 41) rfl)) rfl rfl ?_
        refine zp_store (L' := [(5, 0, 0), (4, 0, (h9ξ : Int)), (2, 0, (zd_pw (zd_ru Rwξ Lwξ p1ξ) p1ξ h9ξ)), (3, 0, (n1ξ : Int)), (0, 2, (A 0 : Int)), (1, 0, p1ξ)]) (pc := 71) hx hb hnLξ (zd_X12_layDay (71, .istore 5, 2, 0, []) (List.mem_of_getElem? (i := 42) rfl)) rfl rfl rfl ?_
        refine zp_drop (L' := [(5, 0, 0), (4, 0, (h9ξ : Int)), (2, 0, (zd_pw (zd_ru Rwξ Lwξ p1ξ) p1ξ h9ξ)), (3, 0, (n1ξ : Int)), (0, 2, (A 0 : Int)), (1, 0, p1ξ)]) (by simp) ?_
        exact loopC n1ξ 0 (zp_set M 41 (2000 + h9ξ) (zd_pw (zd_ru Rwξ Lwξ p1ξ) p1ξ h9ξ)) (zp_set G (A 41) (2000 + h9ξ) (zd_pw (zd_ru Rwξ Lwξ p1ξ) p1ξ h9ξ)) (by omega) (zM_setE hMξ (List.mem_of_getElem? (i := 21) rfl)) (fun o k hkξ => (zp_set_ne (zNs_ne hkξ (by decide))).trans (hSξ o k hkξ)) (fun j hjξ => by rw [zp_set_ne (Or.inl (by decide))]; exact hSbξ j hjξ) ⟨fun g p hgξ hpξ => (zp_set_ne (Or.inl (by decide))).trans (hdξ.1 g p hgξ hpξ), fun g hgξ => (zp_set_ne (Or.inr (by omega))).trans (hdξ.2.1 g hgξ), fun g w hgξ hwξ => (zp_set_ne (Or.inl (by decide))).trans (hdξ.2.2 g w hgξ hwξ)⟩ zp_set_self (fun w hwξ => ⟨(zp_set_ne (Or.inl (by decide))).trans (hx9ξ w hwξ).1, (zp_set_ne (Or.inl (by decide))).trans (hx9ξ w hwξ).2⟩) (fun w hwξ => absurd hwξ (Nat.not_lt_zero w))
  have loopA : ∀ (r9ξ w9ξ : Nat) (M : Nat → Nat → Int) (G : Nat → Nat → Int), r9ξ + w9ξ = n1ξ → zM A zYr zFr M u.1 G → (∀ o k, zNs o k → M o k = M0ξ o k) → zSb M → (∀ w, w < w9ξ → M 44 (2000 + w) = Rwξ (w + 29) ∧ M 45 (2000 + w) = -1) → zp_J p l e R s m args below meth c Q w u [] 15 [(4, 0, (w9ξ : Int)), (3, 0, (n1ξ : Int)), (2, 0, (100 * p1ξ)), (0, 2, (A 0 : Int)), (1, 0, p1ξ)] [] u.1 G := by
    intro r9ξ
    induction r9ξ with
    | zero =>
      intro w9ξ M G hrξ hMξ hSξ hSbξ hxdξ
      obtain rfl : w9ξ = n1ξ := by omega
      have hRwξ : ∀ j, M 3 (2000 + j) = Rwξ j := fun j => (hSξ 3 _ (Or.inl (by decide))).trans (hRw0ξ j)
      have hRξ : zRb M := fun j hjξ => by rw [hRwξ]; exact hRbξ j hjξ
      have k47 : M 0 47 = -1 := (hSξ 0 47 (Or.inr (by decide))).trans h47ξ
      have k20 : M 0 20 = 0 := (hSξ 0 20 (Or.inr (by decide))).trans h20ξ
      refine zp_load (pc := 15) hx hb (zd_X12_layDay (15, .iload 4, 2, 0, []) (List.mem_of_getElem? (i := 11) rfl)) rfl (j := 0) rfl ?_
      refine zp_load (pc := 17) hx hb (zd_X12_layDay (17, .iload_n 3, 1, 0, []) (List.mem_of_getElem? (i := 12) rfl)) rfl (j := 1) rfl ?_
      refine zp_icmp (pc := 18) (tgt := 52) hx hb (zd_X12_layDay (18, .if_icmp .ge 34, 3, 0, []) (List.mem_of_getElem? (i := 13) rfl)) rfl (fun (hc247ξ : (w9ξ : Int) ≤ (w9ξ : Int)) => ?_) (fun (hc247ξ : ¬ ((w9ξ : Int) ≤ (w9ξ : Int))) => ?_)
      · refine zp_const (pc := 52) hx hb (zd_X12_layDay (52, .iconst 0, 1, 0, []) (List.mem_of_getElem? (i := 31) rfl)) rfl rfl ?_
        refine zp_store (L' := [(4, 0, 0), (3, 0, (w9ξ : Int)), (2, 0, (100 * p1ξ)), (0, 2, (A 0 : Int)), (1, 0, p1ξ)]) (pc := 53) hx hb hnLξ (zd_X12_layDay (53, .istore 4, 2, 0, []) (List.mem_of_getElem? (i := 32) rfl)) rfl rfl rfl ?_
        refine zp_drop (L' := [(4, 0, 0), (2, 0, (100 * p1ξ)), (3, 0, (w9ξ : Int)), (0, 2, (A 0 : Int)), (1, 0, p1ξ)]) (by simp) ?_
        exact loopB 24 0 M G (by omega) hMξ hSξ hSbξ ⟨fun g p hgξ => absurd hgξ (Nat.not_lt_zero g), fun g hgξ => absurd hgξ (Nat.not_lt_zero g), fun g w hgξ => absurd hgξ (Nat.not_lt_zero g)⟩ hxdξ
      · exfalso
        omega
    | succ r9ξ ihA =>
      intro w9ξ M G hrξ hMξ hSξ hSbξ hxdξ
      have hRwξ : ∀ j, M 3 (2000 + j) = Rwξ j := fun j => (hSξ 3 _ (Or.inl (by decide))).trans (hRw0ξ j)
      have hRξ : zRb M := fun j hjξ => by rw [hRwξ]; exact hRbξ j hjξ
      have k47 : M 0 47 = -1 := (hSξ 0 47 (Or.inr (by decide))).trans h47ξ
      have k20 : M 0 20 = 0 := (hSξ 0 20 (Or.inr (by decide))).trans h20ξ
      have hdbξ := hDwξ w9ξ (by omega)
      refine zp_load (pc := 15) hx hb (zd_X12_layDay (15, .iload 4, 2, 0, []) (List.mem_of_getElem? (i := 11) rfl)) rfl (j := 0) rfl ?_
      refine zp_load (pc := 17) hx hb (zd_X12_layDay (17, .iload_n 3, 1, 0, []) (List.mem_of_getElem? (i := 12) rfl)) rfl (j := 1) rfl ?_
      refine zp_icmp (pc := 18) (tgt := 52) hx hb (zd_X12_layDay (18, .if_icmp .ge 34, 3, 0, []) (List.mem_of_getElem? (i := 13) rfl)) rfl (fun (hc248ξ : (n1ξ : Int) ≤ (w9ξ : Int)) => ?_) (fun (hc248ξ : ¬ ((n1ξ : Int) ≤ (w9ξ : Int))) => ?_)
      · exfalso
        omega
      · refine zp_load (pc := 21) hx hb (zd_X12_layDay (21, .aload_n 0, 1, 0, []) (List.mem_of_getElem? (i := 14) rfl)) rfl (j := 3) rfl ?_
        refine zp_getf (n := (A 44 : Int)) (pc := 22) hx hb hEξ hwξ (zd_X12_layDay (22, .getfield 119, 3, 0, []) (List.mem_of_getElem? (i := 15) rfl)) (j := 62) rfl rfl rfl (zM_P hMξ (List.mem_of_getElem? (i := 0) rfl)) ((zM_G hMξ (List.mem_of_getElem? (i := 0) rfl) 44).trans (zM_F hMξ (List.mem_of_getElem? (i := 23) rfl))) ?_
        refine zp_load (pc := 25) hx hb (zd_X12_layDay (25, .iload 4, 2, 0, []) (List.mem_of_getElem? (i := 16) rfl)) rfl (j := 0) rfl ?_
        refine zp_load (pc := 27) hx hb (zd_X12_layDay (27, .aload_n 0, 1, 0, []) (List.mem_of_getElem? (i := 17) rfl)) rfl (j := 3) rfl ?_
        refine zp_getf (n := (A 3 : Int)) (pc := 28) hx hb hEξ hwξ (zd_X12_layDay (28, .getfield 13, 3, 0, []) (List.mem_of_getElem? (i := 18) rfl)) (j := 21) rfl rfl rfl (zM_P hMξ (List.mem_of_getElem? (i := 0) rfl)) ((zM_G hMξ (List.mem_of_getElem? (i := 0) rfl) 3).trans (zM_F hMξ (List.mem_of_getElem? (i := 1) rfl))) ?_
        refine zp_const (pc := 31) hx hb (zd_X12_layDay (31, .bipush 29, 2, 0, []) (List.mem_of_getElem? (i := 19) rfl)) rfl rfl ?_
        refine zp_load (pc := 33) hx hb (zd_X12_layDay (33, .iload 4, 2, 0, []) (List.mem_of_getElem? (i := 20) rfl)) rfl (j := 0) rfl ?_
        refine zp_add (n := ((w9ξ : Int) + 29)) (pc := 35) hx hb (zd_X12_layDay (35, .iadd, 1, 0, []) (List.mem_of_getElem? (i := 21) rfl)) (by omega) (zp_r0 (by omega) (by omega)) ?_
        refine zp_ialdT (j := (w9ξ + 29)) (v := (Rwξ (w9ξ + 29))) (pc := 36) hx hb hwξ (zd_X12_layDay (36, .iaload, 1, 0, []) (List.mem_of_getElem? (i := 22) rfl)) zl_T59 rfl (zl_kd ((w9ξ + 29))) (zM_P hMξ (List.mem_of_getElem? (i := 2) rfl)) (by omega) (show (w9ξ + 29) < 5580 by omega) ((zM_G hMξ (List.mem_of_getElem? (i := 2) rfl) (2000 + (w9ξ + 29))).trans (hRwξ (w9ξ + 29))) (fun _ => ?_)
        refine zp_iast (j := w9ξ) (pc := 37) hx hb hwξ heffξ (zd_X12_layDay (37, .iastore, 1, 0, []) (List.mem_of_getElem? (i := 23) rfl)) (show zp_ia 1 81 = some (10, 0, 0, (-2147483648), 2147483647) from rfl) (zM_P hMξ (List.mem_of_getElem? (i := 24) rfl)) (by omega) (by omega) (zp_o0 (by omega) (by omega) (by omega) (by omega)) rfl ?_
        refine zp_load (pc := 38) hx hb (zd_X12_layDay (38, .aload_n 0, 1, 0, []) (List.mem_of_getElem? (i := 24) rfl)) rfl (j := 3) rfl ?_
        refine zp_getf (n := (A 45 : Int)) (pc := 39) hx hb hEξ hwξ (zd_X12_layDay (39, .getfield 122, 3, 0, []) (List.mem_of_getElem? (i := 25) rfl)) (j := 63) rfl rfl rfl (zM_P hMξ (List.mem_of_getElem? (i := 0) rfl)) ((zp_set_ne (Or.inl (zM_ne hMξ (List.mem_of_getElem? (i := 0) rfl) (List.mem_of_getElem? (i := 24) rfl) (by decide)))).trans (((zM_G hMξ (List.mem_of_getElem? (i := 0) rfl) 45).trans (zM_F hMξ (List.mem_of_getElem? (i := 24) rfl))))) ?_
        refine zp_load (pc := 42) hx hb (zd_X12_layDay (42, .iload 4, 2, 0, []) (List.mem_of_getElem? (i := 26) rfl)) rfl (j := 0) rfl ?_
        refine zp_const (pc := 44) hx hb (zd_X12_layDay (44, .iconst (-1), 1, 0, []) (List.mem_of_getElem? (i := 27) rfl)) rfl rfl ?_
        refine zp_iast (j := w9ξ) (pc := 45) hx hb hwξ heffξ (zd_X12_layDay (45, .iastore, 1, 0, []) (List.mem_of_getElem? (i := 28) rfl)) (show zp_ia 1 82 = some (10, 0, 0, (-2147483648), 2147483647) from rfl) (zM_P hMξ (List.mem_of_getElem? (i := 25) rfl)) (by omega) (by omega) (zp_o0 (by omega) (by omega) (by omega) (by omega)) rfl ?_
        refine zp_iinc (L' := [(4, 0, ((w9ξ : Int) + 1)), (3, 0, (n1ξ : Int)), (2, 0, (100 * p1ξ)), (0, 2, (A 0 : Int)), (1, 0, p1ξ)]) (n := ((w9ξ : Int) + 1)) (pc := 46) hx hb hnLξ (zd_X12_layDay (46, .iinc 4 1, 3, 0, []) (List.mem_of_getElem? (i := 29) rfl)) (j := 0) rfl (by omega) (zp_r0 (by omega) (by omega)) rfl rfl ?_
        refine zp_goto (tgt := 15) (pc := 49) hx hb (zd_X12_layDay (49, .goto (-34), 3, 0, []) (List.mem_of_getElem? (i := 30) rfl)) rfl ?_
        refine zp_drop (L' := [(4, 0, ((w9ξ : Int) + 1)), (3, 0, (n1ξ : Int)), (2, 0, (100 * p1ξ)), (0, 2, (A 0 : Int)), (1, 0, p1ξ)]) (by simp) ?_
        refine ihA (w9ξ + 1) (zp_set (zp_set M 44 (2000 + w9ξ) (Rwξ (w9ξ + 29))) 45 (2000 + w9ξ) (-1)) (zp_set (zp_set G (A 44) (2000 + w9ξ) (Rwξ (w9ξ + 29))) (A 45) (2000 + w9ξ) (-1)) (by omega) (zM_setE (zM_setE hMξ (List.mem_of_getElem? (i := 24) rfl)) (List.mem_of_getElem? (i := 25) rfl)) (fun o k hkξ => (zp_set_ne (zNs_ne hkξ (by decide))).trans ((zp_set_ne (zNs_ne hkξ (by decide))).trans (hSξ o k hkξ))) (fun j hjξ => by rw [zp_set_ne (Or.inl (by decide)), zp_set_ne (Or.inl (by decide))]; exact hSbξ j hjξ) (fun w hwξ => ?_)
        by_cases e9ξ : w = w9ξ
        · rw [e9ξ]
          exact ⟨(zp_set_ne (Or.inl (by decide))).trans zp_set_self, zp_set_self⟩
        · exact ⟨(zp_set_ne (Or.inl (by decide))).trans ((zp_set_ne (Or.inr (by omega))).trans (hxdξ w (by omega)).1), (zp_set_ne (Or.inr (by omega))).trans ((zp_set_ne (Or.inl (by decide))).trans (hxdξ w (by omega)).2)⟩
  have hSξ : ∀ o k, zNs o k → M o k = M0ξ o k := fun o k _ => by rw [hM0ξ]
  have hSbξ : zSb M := hSb0ξ
  have hRwξ : ∀ j, M 3 (2000 + j) = Rwξ j := fun j => (hSξ 3 _ (Or.inl (by decide))).trans (hRw0ξ j)
  have hRξ : zRb M := fun j hjξ => by rw [hRwξ]; exact hRbξ j hjξ
  have k47 : M 0 47 = -1 := (hSξ 0 47 (Or.inr (by decide))).trans h47ξ
  have k20 : M 0 20 = 0 := (hSξ 0 20 (Or.inr (by decide))).trans h20ξ
  refine zp_const (pc := 0) hx hb (zd_X12_layDay (0, .bipush 100, 2, 0, []) (List.mem_of_getElem? (i := 0) rfl)) rfl rfl ?_
  refine zp_load (pc := 2) hx hb (zd_X12_layDay (2, .iload_n 1, 1, 0, []) (List.mem_of_getElem? (i := 1) rfl)) rfl (j := 1) rfl ?_
  refine zp_mul (n := (100 * p1ξ)) (pc := 3) hx hb (zd_X12_layDay (3, .imul, 1, 0, []) (List.mem_of_getElem? (i := 2) rfl)) (by omega) (zp_r0 (by omega) (by omega)) ?_
  refine zp_store (L' := [(2, 0, (100 * p1ξ)), (0, 2, (A 0 : Int)), (1, 0, p1ξ)]) (pc := 4) hx hb hnLξ (zd_X12_layDay (4, .istore_n 2, 1, 0, []) (List.mem_of_getElem? (i := 3) rfl)) rfl rfl rfl ?_
  refine zp_load (pc := 5) hx hb (zd_X12_layDay (5, .aload_n 0, 1, 0, []) (List.mem_of_getElem? (i := 4) rfl)) rfl (j := 1) rfl ?_
  refine zp_getf (n := (A 3 : Int)) (pc := 6) hx hb hEξ hwξ (zd_X12_layDay (6, .getfield 13, 3, 0, []) (List.mem_of_getElem? (i := 5) rfl)) (j := 21) rfl rfl rfl (zM_P hMξ (List.mem_of_getElem? (i := 0) rfl)) ((zM_G hMξ (List.mem_of_getElem? (i := 0) rfl) 3).trans (zM_F hMξ (List.mem_of_getElem? (i := 1) rfl))) ?_
  refine zp_const (pc := 9) hx hb (zd_X12_layDay (9, .iconst 1, 1, 0, []) (List.mem_of_getElem? (i := 6) rfl)) rfl rfl ?_
  refine zp_ialdT (j := 1) (v := (n1ξ : Int)) (pc := 10) hx hb hwξ (zd_X12_layDay (10, .iaload, 1, 0, []) (List.mem_of_getElem? (i := 7) rfl)) zl_T59 rfl (zl_kd 1) (zM_P hMξ (List.mem_of_getElem? (i := 2) rfl)) (by omega) (show 1 < 5580 by omega) ((zM_G hMξ (List.mem_of_getElem? (i := 2) rfl) (2000 + 1)).trans ((hRwξ 1).trans hn1ξ)) (fun _ => ?_)
  refine zp_store (L' := [(3, 0, (n1ξ : Int)), (2, 0, (100 * p1ξ)), (0, 2, (A 0 : Int)), (1, 0, p1ξ)]) (pc := 11) hx hb hnLξ (zd_X12_layDay (11, .istore_n 3, 1, 0, []) (List.mem_of_getElem? (i := 8) rfl)) rfl rfl rfl ?_
  refine zp_const (pc := 12) hx hb (zd_X12_layDay (12, .iconst 0, 1, 0, []) (List.mem_of_getElem? (i := 9) rfl)) rfl rfl ?_
  refine zp_store (L' := [(4, 0, 0), (3, 0, (n1ξ : Int)), (2, 0, (100 * p1ξ)), (0, 2, (A 0 : Int)), (1, 0, p1ξ)]) (pc := 13) hx hb hnLξ (zd_X12_layDay (13, .istore 4, 2, 0, []) (List.mem_of_getElem? (i := 10) rfl)) rfl rfl rfl ?_
  refine zp_drop (L' := [(4, 0, 0), (3, 0, (n1ξ : Int)), (2, 0, (100 * p1ξ)), (0, 2, (A 0 : Int)), (1, 0, p1ξ)]) (by simp) ?_
  exact loopA n1ξ 0 M (zp_n u.2.1) (by omega) hMξ hSξ hSbξ (fun w hwξ => absurd hwξ (Nat.not_lt_zero w))
