/-! part lu: the reference over logical cells: decade -/
/-- a morning: wound by what is drawn, if nothing stands -/
noncomputable def zr_m (V : Nat → Nat → Int) (L : List yK) : Nat → Nat → Int := if V 3 (2000 + 10) = -1 ∧ V 3 (2000 + 9) = 0 then (zf_drm V (V 0 61) L).2 else V
/-- days: howξ many works ended, howξ many days were run, what stands -/
noncomputable def zr_dc (n npξ : Nat) (L : List yK) : Nat → Int → Int → (Nat → Nat → Int) → Int × Int × (Nat → Nat → Int)
  | 0, e, r, V => (e, r, V)
  | k + 1, e, r, V => if 999 ≤ V 3 (2000 + 5) then (e, r, V) else if (zr_m V L) 3 (2000 + 10) = -1 then zr_dc n npξ L k e r (zp_set (zr_m V L) 3 (2000 + 5) ((zr_m V L) 3 (2000 + 5) + 1)) else zr_dc n npξ L k (e + (zf_rud (zr_m V L) n npξ L).1) (r + 1) (zf_rud (zr_m V L) n npξ L).2
/-- what a decade leaves alone -/
noncomputable def zDkq (V V' : Nat → Nat → Int) : Prop := ∀ o k, ¬ (o = 3 ∧ 2005 ≤ k ∧ k < 2039) → (o ≠ 0 ∨ k ≠ 61) → V' o k = V o k
theorem zDk_t {V V' V'' : Nat → Nat → Int} (h : zDkq V V') (h' : zDkq V' V'') : zDkq V V'' := fun o k h1ξ h2ξ => (h' o k h1ξ h2ξ).trans (h o k h1ξ h2ξ)
theorem zDk_3 {V : Nat → Nat → Int} {j : Nat} {v : Int} (h5ξ : 5 ≤ j) (h39ξ : j < 39) : zDkq V (zp_set V 3 (2000 + j) v) := fun o k h1ξ h2ξ => zp_set_ne (by omega)
theorem zDk_61 {V : Nat → Nat → Int} {v : Int} : zDkq V (zp_set V 0 61 v) := fun o k h1ξ h2ξ => zp_set_ne (by omega)
theorem zDk_dn {V : Nat → Nat → Int} {X : (Nat → Int) × (Nat → Int)} : ∀ {w : Nat}, w ≤ 10 → zDkq V (zc_dn V X w)
  | 0, _ => fun _ _ _ _ => rfl
  | w + 1, h => zDk_t (zDk_dn (w := w) (by omega)) (zDk_3 (by omega) (by omega))
theorem zDk_pl {V : Nat → Nat → Int} : ∀ {p : Nat}, p ≤ 6 → zDkq V (zc_pl V p)
  | 0, _ => fun _ _ _ _ => rfl
  | p + 1, h => zDk_t (zDk_pl (p := p) (by omega)) (zDk_t (zDk_3 (by omega) (by omega)) (zDk_3 (by omega) (by omega)))
theorem zDk_rud {V : Nat → Nat → Int} {n npξ : Nat} {L : List yK} (hnξ : n ≤ 10) (hpξ : npξ ≤ 6) : zDkq V (zf_rud V n npξ L).2 := zDk_t (zDk_t (zDk_t (zDk_dn hnξ) (zDk_pl hpξ)) (zDk_3 (by decide) (by decide))) (zDk_3 (by decide) (by decide))
theorem zDk_wea {V : Nat → Nat → Int} {L : List yK} {t : Int} : zDkq V (zf_wea V L t).2 := by
  unfold zf_wea
  split
  · exact zDk_t (zDk_t (zDk_3 (by decide) (by decide)) (zDk_3 (by decide) (by decide))) (zDk_3 (by decide) (by decide))
  · exact zDk_t (zDk_t (zDk_3 (by decide) (by decide)) (zDk_3 (by decide) (by decide))) (zDk_3 (by decide) (by decide))
theorem zDk_drm {V : Nat → Nat → Int} {L : List yK} {s : Int} : zDkq V (zf_drm V s L).2 := by
  unfold zf_drm
  repeat' split
  all_goals first | exact zDk_t (zDk_t zDk_61 zDk_61) zDk_wea | exact zDk_t (zDk_t zDk_61 zDk_61) (zDk_3 (by decide) (by decide))
theorem zDk_m {V : Nat → Nat → Int} {L : List yK} : zDkq V (zr_m V L) := by
  unfold zr_m
  split
  · exact zDk_drm
  · exact fun _ _ _ _ => rfl
theorem zf_wea_61 {V : Nat → Nat → Int} {L : List yK} {t : Int} : (zf_wea V L t).2 0 61 = V 0 61 := by
  unfold zf_wea
  split <;> (dsimp only; rw [zp_set_ne (Or.inl (by decide)), zp_set_ne (Or.inl (by decide)), zp_set_ne (Or.inl (by decide))])
theorem zf_drm_61 {V : Nat → Nat → Int} {L : List yK} {s : Int} : (zf_drm V s L).2 0 61 = zq_nx (zq_nx s) := by
  unfold zf_drm
  repeat' split
  all_goals (dsimp only; first | (rw [zf_wea_61, zp_set_self]) | (rw [zp_set_ne (Or.inl (by decide)), zp_set_self]))
/-- what holdsξ at a day of a decade -/
noncomputable def zDi (V : Nat → Nat → Int) (nuξ n1ξ npξ : Nat) (L : List yK) : Prop := zRI V nuξ n1ξ npξ L ∧ (0 ≤ V 0 61 ∧ V 0 61 ≤ 1000002) ∧ 0 ≤ V 3 (2000 + 6) ∧ V 3 (2000 + 6) ≤ 12
theorem zDi_drm {V : Nat → Nat → Int} {nuξ n1ξ npξ : Nat} {L : List yK} (h : zDi V nuξ n1ξ npξ L) : zDi (zf_drm V (V 0 61) L).2 nuξ n1ξ npξ L := by
  obtain ⟨h1ξ, h2ξ, h3ξ, h4ξ⟩ := h
  have h5ξ : ∀ a b : Int, zRI (zp_set (zp_set V 0 61 a) 0 61 b) nuξ n1ξ npξ L := fun a b => zRI_o (by decide) (Or.inr (by decide)) (zRI_o (by decide) (Or.inr (by decide)) h1ξ)
  have e6 : (zf_drm V (V 0 61) L).2 3 (2000 + 6) = V 3 (2000 + 6) := by
    have hkξ := zq_nxb (s := V 0 61)
    unfold zf_drm zf_wea
    repeat' split
    all_goals (dsimp only; repeat rw [zp_set_ne (by omega)])
  have hnξ := zq_nxb (s := V 0 61)
  refine ⟨?_, ?_, by rw [e6]; exact h3ξ, by rw [e6]; exact h4ξ⟩
  · unfold zf_drm
    repeat' split
    all_goals first | exact zRI_wea (by omega) (by omega) (h5ξ _ _) | (refine zRI_3 (by decide) (by decide) ?_ (h5ξ _ _); refine ⟨?_, ?_, ?_, ?_, ?_, ?_⟩ <;> intros <;> omega)
  · rw [zf_drm_61]
    exact zq_nxb
theorem zDi_m {V : Nat → Nat → Int} {nuξ n1ξ npξ : Nat} {L : List yK} (h : zDi V nuξ n1ξ npξ L) : zDi (zr_m V L) nuξ n1ξ npξ L := by
  unfold zr_m
  split
  · exact zDi_drm h
  · exact h
theorem zRI_rud {V : Nat → Nat → Int} {nuξ n1ξ npξ : Nat} {L : List yK} (h : zRI V nuξ n1ξ npξ L) (hdξ : V 3 (2000 + 5) < 999) : zRI (zf_rud V n1ξ npξ L).2 nuξ n1ξ npξ L := by
  have hd5ξ := h.2.2.2.2.2.1
  have hXξ : ∀ w, w < n1ξ → 0 ≤ (zd_X V n1ξ npξ L (V 3 (2000 + 10))).1 w ∧ (zd_X V n1ξ npξ L (V 3 (2000 + 10))).1 w ≤ 600 := fun w hwξ => zd_hrb h.2.2.1 hwξ
  have h6ξ := zRI_pl (zRI_dn hXξ h (Nat.le_refl _)) (Nat.le_refl npξ)
  show zRI (zp_set (zp_set _ 3 (2000 + 10) (-1)) 3 (2000 + 5) (V 3 (2000 + 5) + 1)) nuξ n1ξ npξ L
  refine zRI_3 (by decide) (by decide) ?_ (zRI_3 (by decide) (by decide) ?_ h6ξ)
  · refine ⟨?_, ?_, ?_, ?_, ?_, ?_⟩ <;> intros <;> omega
  · refine ⟨?_, ?_, ?_, ?_, ?_, ?_⟩ <;> intros <;> omega
theorem zf_rud_6 {V : Nat → Nat → Int} {n1ξ npξ : Nat} {L : List yK} : (zf_rud V n1ξ npξ L).2 3 (2000 + 6) = V 3 (2000 + 6) ∧ (zf_rud V n1ξ npξ L).2 0 61 = V 0 61 :=
  ⟨show zp_set (zp_set _ 3 (2000 + 10) (-1)) 3 (2000 + 5) (V 3 (2000 + 5) + 1) 3 (2000 + 6) = V 3 (2000 + 6) from (zp_set_ne (Or.inr (by decide))).trans ((zp_set_ne (Or.inr (by decide))).trans ((zc_pl_n (by omega)).trans (zc_dn_n (by omega)))), show zp_set (zp_set _ 3 (2000 + 10) (-1)) 3 (2000 + 5) (V 3 (2000 + 5) + 1) 0 61 = V 0 61 from (zp_set_ne (Or.inl (by decide))).trans ((zp_set_ne (Or.inl (by decide))).trans ((zc_pl_o (by decide)).trans (zc_dn_o (by decide))))⟩
theorem zDi_rud {V : Nat → Nat → Int} {nuξ n1ξ npξ : Nat} {L : List yK} (h : zDi V nuξ n1ξ npξ L) (hdξ : V 3 (2000 + 5) < 999) : zDi (zf_rud V n1ξ npξ L).2 nuξ n1ξ npξ L :=
  ⟨zRI_rud h.1 hdξ, by rw [zf_rud_6.2]; exact h.2.1, by rw [zf_rud_6.1]; exact h.2.2⟩
theorem zDi_5 {V : Nat → Nat → Int} {nuξ n1ξ npξ : Nat} {L : List yK} (h : zDi V nuξ n1ξ npξ L) (hdξ : V 3 (2000 + 5) < 999) : zDi (zp_set V 3 (2000 + 5) (V 3 (2000 + 5) + 1)) nuξ n1ξ npξ L := by
  obtain ⟨h1ξ, h2ξ, h3ξ, h4ξ⟩ := h
  have hd5ξ := h1ξ.2.2.2.2.2.1
  refine ⟨zRI_3 (by decide) (by decide) ⟨by omega, by omega, by omega, by omega, by omega, by omega⟩ h1ξ, ?_, ?_, ?_⟩
  · rw [zp_set_ne (Or.inl (by decide))]
    exact h2ξ
  · rw [zp_set_ne (Or.inr (by decide))]
    exact h3ξ
  · rw [zp_set_ne (Or.inr (by decide))]
    exact h4ξ
theorem zr_m_5 {V : Nat → Nat → Int} {L : List yK} : (zr_m V L) 3 (2000 + 5) = V 3 (2000 + 5) := by
  unfold zr_m zf_drm zf_wea
  repeat' split
  all_goals (first | rfl | (dsimp only; repeat rw [zp_set_ne (by omega)]))
/-- what stands behind a decade -/
noncomputable def zDeq (V V' : Nat → Nat → Int) (n1ξ npξ : Nat) (L : List yK) (p1ξ p2ξ rn : Int) : Prop := ∀ S : Int × Int × (Nat → Nat → Int), S = zr_dc n1ξ npξ L p2ξ.toNat 0 0 (zp_set (zc_cp (zp_set V 0 0 0) 3 5 6 (34 * 16) 34) 0 61 p1ξ) → rn = S.1 ∧ (∀ o k, o ≠ 62 → (o ≠ 0 ∨ (k ≠ 61 ∧ k ≠ 63)) → (o ≠ 6 ∨ k < 2544) → V' o k = zT_tell (zp_set V 0 0 0) S.1 o k) ∧ V' 0 63 = (n1ξ : Int) ∧ V' 62 (2000 + 0) = S.2.2 3 (2000 + 8) ∧ V' 62 (2000 + 1) = S.2.2 3 (2000 + 9) ∧ V' 62 (2000 + 2) = S.2.2 3 (2000 + 5) ∧ V' 62 (2000 + 3) = S.2.1 ∧ ∀ w, w < n1ξ → V' 62 (2000 + (4 + w)) = S.2.2 3 (2000 + (w + 29))
/-- all is put back but what is drawn -/
theorem zDe_63 {V : Nat → Nat → Int} {v : Int} {o k : Nat} (h : o = 62 ∨ (o = 0 ∧ k = 63) ∨ False) : zT_tell (zc_cp V 6 (34 * 16) 3 5 34) v o k = V o k := by
  have h1ξ : o ≠ 2 ∧ o ≠ 3 ∧ (o ≠ 0 ∨ k ≠ 1) := by
    rcases h with h | h | h
    · omega
    · omega
    · exact h.elim
  exact (zT_tell_k h1ξ.1 h1ξ.2.2).trans (zc_cp_o h1ξ.2.1)
theorem zDe_b {V0 V S : Nat → Nat → Int} {p1ξ v : Int} (h : zDkq (zp_set (zc_cp (zp_set V0 0 0 0) 3 5 6 (34 * 16) 34) 0 61 p1ξ) S) (hFξ : ∀ o k, o ≠ 62 → (o ≠ 0 ∨ k ≠ 63) → V o k = S o k) : ∀ o k, o ≠ 62 → (o ≠ 0 ∨ (k ≠ 61 ∧ k ≠ 63)) → (o ≠ 6 ∨ k < 2544) → zT_tell (zc_cp V 6 (34 * 16) 3 5 34) v o k = zT_tell (zp_set V0 0 0 0) v o k := by
  have hb : ∀ o k, o ≠ 62 → (o ≠ 0 ∨ (k ≠ 61 ∧ k ≠ 63)) → (o ≠ 6 ∨ k < 2544) → zc_cp V 6 (34 * 16) 3 5 34 o k = zp_set V0 0 0 0 o k := fun o k h1ξ h2ξ h3ξ => by
    have e1 : ∀ o k, o ≠ 62 → (o ≠ 0 ∨ (k ≠ 61 ∧ k ≠ 63)) → ¬ (o = 3 ∧ 2005 ≤ k ∧ k < 2039) → V o k = zc_cp (zp_set V0 0 0 0) 3 5 6 (34 * 16) 34 o k := fun o k h1ξ h2ξ h3ξ => (hFξ o k h1ξ (by omega)).trans ((h o k h3ξ (by omega)).trans (zp_set_ne (by omega)))
    by_cases c : o = 3 ∧ 2005 ≤ k ∧ k < 2039
    · obtain ⟨rfl, c1, c2⟩ := c
      obtain ⟨j, rfl⟩ : ∃ j, k = 2000 + j := ⟨k - 2000, by omega⟩
      rw [zc_cp_e (by omega) (by omega), e1 6 _ (by decide) (Or.inl (by decide)) (by omega), zc_cp_e (by omega) (by omega), show 5 + (34 * 16 + (j - 5) - 34 * 16) = j by omega]
    · have e2 : zc_cp V 6 (34 * 16) 3 5 34 o k = V o k := if_neg (fun z => c ⟨z.1, by omega, by omega⟩)
      have e3 : zc_cp (zp_set V0 0 0 0) 3 5 6 (34 * 16) 34 o k = zp_set V0 0 0 0 o k := if_neg (fun z => by omega)
      rw [e2, e1 o k h1ξ h2ξ c, e3]
  intro o k h1ξ h2ξ h3ξ
  unfold zT_tell
  split
  · by_cases c : o = 2 ∧ k = 2000 + (-v).toNat
    · rw [c.1, c.2, zp_set_self, zp_set_self, hb 2 (2000 + (-v).toNat) (by decide) (Or.inl (by decide)) (Or.inl (by decide))]
    · have hneξ : o ≠ 2 ∨ k ≠ 2000 + (-v).toNat := by omega
      rw [zp_set_ne hneξ, zp_set_ne hneξ]
      by_cases c2 : o = 0 ∧ k = 1
      · rw [c2.1, c2.2, zp_set_self, zp_set_self]
      · have hne2ξ : o ≠ 0 ∨ k ≠ 1 := by omega
        rw [zp_set_ne hne2ξ, zp_set_ne hne2ξ]
        exact hb o k h1ξ h2ξ h3ξ
  · by_cases c2 : o = 0 ∧ k = 1
    · rw [c2.1, c2.2, zp_set_self, zp_set_self]
    · have hne2ξ : o ≠ 0 ∨ k ≠ 1 := by omega
      rw [zp_set_ne hne2ξ, zp_set_ne hne2ξ]
      exact hb o k h1ξ h2ξ h3ξ
noncomputable def zK_dcd : zk_K := (zt_mn 294, prog_14_method_117_code, 6, (Option.some Jvm.ClassFile.FieldType.int), 1, 12, [(2, 13, 0, 0), (0, 0, (-2147483648), 2147483647), (0, 0, (-2147483648), 2147483647)], [(some (0, 0, (-2147483648), 2147483647), [])], zUE, (7, 420, 0, 0))
noncomputable def zφ_dcd (A : Nat → Nat) (V : Nat → Nat → Int) (nuξ n1ξ npξ : Nat) (Lwξ : List yK) : (Nat → Option Nat) → (Nat → Nat → Int) → List Int → Prop := fun P G ps => zMVr A V P G ∧ ps.getD 0 0 = (A 0 : Int) ∧ zRI V nuξ n1ξ npξ Lwξ ∧ 0 ≤ V 3 (2000 + 6) ∧ V 3 (2000 + 6) ≤ 12
noncomputable def zψ_dcd (A : Nat → Nat) (V : Nat → Nat → Int) (nuξ n1ξ npξ : Nat) (Lwξ : List yK) : (Nat → Option Nat) → (Nat → Nat → Int) → List Int → (Nat → Option Nat) → (Nat → Nat → Int) → Int → Prop := fun P G ps P' G' rn => P' = P ∧ ∃ V' : Nat → Nat → Int, zMVr A V' P' G' ∧ ((¬ ((0 ≤ (ps.getD 1 0) ∧ (ps.getD 1 0) ≤ 1000000) ∧ 1 ≤ (ps.getD 2 0) ∧ (ps.getD 2 0) ≤ 60) ∧ rn = -1 ∧ V' = zT_tell (zp_set V 0 0 0) (-1)) ∨ ((0 ≤ (ps.getD 1 0) ∧ (ps.getD 1 0) ≤ 1000000) ∧ 1 ≤ (ps.getD 2 0) ∧ (ps.getD 2 0) ≤ 60) ∧ zDeq V V' n1ξ npξ Lwξ (ps.getD 1 0) (ps.getD 2 0) rn)
theorem zX_dcd {l : Launch} {w : zk_W} (hWξ : zh_W w) (A : Nat → Nat) (V : Nat → Nat → Int) (nuξ n1ξ npξ : Nat) (Lwξ : List yK) : zk_metX l w zt_dv zt_TB zK_dcd (zp_A (zφ_dcd A V nuξ n1ξ npξ Lwξ)) (zp_B (zψ_dcd A V nuξ n1ξ npξ Lwξ)) ∧ zk_cok w zt_TB zK_dcd := by
  refine zp_methX (cn := "WoundTownModel") zp_lkall hWξ (pl := 2037) rfl (by decide +kernel) (fun p e R s m args below meth c Q u hx hb hEξ hQξ hU5ξ heffξ hnLξ hokξ hφ => ?_)
  have hwξ := hWξ.1
  obtain ⟨p0ξ, p1ξ, p2ξ, hpsξ, tk0, tk1, tk2⟩ := zp_ps3 hokξ
  have hrmξ : zk_Kr (zk_ev (zt_types, zp_lk, zt_dv, [], [], zp_lc, zK_dcd)) = zk_Kr zK_dcd := rfl
  rw [hpsξ] at hφ ⊢
  have hφ : zMVr A V u.1 (zp_n u.2.1) ∧ p0ξ = (A 0 : Int) ∧ zRI V nuξ n1ξ npξ Lwξ ∧ 0 ≤ V 3 (2000 + 6) ∧ V 3 (2000 + 6) ≤ 12 := hφ
  obtain ⟨⟨M, hMξ, hVξ, hSbξ⟩, rfl, hIξ, hsuξ, hsu9ξ⟩ := hφ
  have hi1ξ := zp_int tk1
  have hi2ξ := zp_int tk2
  show zp_J p l e R s m args below meth c Q w u [] 0 [(0, 2, (A 0 : Int)), (1, 0, p1ξ), (2, 0, p2ξ)] [] u.1 (zp_n u.2.1)
  have hLVξ := hIξ.1
  have hn10ξ := hIξ.2.2.1.1
  have hnp6ξ := hIξ.2.2.1.2.1
  refine zp_load (pc := 0) hx hb (zd_X12_decade (0, .aload_n 0, 1, 0, []) (List.mem_of_getElem? (i := 0) rfl)) rfl (j := 0) rfl ?_
  refine zp_const (pc := 1) hx hb (zd_X12_decade (1, .iconst 0, 1, 0, []) (List.mem_of_getElem? (i := 1) rfl)) rfl rfl ?_
  refine zp_putf (pc := 2) hx hb hEξ hwξ heffξ (zd_X12_decade (2, .putfield 161, 3, 0, []) (List.mem_of_getElem? (i := 2) rfl)) (j := 18) rfl rfl rfl (zM_P hMξ (List.mem_of_getElem? (i := 0) rfl)) (zp_o0 (by decide) (by decide) (by decide) (by decide)) ?_
  refine zp_load (pc := 5) hx hb (zd_X12_decade (5, .iload_n 1, 1, 0, []) (List.mem_of_getElem? (i := 3) rfl)) rfl (j := 1) rfl ?_
  refine zp_i2l (pc := 6) hx hb (zd_X12_decade (6, .i2l, 1, 0, []) (List.mem_of_getElem? (i := 4) rfl)) ?_
  refine zp_const (pc := 7) hx hb (zd_X12_decade (7, .lconst 0, 1, 0, []) (List.mem_of_getElem? (i := 5) rfl)) rfl rfl ?_
  refine zp_ldc2 (pc := 8) hx hb hEξ (zd_X12_decade (8, .ldc2_w 269, 3, 0, []) (List.mem_of_getElem? (i := 6) rfl)) (j := 93) rfl ?_
  refine zp_call (pc := 11) (how := 1) (idx := 181) (mi := 186) (S := []) hx hb hEξ hwξ heffξ hrmξ (zX_in2 hWξ) rfl (j := 2) rfl rfl (by decide +kernel) (zd_X12_decade (11, .invokestatic 181, 3, 0, []) (List.mem_of_getElem? (i := 7) rfl)) [p1ξ, 0, 1000000] rfl ⟨zp_o1 (by first | assumption | exact zp_r1 (by omega) (by omega)), zp_o1 (by first | assumption | exact zp_r1 (by omega) (by omega)), zp_o1 (by first | assumption | exact zp_r1 (by omega) (by omega)), trivial⟩ (Nat.le_of_ble_eq_true rfl) trivial (fun al halξ rnn580ξ Pn580 Gn580 hextn580ξ hfrn580ξ hokn580ξ hcsn580ξ hpsin580ξ => ?_)
  obtain rfl := List.mem_singleton.mp halξ
  have hrn580ξ := zp_int (hokn580ξ _ rfl).1
  obtain ⟨hPen580ξ, hGen580ξ, htn580ξ⟩ := hpsin580ξ
  rw [hPen580ξ, hGen580ξ]
  clear hextn580ξ hfrn580ξ hcsn580ξ hPen580ξ hGen580ξ
  have htn580ξ : rnn580ξ = 1 ↔ 0 ≤ p1ξ ∧ p1ξ ≤ 1000000 := htn580ξ
  refine zp_if (pc := 14) (tgt := 29) hx hb (zd_X12_decade (14, .ifCond .eq 15, 3, 0, []) (List.mem_of_getElem? (i := 8) rfl)) rfl (fun (hc581ξ : rnn580ξ = 0) => ?_) (fun (hc581ξ : ¬ (rnn580ξ = 0)) => ?_)
  · have hbf582ξ : ¬ (0 ≤ p1ξ ∧ p1ξ ≤ 1000000) := fun h9ξ => absurd ((Iff.mpr htn580ξ) h9ξ) (by omega)
    refine zp_load (pc := 29) hx hb (zd_X12_decade (29, .aload_n 0, 1, 0, []) (List.mem_of_getElem? (i := 15) rfl)) rfl (j := 0) rfl ?_
    refine zp_const (pc := 30) hx hb (zd_X12_decade (30, .iconst (-1), 1, 0, []) (List.mem_of_getElem? (i := 16) rfl)) rfl rfl ?_
    refine zp_call (pc := 31) (how := 0) (idx := 170) (mi := 183) (S := []) hx hb hEξ hwξ heffξ hrmξ (zX_tll hWξ A (zp_set V 0 0 0)) rfl (j := 0) rfl rfl (by decide +kernel) (zd_X12_decade (31, .invokevirtual 170, 3, 0, []) (List.mem_of_getElem? (i := 17) rfl)) [(A 0 : Int), (-1)] rfl ⟨zp_o2 (zM_P hMξ (List.mem_of_getElem? (i := 0) rfl)), zp_o0 (by omega) (by omega) (by omega) (by omega), trivial⟩ (Nat.le_of_ble_eq_true rfl) ⟨⟨(zp_set M 0 0 0), (zM_set hMξ (List.mem_of_getElem? (i := 0) rfl) (by decide)), (zV_set hVξ), (zSb_set (by decide) hSbξ)⟩, rfl, (show -6 ≤ (-1) by omega)⟩ (fun al halξ rnt584ξ Pt584 Gt584 hextt584ξ hfrt584ξ hokt584ξ hcst584ξ hpsit584ξ => ?_)
    obtain rfl := List.mem_singleton.mp halξ
    have hrt584ξ := zp_int (hokt584ξ _ rfl).1
    obtain ⟨hPet584ξ, ⟨Mt584, hMt584ξ, hVt584ξ, hSbt584ξ⟩, htt584ξ⟩ := hpsit584ξ
    subst hPet584ξ
    clear hextt584ξ hfrt584ξ hcst584ξ hokt584ξ
    have hVt584ξ : ∀ o k, zNs o k → Mt584 o k = (zT_tell (zp_set V 0 0 0) (-1)) o k := hVt584ξ
    have htt584ξ : rnt584ξ = (-1) := htt584ξ
    have htt584ξ := (Eq.symm htt584ξ)
    subst htt584ξ
    refine zp_iret (pc := 34) (n := (-1)) hx hb hEξ hQξ hU5ξ rfl (by decide) (zd_X12_decade (34, .ireturn, 1, 0, []) (List.mem_of_getElem? (i := 18) rfl)) (j := 0) rfl (zp_o0 (by omega) (by omega) (by omega) (by omega)) ?_
    rw [hpsξ]
    refine ⟨rfl, ?_⟩
    refine ⟨_, ⟨Mt584, hMt584ξ, hVt584ξ, hSbt584ξ⟩, Or.inl ⟨show ¬ ((0 ≤ p1ξ ∧ p1ξ ≤ 1000000) ∧ 1 ≤ p2ξ ∧ p2ξ ≤ 60) by omega, ?_, rfl⟩⟩
    rfl
  · have hbt583ξ := (Iff.mp htn580ξ) (by omega)
    refine zp_load (pc := 17) hx hb (zd_X12_decade (17, .iload_n 2, 1, 0, []) (List.mem_of_getElem? (i := 9) rfl)) rfl (j := 2) rfl ?_
    refine zp_i2l (pc := 18) hx hb (zd_X12_decade (18, .i2l, 1, 0, []) (List.mem_of_getElem? (i := 10) rfl)) ?_
    refine zp_const (pc := 19) hx hb (zd_X12_decade (19, .lconst 1, 1, 0, []) (List.mem_of_getElem? (i := 11) rfl)) rfl rfl ?_
    refine zp_ldc2 (pc := 20) hx hb hEξ (zd_X12_decade (20, .ldc2_w 421, 3, 0, []) (List.mem_of_getElem? (i := 12) rfl)) (j := 108) rfl ?_
    refine zp_call (pc := 23) (how := 1) (idx := 181) (mi := 186) (S := []) hx hb hEξ hwξ heffξ hrmξ (zX_in2 hWξ) rfl (j := 2) rfl rfl (by decide +kernel) (zd_X12_decade (23, .invokestatic 181, 3, 0, []) (List.mem_of_getElem? (i := 13) rfl)) [p2ξ, 1, 60] rfl ⟨zp_o1 (by first | assumption | exact zp_r1 (by omega) (by omega)), zp_o1 (by first | assumption | exact zp_r1 (by omega) (by omega)), zp_o1 (by first | assumption | exact zp_r1 (by omega) (by omega)), trivial⟩ (Nat.le_of_ble_eq_true rfl) trivial (fun al halξ rnn585ξ Pn585 Gn585 hextn585ξ hfrn585ξ hokn585ξ hcsn585ξ hpsin585ξ => ?_)
    obtain rfl := List.mem_singleton.mp halξ
    have hrn585ξ := zp_int (hokn585ξ _ rfl).1
    obtain ⟨hPen585ξ, hGen585ξ, htn585ξ⟩ := hpsin585ξ
    rw [hPen585ξ, hGen585ξ]
    clear hextn585ξ hfrn585ξ hcsn585ξ hPen585ξ hGen585ξ
    have htn585ξ : rnn585ξ = 1 ↔ 1 ≤ p2ξ ∧ p2ξ ≤ 60 := htn585ξ
    refine zp_if (pc := 26) (tgt := 35) hx hb (zd_X12_decade (26, .ifCond .ne 9, 3, 0, []) (List.mem_of_getElem? (i := 14) rfl)) rfl (fun (hc586ξ : ¬ rnn585ξ = 0) => ?_) (fun (hc586ξ : ¬ (¬ rnn585ξ = 0)) => ?_)
    · have hbt587ξ := (Iff.mp htn585ξ) (by omega)
      refine zp_load (pc := 35) hx hb (zd_X12_decade (35, .aload_n 0, 1, 0, []) (List.mem_of_getElem? (i := 19) rfl)) rfl (j := 0) rfl ?_
      refine zp_const (pc := 36) hx hb (zd_X12_decade (36, .bipush 16, 2, 0, []) (List.mem_of_getElem? (i := 20) rfl)) rfl rfl ?_
      refine zp_call (pc := 38) (how := 0) (idx := 174) (mi := 264) (S := []) hx hb hEξ hwξ heffξ hrmξ (zX_kal hWξ A (zp_set V 0 0 0) 16) rfl (j := 57) rfl rfl (by decide +kernel) (zd_X12_decade (38, .invokevirtual 174, 3, 0, []) (List.mem_of_getElem? (i := 21) rfl)) [(A 0 : Int), 16] rfl ⟨zp_o2 (zM_P hMξ (List.mem_of_getElem? (i := 0) rfl)), zp_o0 (by omega) (by omega) (by omega) (by omega), trivial⟩ (Nat.le_of_ble_eq_true rfl) ⟨⟨(zp_set M 0 0 0), (zM_set hMξ (List.mem_of_getElem? (i := 0) rfl) (by decide)), (zV_set hVξ), (zSb_set (by decide) hSbξ)⟩, rfl, rfl⟩ (fun al halξ rnk589ξ Pk589 Gk589 hextk589ξ hfrk589ξ hokk589ξ hcsk589ξ hpsik589ξ => ?_)
      obtain rfl := List.mem_singleton.mp halξ
      obtain ⟨hPek589ξ, Mk589, hMk589ξ, hVk589ξ, hSbk589ξ⟩ := hpsik589ξ
      subst hPek589ξ
      clear hextk589ξ hfrk589ξ hcsk589ξ hokk589ξ
      have hVk589ξ : ∀ o k, zNs o k → Mk589 o k = (zc_cp (zp_set V 0 0 0) 3 5 6 (34 * 16) 34) o k := hVk589ξ
      refine zp_load (pc := 41) hx hb (zd_X12_decade (41, .aload_n 0, 1, 0, []) (List.mem_of_getElem? (i := 22) rfl)) rfl (j := 0) rfl ?_
      refine zp_load (pc := 42) hx hb (zd_X12_decade (42, .iload_n 1, 1, 0, []) (List.mem_of_getElem? (i := 23) rfl)) rfl (j := 1) rfl ?_
      refine zp_i2l (pc := 43) hx hb (zd_X12_decade (43, .i2l, 1, 0, []) (List.mem_of_getElem? (i := 24) rfl)) ?_
      refine zp_putf (pc := 44) hx hb hEξ hwξ heffξ (zd_X12_decade (44, .putfield 558, 3, 0, []) (List.mem_of_getElem? (i := 25) rfl)) (j := 79) rfl rfl rfl (zM_P hMk589ξ (List.mem_of_getElem? (i := 0) rfl)) (zp_o1 (by first | assumption | exact zp_r1 (by omega) (by omega))) ?_
      refine zp_const (pc := 47) hx hb (zd_X12_decade (47, .iconst 0, 1, 0, []) (List.mem_of_getElem? (i := 26) rfl)) rfl rfl ?_
      refine zp_store (L' := [(3, 0, 0), (0, 2, (A 0 : Int)), (1, 0, p1ξ), (2, 0, p2ξ)]) (pc := 48) hx hb hnLξ (zd_X12_decade (48, .istore_n 3, 1, 0, []) (List.mem_of_getElem? (i := 27) rfl)) rfl rfl rfl ?_
      refine zp_const (pc := 49) hx hb (zd_X12_decade (49, .iconst 0, 1, 0, []) (List.mem_of_getElem? (i := 28) rfl)) rfl rfl ?_
      refine zp_store (L' := [(4, 0, 0), (3, 0, 0), (0, 2, (A 0 : Int)), (1, 0, p1ξ), (2, 0, p2ξ)]) (pc := 50) hx hb hnLξ (zd_X12_decade (50, .istore 4, 2, 0, []) (List.mem_of_getElem? (i := 29) rfl)) rfl rfl rfl ?_
      refine zp_const (pc := 52) hx hb (zd_X12_decade (52, .iconst 0, 1, 0, []) (List.mem_of_getElem? (i := 30) rfl)) rfl rfl ?_
      refine zp_store (L' := [(5, 0, 0), (4, 0, 0), (3, 0, 0), (0, 2, (A 0 : Int)), (1, 0, p1ξ), (2, 0, p2ξ)]) (pc := 53) hx hb hnLξ (zd_X12_decade (53, .istore 5, 2, 0, []) (List.mem_of_getElem? (i := 31) rfl)) rfl rfl rfl ?_
      have hp1ξ : 0 ≤ p1ξ ∧ p1ξ ≤ 1000000 := by omega
      have hp2ξ : 1 ≤ p2ξ ∧ p2ξ ≤ 60 := by omega
      obtain ⟨V0, hV0ξ⟩ : ∃ V0 : Nat → Nat → Int, V0 = V := ⟨V, rfl⟩
      subst hV0ξ
      obtain ⟨V1, hV1ξ⟩ : ∃ V1 : Nat → Nat → Int, V1 = (zp_set (zc_cp (zp_set V0 0 0 0) 3 5 6 (34 * 16) 34) 0 61 p1ξ) := ⟨_, rfl⟩
      have hDi1ξ : zDi V1 nuξ n1ξ npξ Lwξ := by
        rw [hV1ξ]
        refine ⟨zRI_e (fun k => (zp_set_ne (Or.inl (by decide))).trans ((zc_cp_o (by decide)).trans (zp_set_ne (Or.inl (by decide))))) ((zp_set_ne (Or.inr (by decide))).trans ((zc_cp_o (by decide)).trans (zp_set_ne (Or.inr (by decide))))) ((zp_set_ne (Or.inr (by decide))).trans ((zc_cp_o (by decide)).trans (zp_set_ne (Or.inr (by decide))))) ((zp_set_ne (Or.inr (by decide))).trans ((zc_cp_o (by decide)).trans (zp_set_ne (Or.inr (by decide))))) hIξ, ?_, ?_, ?_⟩
        · rw [zp_set_self]
          omega
        · rw [zp_set_ne (Or.inl (by decide)), zc_cp_o (by decide), zp_set_ne (Or.inl (by decide))]
          exact hsuξ
        · rw [zp_set_ne (Or.inl (by decide)), zc_cp_o (by decide), zp_set_ne (Or.inl (by decide))]
          exact hsu9ξ
      obtain ⟨S, hSξ⟩ : ∃ S : Int × Int × (Nat → Nat → Int), S = zr_dc n1ξ npξ Lwξ p2ξ.toNat 0 0 V1 := ⟨_, rfl⟩
      have loopw : ∀ (q9ξ w9ξ : Nat) (r9ξ : Int) (V : Nat → Nat → Int) (M : Nat → Nat → Int) (G : Nat → Nat → Int), q9ξ + w9ξ = n1ξ → 0 ≤ S.1 → S.1 ≤ 100000 → zDkq V1 S.2.2 → zRI S.2.2 nuξ n1ξ npξ Lwξ → (∀ o k, o ≠ 62 → (o ≠ 0 ∨ k ≠ 63) → V o k = S.2.2 o k) → V 0 63 = (n1ξ : Int) → V 62 (2000 + 0) = S.2.2 3 (2000 + 8) → V 62 (2000 + 1) = S.2.2 3 (2000 + 9) → V 62 (2000 + 2) = S.2.2 3 (2000 + 5) → V 62 (2000 + 3) = S.2.1 → (∀ w, w < w9ξ → V 62 (2000 + (4 + w)) = S.2.2 3 (2000 + (w + 29))) → zM A zYr zFr M u.1 G → (∀ o k, zNs o k → M o k = V o k) → zSb M → zp_J p l e R s m args below meth c Q w u [] 193 [(5, 0, (w9ξ : Int)), (4, 0, r9ξ), (3, 0, S.1), (0, 2, (A 0 : Int)), (1, 0, p1ξ), (2, 0, p2ξ)] [] u.1 G := by
        intro q9ξ
        induction q9ξ with
        | zero =>
          intro w9ξ r9ξ V M G hqξ hs0ξ hs1ξ hDsξ hIsξ hFξ h63ξ h620ξ h621ξ h622ξ h623ξ hWkξ hMξ hVξ hSbξ
          have hwnξ : w9ξ = n1ξ := by omega
          rw [hwnξ] at hWkξ
          refine zp_load (pc := 193) hx hb (zd_X12_decade (193, .iload 5, 2, 0, []) (List.mem_of_getElem? (i := 110) rfl)) rfl (j := 0) rfl ?_
          refine zp_load (pc := 195) hx hb (zd_X12_decade (195, .aload_n 0, 1, 0, []) (List.mem_of_getElem? (i := 111) rfl)) rfl (j := 3) rfl ?_
          refine zp_getf (n := (n1ξ : Int)) (pc := 196) hx hb hEξ hwξ (zd_X12_decade (196, .getfield 158, 3, 0, []) (List.mem_of_getElem? (i := 112) rfl)) (j := 81) rfl rfl rfl (zM_P hMξ (List.mem_of_getElem? (i := 0) rfl)) (((zM_G hMξ (List.mem_of_getElem? (i := 0) rfl) 63).trans (hVξ 0 63 (Or.inr (by decide)))).trans h63ξ) ?_
          refine zp_icmp (pc := 199) (tgt := 227) hx hb (zd_X12_decade (199, .if_icmp .ge 28, 3, 0, []) (List.mem_of_getElem? (i := 113) rfl)) rfl (fun (hc590ξ : (n1ξ : Int) ≤ (w9ξ : Int)) => ?_) (fun (hc590ξ : ¬ ((n1ξ : Int) ≤ (w9ξ : Int))) => ?_)
          · refine zp_load (pc := 227) hx hb (zd_X12_decade (227, .aload_n 0, 1, 0, []) (List.mem_of_getElem? (i := 128) rfl)) rfl (j := 3) rfl ?_
            refine zp_const (pc := 228) hx hb (zd_X12_decade (228, .bipush 16, 2, 0, []) (List.mem_of_getElem? (i := 129) rfl)) rfl rfl ?_
            refine zp_call (pc := 230) (how := 0) (idx := 178) (mi := 184) (S := []) hx hb hEξ hwξ heffξ hrmξ (zX_pub hWξ A V 16) rfl (j := 1) rfl rfl (by decide +kernel) (zd_X12_decade (230, .invokevirtual 178, 3, 0, []) (List.mem_of_getElem? (i := 130) rfl)) [(A 0 : Int), 16] rfl ⟨zp_o2 (zM_P hMξ (List.mem_of_getElem? (i := 0) rfl)), zp_o0 (by omega) (by omega) (by omega) (by omega), trivial⟩ (Nat.le_of_ble_eq_true rfl) ⟨⟨M, hMξ, hVξ, hSbξ⟩, rfl, rfl⟩ (fun al halξ rnp591ξ Pp591 Gp591 hextp591ξ hfrp591ξ hokp591ξ hcsp591ξ hpsip591ξ => ?_)
            obtain rfl := List.mem_singleton.mp halξ
            obtain ⟨hPep591ξ, Mp591, hMp591ξ, hVp591ξ, hSbp591ξ⟩ := hpsip591ξ
            subst hPep591ξ
            clear hextp591ξ hfrp591ξ hcsp591ξ hokp591ξ
            have hVp591ξ : ∀ o k, zNs o k → Mp591 o k = (zc_cp V 6 (34 * 16) 3 5 34) o k := hVp591ξ
            refine zp_load (pc := 233) hx hb (zd_X12_decade (233, .aload_n 0, 1, 0, []) (List.mem_of_getElem? (i := 131) rfl)) rfl (j := 3) rfl ?_
            refine zp_load (pc := 234) hx hb (zd_X12_decade (234, .iload_n 3, 1, 0, []) (List.mem_of_getElem? (i := 132) rfl)) rfl (j := 2) rfl ?_
            refine zp_call (pc := 235) (how := 0) (idx := 170) (mi := 183) (S := []) hx hb hEξ hwξ heffξ hrmξ (zX_tll hWξ A (zc_cp V 6 (34 * 16) 3 5 34)) rfl (j := 0) rfl rfl (by decide +kernel) (zd_X12_decade (235, .invokevirtual 170, 3, 0, []) (List.mem_of_getElem? (i := 133) rfl)) [(A 0 : Int), S.1] rfl ⟨zp_o2 (zM_P hMp591ξ (List.mem_of_getElem? (i := 0) rfl)), zp_o0 (by omega) (by omega) (by omega) (by omega), trivial⟩ (Nat.le_of_ble_eq_true rfl) ⟨⟨Mp591, hMp591ξ, hVp591ξ, hSbp591ξ⟩, rfl, (show -6 ≤ S.1 by omega)⟩ (fun al halξ rnt592ξ Pt592 Gt592 hextt592ξ hfrt592ξ hokt592ξ hcst592ξ hpsit592ξ => ?_)
            obtain rfl := List.mem_singleton.mp halξ
            have hrt592ξ := zp_int (hokt592ξ _ rfl).1
            obtain ⟨hPet592ξ, ⟨Mt592, hMt592ξ, hVt592ξ, hSbt592ξ⟩, htt592ξ⟩ := hpsit592ξ
            subst hPet592ξ
            clear hextt592ξ hfrt592ξ hcst592ξ hokt592ξ
            have hVt592ξ : ∀ o k, zNs o k → Mt592 o k = (zT_tell (zc_cp V 6 (34 * 16) 3 5 34) S.1) o k := hVt592ξ
            have htt592ξ : rnt592ξ = S.1 := htt592ξ
            have htt592ξ := (Eq.symm htt592ξ)
            subst htt592ξ
            refine zp_iret (pc := 238) (n := S.1) hx hb hEξ hQξ hU5ξ rfl (by decide) (zd_X12_decade (238, .ireturn, 1, 0, []) (List.mem_of_getElem? (i := 134) rfl)) (j := 0) rfl (zp_o0 (by omega) (by omega) (by omega) (by omega)) ?_
            rw [hpsξ]
            refine ⟨rfl, ?_⟩
            refine ⟨_, ⟨Mt592, hMt592ξ, hVt592ξ, hSbt592ξ⟩, Or.inr ⟨⟨hp1ξ, hp2ξ⟩, ?_⟩⟩
            intro S9 hS9ξ
            have hS9ξ : S9 = zr_dc n1ξ npξ Lwξ p2ξ.toNat 0 0 (zp_set (zc_cp (zp_set V0 0 0 0) 3 5 6 (34 * 16) 34) 0 61 p1ξ) := hS9ξ
            rw [← hV1ξ, ← hSξ] at hS9ξ
            subst hS9ξ
            have hFbξ := zDe_b (v := S9.1) (by rw [← hV1ξ]; exact hDsξ) hFξ
            refine ⟨rfl, fun o k h1ξ h2ξ h3ξ => hFbξ o k h1ξ h2ξ h3ξ, ?_, ?_, ?_, ?_, ?_, fun w hwξ => ?_⟩
            · exact (zDe_63 (Or.inr (Or.inl ⟨rfl, rfl⟩))).trans h63ξ
            · exact (zDe_63 (Or.inl rfl)).trans h620ξ
            · exact (zDe_63 (Or.inl rfl)).trans h621ξ
            · exact (zDe_63 (Or.inl rfl)).trans h622ξ
            · exact (zDe_63 (Or.inl rfl)).trans h623ξ
            · exact (zDe_63 (Or.inl rfl)).trans (hWkξ w hwξ)
          · exfalso
            omega
        | succ q9ξ ihw =>
          intro w9ξ r9ξ V M G hqξ hs0ξ hs1ξ hDsξ hIsξ hFξ h63ξ h620ξ h621ξ h622ξ h623ξ hWkξ hMξ hVξ hSbξ
          refine zp_load (pc := 193) hx hb (zd_X12_decade (193, .iload 5, 2, 0, []) (List.mem_of_getElem? (i := 110) rfl)) rfl (j := 0) rfl ?_
          refine zp_load (pc := 195) hx hb (zd_X12_decade (195, .aload_n 0, 1, 0, []) (List.mem_of_getElem? (i := 111) rfl)) rfl (j := 3) rfl ?_
          refine zp_getf (n := (n1ξ : Int)) (pc := 196) hx hb hEξ hwξ (zd_X12_decade (196, .getfield 158, 3, 0, []) (List.mem_of_getElem? (i := 112) rfl)) (j := 81) rfl rfl rfl (zM_P hMξ (List.mem_of_getElem? (i := 0) rfl)) (((zM_G hMξ (List.mem_of_getElem? (i := 0) rfl) 63).trans (hVξ 0 63 (Or.inr (by decide)))).trans h63ξ) ?_
          refine zp_icmp (pc := 199) (tgt := 227) hx hb (zd_X12_decade (199, .if_icmp .ge 28, 3, 0, []) (List.mem_of_getElem? (i := 113) rfl)) rfl (fun (hc593ξ : (n1ξ : Int) ≤ (w9ξ : Int)) => ?_) (fun (hc593ξ : ¬ ((n1ξ : Int) ≤ (w9ξ : Int))) => ?_)
          · exfalso
            omega
          · refine zp_load (pc := 202) hx hb (zd_X12_decade (202, .aload_n 0, 1, 0, []) (List.mem_of_getElem? (i := 114) rfl)) rfl (j := 3) rfl ?_
            refine zp_getf (n := (A 62 : Int)) (pc := 203) hx hb hEξ hwξ (zd_X12_decade (203, .getfield 155, 3, 0, []) (List.mem_of_getElem? (i := 115) rfl)) (j := 80) rfl rfl rfl (zM_P hMξ (List.mem_of_getElem? (i := 0) rfl)) ((zM_G hMξ (List.mem_of_getElem? (i := 0) rfl) 62).trans (zM_F hMξ (List.mem_of_getElem? (i := 33) rfl))) ?_
            refine zp_const (pc := 206) hx hb (zd_X12_decade (206, .iconst 4, 1, 0, []) (List.mem_of_getElem? (i := 116) rfl)) rfl rfl ?_
            refine zp_load (pc := 207) hx hb (zd_X12_decade (207, .iload 5, 2, 0, []) (List.mem_of_getElem? (i := 117) rfl)) rfl (j := 0) rfl ?_
            refine zp_add (n := ((w9ξ : Int) + 4)) (pc := 209) hx hb (zd_X12_decade (209, .iadd, 1, 0, []) (List.mem_of_getElem? (i := 118) rfl)) (by omega) (zp_r0 (by omega) (by omega)) ?_
            refine zp_load (pc := 210) hx hb (zd_X12_decade (210, .aload_n 0, 1, 0, []) (List.mem_of_getElem? (i := 119) rfl)) rfl (j := 3) rfl ?_
            refine zp_getf (n := (A 3 : Int)) (pc := 211) hx hb hEξ hwξ (zd_X12_decade (211, .getfield 13, 3, 0, []) (List.mem_of_getElem? (i := 120) rfl)) (j := 21) rfl rfl rfl (zM_P hMξ (List.mem_of_getElem? (i := 0) rfl)) ((zM_G hMξ (List.mem_of_getElem? (i := 0) rfl) 3).trans (zM_F hMξ (List.mem_of_getElem? (i := 1) rfl))) ?_
            refine zp_const (pc := 214) hx hb (zd_X12_decade (214, .bipush 29, 2, 0, []) (List.mem_of_getElem? (i := 121) rfl)) rfl rfl ?_
            refine zp_load (pc := 216) hx hb (zd_X12_decade (216, .iload 5, 2, 0, []) (List.mem_of_getElem? (i := 122) rfl)) rfl (j := 0) rfl ?_
            refine zp_add (n := ((w9ξ : Int) + 29)) (pc := 218) hx hb (zd_X12_decade (218, .iadd, 1, 0, []) (List.mem_of_getElem? (i := 123) rfl)) (by omega) (zp_r0 (by omega) (by omega)) ?_
            refine zp_ialdT (j := (w9ξ + 29)) (v := (V 3 (2000 + (w9ξ + 29)))) (pc := 219) hx hb hwξ (zd_X12_decade (219, .iaload, 1, 0, []) (List.mem_of_getElem? (i := 124) rfl)) zl_T59 rfl (zl_kd ((w9ξ + 29))) (zM_P hMξ (List.mem_of_getElem? (i := 2) rfl)) (by omega) (show (w9ξ + 29) < 5580 by omega) ((zM_G hMξ (List.mem_of_getElem? (i := 2) rfl) (2000 + (w9ξ + 29))).trans (hVξ 3 (2000 + (w9ξ + 29)) (Or.inl (by decide)))) (fun _ => ?_)
            have hr595ξ : -2147483648 ≤ (V 3 (2000 + (w9ξ + 29))) ∧ (V 3 (2000 + (w9ξ + 29))) ≤ 2147483647 := by
              rw [hFξ 3 _ (by decide) (Or.inl (by decide))]
              exact hIsξ.1.1 _ (by omega)
            refine zp_iast (j := (w9ξ + 4)) (pc := 220) hx hb hwξ heffξ (zd_X12_decade (220, .iastore, 1, 0, []) (List.mem_of_getElem? (i := 125) rfl)) (show zp_ia 1 91 = some (14, 0, 0, (-2147483648), 2147483647) from rfl) (zM_P hMξ (List.mem_of_getElem? (i := 34) rfl)) (by omega) (by omega) (zp_o0 (by omega) (by omega) (by omega) (by omega)) rfl ?_
            refine zp_iinc (L' := [(5, 0, ((w9ξ : Int) + 1)), (4, 0, r9ξ), (3, 0, S.1), (0, 2, (A 0 : Int)), (1, 0, p1ξ), (2, 0, p2ξ)]) (n := ((w9ξ : Int) + 1)) (pc := 221) hx hb hnLξ (zd_X12_decade (221, .iinc 5 1, 3, 0, []) (List.mem_of_getElem? (i := 126) rfl)) (j := 0) rfl (by omega) (zp_r0 (by omega) (by omega)) rfl rfl ?_
            refine zp_goto (tgt := 193) (pc := 224) hx hb (zd_X12_decade (224, .goto (-31), 3, 0, []) (List.mem_of_getElem? (i := 127) rfl)) rfl ?_
            refine zp_drop (L' := [(5, 0, ((w9ξ : Int) + 1)), (4, 0, r9ξ), (3, 0, S.1), (0, 2, (A 0 : Int)), (1, 0, p1ξ), (2, 0, p2ξ)]) (by simp) ?_
            have hj9ξ : (w9ξ + 4) = 4 + w9ξ := by omega
            refine ihw (w9ξ + 1) r9ξ (zp_set V 62 (2000 + (w9ξ + 4)) (V 3 (2000 + (w9ξ + 29)))) (zp_set M 62 (2000 + (w9ξ + 4)) (V 3 (2000 + (w9ξ + 29)))) (zp_set G (A 62) (2000 + (w9ξ + 4)) (V 3 (2000 + (w9ξ + 29)))) (by omega) hs0ξ hs1ξ hDsξ hIsξ (fun o k h1ξ h2ξ => (zp_set_ne (Or.inl h1ξ)).trans (hFξ o k h1ξ h2ξ)) ((zp_set_ne (Or.inl (by decide))).trans h63ξ) ?_ ?_ ?_ ?_ (fun w hwξ => ?_) (zM_setE hMξ (List.mem_of_getElem? (i := 34) rfl)) (zV_set hVξ) (zSb_set (by decide) hSbξ)
            · exact (zp_set_ne (Or.inr (by omega))).trans h620ξ
            · exact (zp_set_ne (Or.inr (by omega))).trans h621ξ
            · exact (zp_set_ne (Or.inr (by omega))).trans h622ξ
            · exact (zp_set_ne (Or.inr (by omega))).trans h623ξ
            · by_cases e9ξ : w = w9ξ
              · rw [e9ξ, hj9ξ, zp_set_self, ← hFξ 3 _ (by decide) (Or.inl (by decide))]
              · rw [zp_set_ne (Or.inr (by omega))]
                exact hWkξ w (by omega)
      have loopd : ∀ (q9ξ k9ξ : Nat) (r9ξ e9ξ : Int) (V : Nat → Nat → Int) (M : Nat → Nat → Int) (G : Nat → Nat → Int), (q9ξ : Int) + (k9ξ : Int) = p2ξ → 0 ≤ e9ξ → e9ξ ≤ 10 * (k9ξ : Int) → 0 ≤ r9ξ → r9ξ ≤ (k9ξ : Int) → zDi V nuξ n1ξ npξ Lwξ → zDkq V1 V → S = zr_dc n1ξ npξ Lwξ q9ξ e9ξ r9ξ V → zM A zYr zFr M u.1 G → (∀ o k, zNs o k → M o k = V o k) → zSb M → zp_J p l e R s m args below meth c Q w u [] 55 [(5, 0, (k9ξ : Int)), (4, 0, r9ξ), (3, 0, e9ξ), (0, 2, (A 0 : Int)), (1, 0, p1ξ), (2, 0, p2ξ)] [] u.1 G := by
        intro q9ξ
        induction q9ξ with
        | zero =>
          intro k9ξ r9ξ e9ξ V M G hqξ he0ξ he1ξ hr0ξ hr1ξ hDξ hKξ hzξ hMξ hVξ hSbξ
          have hIvξ := hDξ.1
          have hLVξ := hIvξ.1
          have hk60ξ : (k9ξ : Int) ≤ 60 := by omega
          have he6ξ : e9ξ ≤ 600 := by omega
          have hr6ξ : r9ξ ≤ 60 := by omega
          have hd5ξ := hIvξ.2.2.2.2.2.1
          have ht5ξ := hIvξ.2.2.2.2.1
          have hn1ξ : V 3 (2000 + 1) = (n1ξ : Int) := hIvξ.2.2.1.2.2.1
          have h9bξ := hLVξ.1 9 (by decide)
          have h8bξ := hLVξ.1 8 (by decide)
          have hnnξ : n1ξ ≤ 10 := hIvξ.2.2.1.1
          refine zp_load (pc := 55) hx hb (zd_X12_decade (55, .iload 5, 2, 0, []) (List.mem_of_getElem? (i := 32) rfl)) rfl (j := 0) rfl ?_
          refine zp_load (pc := 57) hx hb (zd_X12_decade (57, .iload_n 2, 1, 0, []) (List.mem_of_getElem? (i := 33) rfl)) rfl (j := 5) rfl ?_
          refine zp_icmp (pc := 58) (tgt := 136) hx hb (zd_X12_decade (58, .if_icmp .ge 78, 3, 0, []) (List.mem_of_getElem? (i := 34) rfl)) rfl (fun (hc596ξ : p2ξ ≤ (k9ξ : Int)) => ?_) (fun (hc596ξ : ¬ (p2ξ ≤ (k9ξ : Int))) => ?_)
          · refine zp_load (pc := 136) hx hb (zd_X12_decade (136, .aload_n 0, 1, 0, []) (List.mem_of_getElem? (i := 75) rfl)) rfl (j := 3) rfl ?_
            refine zp_load (pc := 137) hx hb (zd_X12_decade (137, .aload_n 0, 1, 0, []) (List.mem_of_getElem? (i := 76) rfl)) rfl (j := 3) rfl ?_
            refine zp_getf (n := (A 3 : Int)) (pc := 138) hx hb hEξ hwξ (zd_X12_decade (138, .getfield 13, 3, 0, []) (List.mem_of_getElem? (i := 77) rfl)) (j := 21) rfl rfl rfl (zM_P hMξ (List.mem_of_getElem? (i := 0) rfl)) ((zM_G hMξ (List.mem_of_getElem? (i := 0) rfl) 3).trans (zM_F hMξ (List.mem_of_getElem? (i := 1) rfl))) ?_
            refine zp_const (pc := 141) hx hb (zd_X12_decade (141, .iconst 1, 1, 0, []) (List.mem_of_getElem? (i := 78) rfl)) rfl rfl ?_
            refine zp_ialdT (j := 1) (v := (n1ξ : Int)) (pc := 142) hx hb hwξ (zd_X12_decade (142, .iaload, 1, 0, []) (List.mem_of_getElem? (i := 79) rfl)) zl_T59 rfl (zl_kd 1) (zM_P hMξ (List.mem_of_getElem? (i := 2) rfl)) (by omega) (show 1 < 5580 by omega) (((zM_G hMξ (List.mem_of_getElem? (i := 2) rfl) (2000 + 1)).trans (hVξ 3 (2000 + 1) (Or.inl (by decide)))).trans hn1ξ) (fun _ => ?_)
            refine zp_putf (pc := 143) hx hb hEξ hwξ heffξ (zd_X12_decade (143, .putfield 158, 3, 0, []) (List.mem_of_getElem? (i := 80) rfl)) (j := 81) rfl rfl rfl (zM_P hMξ (List.mem_of_getElem? (i := 0) rfl)) (zp_o0 (by omega) (by omega) (by omega) (by omega)) ?_
            refine zp_load (pc := 146) hx hb (zd_X12_decade (146, .aload_n 0, 1, 0, []) (List.mem_of_getElem? (i := 81) rfl)) rfl (j := 3) rfl ?_
            refine zp_getf (n := (A 62 : Int)) (pc := 147) hx hb hEξ hwξ (zd_X12_decade (147, .getfield 155, 3, 0, []) (List.mem_of_getElem? (i := 82) rfl)) (j := 80) rfl rfl rfl (zM_P hMξ (List.mem_of_getElem? (i := 0) rfl)) ((zp_set_ne (Or.inr (by decide))).trans (((zM_G hMξ (List.mem_of_getElem? (i := 0) rfl) 62).trans (zM_F hMξ (List.mem_of_getElem? (i := 33) rfl))))) ?_
            refine zp_const (pc := 150) hx hb (zd_X12_decade (150, .iconst 0, 1, 0, []) (List.mem_of_getElem? (i := 83) rfl)) rfl rfl ?_
            refine zp_load (pc := 151) hx hb (zd_X12_decade (151, .aload_n 0, 1, 0, []) (List.mem_of_getElem? (i := 84) rfl)) rfl (j := 3) rfl ?_
            refine zp_getf (n := (A 3 : Int)) (pc := 152) hx hb hEξ hwξ (zd_X12_decade (152, .getfield 13, 3, 0, []) (List.mem_of_getElem? (i := 85) rfl)) (j := 21) rfl rfl rfl (zM_P hMξ (List.mem_of_getElem? (i := 0) rfl)) ((zp_set_ne (Or.inr (by decide))).trans (((zM_G hMξ (List.mem_of_getElem? (i := 0) rfl) 3).trans (zM_F hMξ (List.mem_of_getElem? (i := 1) rfl))))) ?_
            refine zp_const (pc := 155) hx hb (zd_X12_decade (155, .bipush 8, 2, 0, []) (List.mem_of_getElem? (i := 86) rfl)) rfl rfl ?_
            refine zp_ialdT (j := 8) (v := (V 3 (2000 + 8))) (pc := 157) hx hb hwξ (zd_X12_decade (157, .iaload, 1, 0, []) (List.mem_of_getElem? (i := 87) rfl)) zl_T59 rfl (zl_kd 8) (zM_P hMξ (List.mem_of_getElem? (i := 2) rfl)) (by omega) (show 8 < 5580 by omega) ((zp_set_ne (Or.inl (zM_ne hMξ (List.mem_of_getElem? (i := 2) rfl) (List.mem_of_getElem? (i := 0) rfl) (by decide)))).trans (((zM_G hMξ (List.mem_of_getElem? (i := 2) rfl) (2000 + 8)).trans (hVξ 3 (2000 + 8) (Or.inl (by decide)))))) (fun _ => ?_)
            refine zp_iast (j := 0) (pc := 158) hx hb hwξ heffξ (zd_X12_decade (158, .iastore, 1, 0, []) (List.mem_of_getElem? (i := 88) rfl)) (show zp_ia 1 91 = some (14, 0, 0, (-2147483648), 2147483647) from rfl) (zM_P hMξ (List.mem_of_getElem? (i := 34) rfl)) (by omega) (by omega) (zp_o0 (by omega) (by omega) (by omega) (by omega)) rfl ?_
            refine zp_load (pc := 159) hx hb (zd_X12_decade (159, .aload_n 0, 1, 0, []) (List.mem_of_getElem? (i := 89) rfl)) rfl (j := 3) rfl ?_
            refine zp_getf (n := (A 62 : Int)) (pc := 160) hx hb hEξ hwξ (zd_X12_decade (160, .getfield 155, 3, 0, []) (List.mem_of_getElem? (i := 90) rfl)) (j := 80) rfl rfl rfl (zM_P hMξ (List.mem_of_getElem? (i := 0) rfl)) ((zp_set_ne (Or.inl (zM_ne hMξ (List.mem_of_getElem? (i := 0) rfl) (List.mem_of_getElem? (i := 34) rfl) (by decide)))).trans ((zp_set_ne (Or.inr (by decide))).trans (((zM_G hMξ (List.mem_of_getElem? (i := 0) rfl) 62).trans (zM_F hMξ (List.mem_of_getElem? (i := 33) rfl)))))) ?_
            refine zp_const (pc := 163) hx hb (zd_X12_decade (163, .iconst 1, 1, 0, []) (List.mem_of_getElem? (i := 91) rfl)) rfl rfl ?_
            refine zp_load (pc := 164) hx hb (zd_X12_decade (164, .aload_n 0, 1, 0, []) (List.mem_of_getElem? (i := 92) rfl)) rfl (j := 3) rfl ?_
            refine zp_getf (n := (A 3 : Int)) (pc := 165) hx hb hEξ hwξ (zd_X12_decade (165, .getfield 13, 3, 0, []) (List.mem_of_getElem? (i := 93) rfl)) (j := 21) rfl rfl rfl (zM_P hMξ (List.mem_of_getElem? (i := 0) rfl)) ((zp_set_ne (Or.inl (zM_ne hMξ (List.mem_of_getElem? (i := 0) rfl) (List.mem_of_getElem? (i := 34) rfl) (by decide)))).trans ((zp_set_ne (Or.inr (by decide))).trans (((zM_G hMξ (List.mem_of_getElem? (i := 0) rfl) 3).trans (zM_F hMξ (List.mem_of_getElem? (i := 1) rfl)))))) ?_
            refine zp_const (pc := 168) hx hb (zd_X12_decade (168, .bipush 9, 2, 0, []) (List.mem_of_getElem? (i := 94) rfl)) rfl rfl ?_
            refine zp_ialdT (j := 9) (v := (V 3 (2000 + 9))) (pc := 170) hx hb hwξ (zd_X12_decade (170, .iaload, 1, 0, []) (List.mem_of_getElem? (i := 95) rfl)) zl_T59 rfl (zl_kd 9) (zM_P hMξ (List.mem_of_getElem? (i := 2) rfl)) (by omega) (show 9 < 5580 by omega) ((zp_set_ne (Or.inl (zM_ne hMξ (List.mem_of_getElem? (i := 2) rfl) (List.mem_of_getElem? (i := 34) rfl) (by decide)))).trans ((zp_set_ne (Or.inl (zM_ne hMξ (List.mem_of_getElem? (i := 2) rfl) (List.mem_of_getElem? (i := 0) rfl) (by decide)))).trans (((zM_G hMξ (List.mem_of_getElem? (i := 2) rfl) (2000 + 9)).trans (hVξ 3 (2000 + 9) (Or.inl (by decide))))))) (fun _ => ?_)
            refine zp_iast (j := 1) (pc := 171) hx hb hwξ heffξ (zd_X12_decade (171, .iastore, 1, 0, []) (List.mem_of_getElem? (i := 96) rfl)) (show zp_ia 1 91 = some (14, 0, 0, (-2147483648), 2147483647) from rfl) (zM_P hMξ (List.mem_of_getElem? (i := 34) rfl)) (by omega) (by omega) (zp_o0 (by omega) (by omega) (by omega) (by omega)) rfl ?_
            refine zp_load (pc := 172) hx hb (zd_X12_decade (172, .aload_n 0, 1, 0, []) (List.mem_of_getElem? (i := 97) rfl)) rfl (j := 3) rfl ?_
            refine zp_getf (n := (A 62 : Int)) (pc := 173) hx hb hEξ hwξ (zd_X12_decade (173, .getfield 155, 3, 0, []) (List.mem_of_getElem? (i := 98) rfl)) (j := 80) rfl rfl rfl (zM_P hMξ (List.mem_of_getElem? (i := 0) rfl)) ((zp_set_ne (Or.inl (zM_ne hMξ (List.mem_of_getElem? (i := 0) rfl) (List.mem_of_getElem? (i := 34) rfl) (by decide)))).trans ((zp_set_ne (Or.inl (zM_ne hMξ (List.mem_of_getElem? (i := 0) rfl) (List.mem_of_getElem? (i := 34) rfl) (by decide)))).trans ((zp_set_ne (Or.inr (by decide))).trans (((zM_G hMξ (List.mem_of_getElem? (i := 0) rfl) 62).trans (zM_F hMξ (List.mem_of_getElem? (i := 33) rfl))))))) ?_
            refine zp_const (pc := 176) hx hb (zd_X12_decade (176, .iconst 2, 1, 0, []) (List.mem_of_getElem? (i := 99) rfl)) rfl rfl ?_
            refine zp_load (pc := 177) hx hb (zd_X12_decade (177, .aload_n 0, 1, 0, []) (List.mem_of_getElem? (i := 100) rfl)) rfl (j := 3) rfl ?_
            refine zp_call (pc := 178) (how := 0) (idx := 411) (mi := 241) (S := [(0, 2), (2, (A 62 : Int))]) hx hb hEξ hwξ heffξ hrmξ (zX_toda hWξ A (zp_set (zp_set (zp_set M 0 63 (n1ξ : Int)) 62 (2000 + 0) (V 3 (2000 + 8))) 62 (2000 + 1) (V 3 (2000 + 9)))) rfl (j := 41) rfl rfl (by decide +kernel) (zd_X12_decade (178, .invokevirtual 411, 3, 0, []) (List.mem_of_getElem? (i := 101) rfl)) [(A 0 : Int)] rfl ⟨zp_o2 (zM_P hMξ (List.mem_of_getElem? (i := 0) rfl)), trivial⟩ (Nat.le_of_ble_eq_true rfl) ⟨(zM_setE (zM_setE (zM_set hMξ (List.mem_of_getElem? (i := 0) rfl) (by decide)) (List.mem_of_getElem? (i := 34) rfl)) (List.mem_of_getElem? (i := 34) rfl)), rfl, (show -2147483648 ≤ (zp_set (zp_set (zp_set M 0 63 (n1ξ : Int)) 62 (2000 + 0) (V 3 (2000 + 8))) 62 (2000 + 1) (V 3 (2000 + 9))) 3 (2000 + 5) ∧ (zp_set (zp_set (zp_set M 0 63 (n1ξ : Int)) 62 (2000 + 0) (V 3 (2000 + 8))) 62 (2000 + 1) (V 3 (2000 + 9))) 3 (2000 + 5) ≤ 2147483647 by rw [((zp_set_ne (Or.inl (by decide))).trans ((zp_set_ne (Or.inl (by decide))).trans ((zp_set_ne (Or.inl (by decide))).trans ((hVξ 3 (2000 + 5) (Or.inl (by decide)))))))]; omega)⟩ (fun al halξ rnd600ξ Pd600 Gd600 hextd600ξ hfrd600ξ hokd600ξ hcsd600ξ hpsid600ξ => ?_)
            obtain rfl := List.mem_singleton.mp halξ
            have hrd600ξ := zp_int (hokd600ξ _ rfl).1
            obtain ⟨hPed600ξ, hGed600ξ, htd600ξ⟩ := hpsid600ξ
            rw [hPed600ξ, hGed600ξ]
            clear hextd600ξ hfrd600ξ hcsd600ξ hPed600ξ hGed600ξ
            have htd600ξ : rnd600ξ = (V 3 (2000 + 5)) := (Eq.trans htd600ξ) (((zp_set_ne (Or.inl (by decide))).trans ((zp_set_ne (Or.inl (by decide))).trans ((zp_set_ne (Or.inl (by decide))).trans ((hVξ 3 (2000 + 5) (Or.inl (by decide))))))))
            have htd600ξ := (Eq.symm htd600ξ)
            subst htd600ξ
            refine zp_iast (j := 2) (pc := 181) hx hb hwξ heffξ (zd_X12_decade (181, .iastore, 1, 0, []) (List.mem_of_getElem? (i := 102) rfl)) (show zp_ia 1 91 = some (14, 0, 0, (-2147483648), 2147483647) from rfl) (zM_P hMξ (List.mem_of_getElem? (i := 34) rfl)) (by omega) (by omega) (zp_o0 (by omega) (by omega) (by omega) (by omega)) rfl ?_
            refine zp_load (pc := 182) hx hb (zd_X12_decade (182, .aload_n 0, 1, 0, []) (List.mem_of_getElem? (i := 103) rfl)) rfl (j := 3) rfl ?_
            refine zp_getf (n := (A 62 : Int)) (pc := 183) hx hb hEξ hwξ (zd_X12_decade (183, .getfield 155, 3, 0, []) (List.mem_of_getElem? (i := 104) rfl)) (j := 80) rfl rfl rfl (zM_P hMξ (List.mem_of_getElem? (i := 0) rfl)) ((zp_set_ne (Or.inl (zM_ne hMξ (List.mem_of_getElem? (i := 0) rfl) (List.mem_of_getElem? (i := 34) rfl) (by decide)))).trans ((zp_set_ne (Or.inl (zM_ne hMξ (List.mem_of_getElem? (i := 0) rfl) (List.mem_of_getElem? (i := 34) rfl) (by decide)))).trans ((zp_set_ne (Or.inl (zM_ne hMξ (List.mem_of_getElem? (i := 0) rfl) (List.mem_of_getElem? (i := 34) rfl) (by decide)))).trans ((zp_set_ne (Or.inr (by decide))).trans (((zM_G hMξ (List.mem_of_getElem? (i := 0) rfl) 62).trans (zM_F hMξ (List.mem_of_getElem? (i := 33) rfl)))))))) ?_
            refine zp_const (pc := 186) hx hb (zd_X12_decade (186, .iconst 3, 1, 0, []) (List.mem_of_getElem? (i := 105) rfl)) rfl rfl ?_
            refine zp_load (pc := 187) hx hb (zd_X12_decade (187, .iload 4, 2, 0, []) (List.mem_of_getElem? (i := 106) rfl)) rfl (j := 1) rfl ?_
            refine zp_iast (j := 3) (pc := 189) hx hb hwξ heffξ (zd_X12_decade (189, .iastore, 1, 0, []) (List.mem_of_getElem? (i := 107) rfl)) (show zp_ia 1 91 = some (14, 0, 0, (-2147483648), 2147483647) from rfl) (zM_P hMξ (List.mem_of_getElem? (i := 34) rfl)) (by omega) (by omega) (zp_o0 (by omega) (by omega) (by omega) (by omega)) rfl ?_
            refine zp_const (pc := 190) hx hb (zd_X12_decade (190, .iconst 0, 1, 0, []) (List.mem_of_getElem? (i := 108) rfl)) rfl rfl ?_
            refine zp_store (L' := [(5, 0, 0), (4, 0, r9ξ), (3, 0, e9ξ), (0, 2, (A 0 : Int)), (1, 0, p1ξ), (2, 0, p2ξ)]) (pc := 191) hx hb hnLξ (zd_X12_decade (191, .istore 5, 2, 0, []) (List.mem_of_getElem? (i := 109) rfl)) rfl rfl rfl ?_
            have hSeξ : S = (e9ξ, r9ξ, V) := hzξ
            have hS1ξ : S.1 = e9ξ := by rw [hSeξ]
            have hS2ξ : S.2.1 = r9ξ := by rw [hSeξ]
            have hS3ξ : S.2.2 = V := by rw [hSeξ]
            refine zp_drop (L' := [(5, 0, 0), (4, 0, r9ξ), (3, 0, e9ξ), (0, 2, (A 0 : Int)), (1, 0, p1ξ), (2, 0, p2ξ)]) (by simp) ?_
            rw [← hS1ξ]
            refine loopw n1ξ 0 r9ξ (zp_set (zp_set (zp_set (zp_set (zp_set V 0 63 (n1ξ : Int)) 62 (2000 + 0) (V 3 (2000 + 8))) 62 (2000 + 1) (V 3 (2000 + 9))) 62 (2000 + 2) (V 3 (2000 + 5))) 62 (2000 + 3) r9ξ) (zp_set (zp_set (zp_set (zp_set (zp_set M 0 63 (n1ξ : Int)) 62 (2000 + 0) (V 3 (2000 + 8))) 62 (2000 + 1) (V 3 (2000 + 9))) 62 (2000 + 2) (V 3 (2000 + 5))) 62 (2000 + 3) r9ξ) (zp_set (zp_set (zp_set (zp_set (zp_set G (A 0) 63 (n1ξ : Int)) (A 62) (2000 + 0) (V 3 (2000 + 8))) (A 62) (2000 + 1) (V 3 (2000 + 9))) (A 62) (2000 + 2) (V 3 (2000 + 5))) (A 62) (2000 + 3) r9ξ) (by omega) (by omega) (by omega) (by rw [hS3ξ]; exact hKξ) (by rw [hS3ξ]; exact hIvξ) (fun o k h1ξ h2ξ => ?_) ?_ ?_ ?_ ?_ ?_ (fun w hwξ => absurd hwξ (Nat.not_lt_zero w)) (zM_setE (zM_setE (zM_setE (zM_setE (zM_set hMξ (List.mem_of_getElem? (i := 0) rfl) (by decide)) (List.mem_of_getElem? (i := 34) rfl)) (List.mem_of_getElem? (i := 34) rfl)) (List.mem_of_getElem? (i := 34) rfl)) (List.mem_of_getElem? (i := 34) rfl)) (zV_set (zV_set (zV_set (zV_set (zV_set hVξ))))) (zSb_set (by decide) (zSb_set (by decide) (zSb_set (by decide) (zSb_set (by decide) (zSb_set (by decide) hSbξ)))))
            · rw [hS3ξ]
              rw [zp_set_ne (by omega), zp_set_ne (by omega), zp_set_ne (by omega), zp_set_ne (by omega), zp_set_ne (by omega)]
            · exact (zp_set_ne (Or.inl (by decide))).trans ((zp_set_ne (Or.inl (by decide))).trans ((zp_set_ne (Or.inl (by decide))).trans ((zp_set_ne (Or.inl (by decide))).trans (zp_set_self))))
            · rw [hS3ξ]
              exact (zp_set_ne (Or.inr (by decide))).trans ((zp_set_ne (Or.inr (by decide))).trans ((zp_set_ne (Or.inr (by decide))).trans (zp_set_self)))
            · rw [hS3ξ]
              exact (zp_set_ne (Or.inr (by decide))).trans ((zp_set_ne (Or.inr (by decide))).trans (zp_set_self))
            · rw [hS3ξ]
              exact (zp_set_ne (Or.inr (by decide))).trans (zp_set_self)
            · rw [hS2ξ]
              exact zp_set_self
          · exfalso
            omega
        | succ q9ξ ih =>
          intro k9ξ r9ξ e9ξ V M G hqξ he0ξ he1ξ hr0ξ hr1ξ hDξ hKξ hzξ hMξ hVξ hSbξ
          have hIvξ := hDξ.1
          have hLVξ := hIvξ.1
          have hk60ξ : (k9ξ : Int) ≤ 60 := by omega
          have he6ξ : e9ξ ≤ 600 := by omega
          have hr6ξ : r9ξ ≤ 60 := by omega
          have hd5ξ := hIvξ.2.2.2.2.2.1
          have ht5ξ := hIvξ.2.2.2.2.1
          have hn1ξ : V 3 (2000 + 1) = (n1ξ : Int) := hIvξ.2.2.1.2.2.1
          have h9bξ := hLVξ.1 9 (by decide)
          have h8bξ := hLVξ.1 8 (by decide)
          have hnnξ : n1ξ ≤ 10 := hIvξ.2.2.1.1
          have rest : V 3 (2000 + 5) < 999 → ∀ (M : Nat → Nat → Int) (G : Nat → Nat → Int), zM A zYr zFr M u.1 G → (∀ o k, zNs o k → M o k = (zr_m V Lwξ) o k) → zSb M → zp_J p l e R s m args below meth c Q w u [] 96 [(5, 0, (k9ξ : Int)), (4, 0, r9ξ), (3, 0, e9ξ), (0, 2, (A 0 : Int)), (1, 0, p1ξ), (2, 0, p2ξ)] [] u.1 G := by
            intro hdayξ M G hMξ hVξ hSbξ
            have hDmξ := zDi_m hDξ
            have hKmξ : zDkq V1 (zr_m V Lwξ) := zDk_t hKξ zDk_m
            have h5mξ : (zr_m V Lwξ) 3 (2000 + 5) = V 3 (2000 + 5) := zr_m_5
            obtain ⟨Vm, hVmξ⟩ : ∃ Vm, Vm = zr_m V Lwξ := ⟨_, rfl⟩
            have hz1ξ : S = if Vm 3 (2000 + 10) = -1 then zr_dc n1ξ npξ Lwξ q9ξ e9ξ r9ξ (zp_set Vm 3 (2000 + 5) (Vm 3 (2000 + 5) + 1)) else zr_dc n1ξ npξ Lwξ q9ξ (e9ξ + (zf_rud Vm n1ξ npξ Lwξ).1) (r9ξ + 1) (zf_rud Vm n1ξ npξ Lwξ).2 := by
              rw [hzξ, zr_dc, if_neg (by omega), ← hVmξ]
            rw [← hVmξ] at hDmξ hKmξ h5mξ hVξ
            have hImξ := hDmξ.1
            have hLVmξ := hImξ.1
            have htmξ := hImξ.2.2.2.2.1
            have hOimξ := hImξ.2.2.2.2.2.2.2
            refine zp_load (pc := 96) hx hb (zd_X12_decade (96, .aload_n 0, 1, 0, []) (List.mem_of_getElem? (i := 52) rfl)) rfl (j := 3) rfl ?_
            refine zp_getf (n := (A 3 : Int)) (pc := 97) hx hb hEξ hwξ (zd_X12_decade (97, .getfield 13, 3, 0, []) (List.mem_of_getElem? (i := 53) rfl)) (j := 21) rfl rfl rfl (zM_P hMξ (List.mem_of_getElem? (i := 0) rfl)) ((zM_G hMξ (List.mem_of_getElem? (i := 0) rfl) 3).trans (zM_F hMξ (List.mem_of_getElem? (i := 1) rfl))) ?_
            refine zp_const (pc := 100) hx hb (zd_X12_decade (100, .bipush 10, 2, 0, []) (List.mem_of_getElem? (i := 54) rfl)) rfl rfl ?_
            refine zp_ialdT (j := 10) (v := (Vm 3 (2000 + 10))) (pc := 102) hx hb hwξ (zd_X12_decade (102, .iaload, 1, 0, []) (List.mem_of_getElem? (i := 55) rfl)) zl_T59 rfl (zl_kd 10) (zM_P hMξ (List.mem_of_getElem? (i := 2) rfl)) (by omega) (show 10 < 5580 by omega) ((zM_G hMξ (List.mem_of_getElem? (i := 2) rfl) (2000 + 10)).trans (hVξ 3 (2000 + 10) (Or.inl (by decide)))) (fun _ => ?_)
            refine zp_const (pc := 103) hx hb (zd_X12_decade (103, .iconst (-1), 1, 0, []) (List.mem_of_getElem? (i := 56) rfl)) rfl rfl ?_
            refine zp_icmp (pc := 104) (tgt := 120) hx hb (zd_X12_decade (104, .if_icmp .ne 16, 3, 0, []) (List.mem_of_getElem? (i := 57) rfl)) rfl (fun (hc602ξ : ¬ (Vm 3 (2000 + 10)) = (-1)) => ?_) (fun (hc602ξ : ¬ (¬ (Vm 3 (2000 + 10)) = (-1))) => ?_)
            · refine zp_load (pc := 120) hx hb (zd_X12_decade (120, .iload_n 3, 1, 0, []) (List.mem_of_getElem? (i := 67) rfl)) rfl (j := 2) rfl ?_
              refine zp_load (pc := 121) hx hb (zd_X12_decade (121, .aload_n 0, 1, 0, []) (List.mem_of_getElem? (i := 68) rfl)) rfl (j := 3) rfl ?_
              refine zp_call (pc := 122) (how := 0) (idx := 511) (mi := 284) (S := [(0, e9ξ)]) hx hb hEξ hwξ heffξ hrmξ (zX_rud hWξ A Vm n1ξ npξ Lwξ) rfl (j := 67) rfl rfl (by decide +kernel) (zd_X12_decade (122, .invokevirtual 511, 3, 0, []) (List.mem_of_getElem? (i := 69) rfl)) [(A 0 : Int)] rfl ⟨zp_o2 (zM_P hMξ (List.mem_of_getElem? (i := 0) rfl)), trivial⟩ (Nat.le_of_ble_eq_true rfl) ⟨⟨M, hMξ, hVξ, hSbξ⟩, rfl, hLVmξ, hImξ.2.2.1, hImξ.2.2.2.1, ⟨by omega, by omega⟩, ⟨by omega, by omega⟩, hOimξ⟩ (fun al halξ rnu603ξ Pu603 Gu603 hextu603ξ hfru603ξ hoku603ξ hcsu603ξ hpsiu603ξ => ?_)
              obtain rfl := List.mem_singleton.mp halξ
              have hru603ξ := zp_int (hoku603ξ _ rfl).1
              obtain ⟨hPeu603ξ, ⟨Mu603, hMu603ξ, hVu603ξ, hSbu603ξ⟩, htu603ξ⟩ := hpsiu603ξ
              subst hPeu603ξ
              clear hextu603ξ hfru603ξ hcsu603ξ hoku603ξ
              have hVu603ξ : ∀ o k, zNs o k → Mu603 o k = (zf_rud Vm n1ξ npξ Lwξ).2 o k := hVu603ξ
              have htu603ξ : rnu603ξ = ((zf_rud Vm n1ξ npξ Lwξ).1) := htu603ξ
              have htu603ξ := (Eq.symm htu603ξ)
              subst htu603ξ
              have hcbξ := zc_ctb (X := zd_X Vm n1ξ npξ Lwξ (Vm 3 (2000 + 10))) (w := n1ξ)
              have hcbξ : 0 ≤ ((zf_rud Vm n1ξ npξ Lwξ).1) ∧ ((zf_rud Vm n1ξ npξ Lwξ).1) ≤ (n1ξ : Int) := hcbξ
              refine zp_add (n := (e9ξ + ((zf_rud Vm n1ξ npξ Lwξ).1))) (pc := 125) hx hb (zd_X12_decade (125, .iadd, 1, 0, []) (List.mem_of_getElem? (i := 70) rfl)) (by omega) (zp_r0 (by omega) (by omega)) ?_
              refine zp_store (L' := [(3, 0, (e9ξ + ((zf_rud Vm n1ξ npξ Lwξ).1))), (5, 0, (k9ξ : Int)), (4, 0, r9ξ), (0, 2, (A 0 : Int)), (1, 0, p1ξ), (2, 0, p2ξ)]) (pc := 126) hx hb hnLξ (zd_X12_decade (126, .istore_n 3, 1, 0, []) (List.mem_of_getElem? (i := 71) rfl)) rfl rfl rfl ?_
              refine zp_iinc (L' := [(4, 0, (r9ξ + 1)), (3, 0, (e9ξ + ((zf_rud Vm n1ξ npξ Lwξ).1))), (5, 0, (k9ξ : Int)), (0, 2, (A 0 : Int)), (1, 0, p1ξ), (2, 0, p2ξ)]) (n := (r9ξ + 1)) (pc := 127) hx hb hnLξ (zd_X12_decade (127, .iinc 4 1, 3, 0, []) (List.mem_of_getElem? (i := 72) rfl)) (j := 2) rfl (by omega) (zp_r0 (by omega) (by omega)) rfl rfl ?_
              refine zp_iinc (L' := [(5, 0, ((k9ξ : Int) + 1)), (4, 0, (r9ξ + 1)), (3, 0, (e9ξ + ((zf_rud Vm n1ξ npξ Lwξ).1))), (0, 2, (A 0 : Int)), (1, 0, p1ξ), (2, 0, p2ξ)]) (n := ((k9ξ : Int) + 1)) (pc := 130) hx hb hnLξ (zd_X12_decade (130, .iinc 5 1, 3, 0, []) (List.mem_of_getElem? (i := 73) rfl)) (j := 2) rfl (by omega) (zp_r0 (by omega) (by omega)) rfl rfl ?_
              refine zp_goto (tgt := 55) (pc := 133) hx hb (zd_X12_decade (133, .goto (-78), 3, 0, []) (List.mem_of_getElem? (i := 74) rfl)) rfl ?_
              refine zp_drop (L' := [(5, 0, ((k9ξ : Int) + 1)), (4, 0, (r9ξ + 1)), (3, 0, (e9ξ + ((zf_rud Vm n1ξ npξ Lwξ).1))), (0, 2, (A 0 : Int)), (1, 0, p1ξ), (2, 0, p2ξ)]) (by simp) ?_
              refine ih (k9ξ + 1) (r9ξ + 1) (e9ξ + ((zf_rud Vm n1ξ npξ Lwξ).1)) (zf_rud Vm n1ξ npξ Lwξ).2 Mu603 Gu603 (by omega) (by omega) (by omega) (by omega) (by omega) (zDi_rud hDmξ (by omega)) (zDk_t hKmξ (zDk_rud hnnξ hImξ.2.2.1.2.1)) ?_ hMu603ξ hVu603ξ hSbu603ξ
              rw [hz1ξ, if_neg (by omega)]
            · refine zp_load (pc := 107) hx hb (zd_X12_decade (107, .aload_n 0, 1, 0, []) (List.mem_of_getElem? (i := 58) rfl)) rfl (j := 3) rfl ?_
              refine zp_getf (n := (A 3 : Int)) (pc := 108) hx hb hEξ hwξ (zd_X12_decade (108, .getfield 13, 3, 0, []) (List.mem_of_getElem? (i := 59) rfl)) (j := 21) rfl rfl rfl (zM_P hMξ (List.mem_of_getElem? (i := 0) rfl)) ((zM_G hMξ (List.mem_of_getElem? (i := 0) rfl) 3).trans (zM_F hMξ (List.mem_of_getElem? (i := 1) rfl))) ?_
              refine zp_const (pc := 111) hx hb (zd_X12_decade (111, .iconst 5, 1, 0, []) (List.mem_of_getElem? (i := 60) rfl)) rfl rfl ?_
              refine zp_dup2 (pc := 112) hx hb (zd_X12_decade (112, .dup2, 1, 0, []) (List.mem_of_getElem? (i := 61) rfl)) (show (0 : Nat) ≠ 1 by decide) (show (2 : Nat) ≠ 1 by decide) ?_
              refine zp_ialdT (j := 5) (v := (Vm 3 (2000 + 5))) (pc := 113) hx hb hwξ (zd_X12_decade (113, .iaload, 1, 0, []) (List.mem_of_getElem? (i := 62) rfl)) zl_T59 rfl (zl_kd 5) (zM_P hMξ (List.mem_of_getElem? (i := 2) rfl)) (by omega) (show 5 < 5580 by omega) ((zM_G hMξ (List.mem_of_getElem? (i := 2) rfl) (2000 + 5)).trans (hVξ 3 (2000 + 5) (Or.inl (by decide)))) (fun _ => ?_)
              refine zp_const (pc := 114) hx hb (zd_X12_decade (114, .iconst 1, 1, 0, []) (List.mem_of_getElem? (i := 63) rfl)) rfl rfl ?_
              refine zp_add (n := ((Vm 3 (2000 + 5)) + 1)) (pc := 115) hx hb (zd_X12_decade (115, .iadd, 1, 0, []) (List.mem_of_getElem? (i := 64) rfl)) (by omega) (zp_r0 (by omega) (by omega)) ?_
              refine zp_iastR (j := 5) (pc := 116) hx hb hwξ heffξ (zd_X12_decade (116, .iastore, 1, 0, []) (List.mem_of_getElem? (i := 65) rfl)) (zM_P hMξ (List.mem_of_getElem? (i := 2) rfl)) (by omega) (show 5 < 180 by omega) (zr_st (lo := (-2147483648)) (hi := 2147483647) ⟨rfl, rfl, rfl⟩ (by omega) (by omega) (by omega) (by omega)) ⟨1002, rfl, zp_1002 (by omega)⟩ ?_
              refine zp_goto (tgt := 130) (pc := 117) hx hb (zd_X12_decade (117, .goto 13, 3, 0, []) (List.mem_of_getElem? (i := 66) rfl)) rfl ?_
              refine zp_iinc (L' := [(5, 0, ((k9ξ : Int) + 1)), (4, 0, r9ξ), (3, 0, e9ξ), (0, 2, (A 0 : Int)), (1, 0, p1ξ), (2, 0, p2ξ)]) (n := ((k9ξ : Int) + 1)) (pc := 130) hx hb hnLξ (zd_X12_decade (130, .iinc 5 1, 3, 0, []) (List.mem_of_getElem? (i := 73) rfl)) (j := 0) rfl (by omega) (zp_r0 (by omega) (by omega)) rfl rfl ?_
              refine zp_goto (tgt := 55) (pc := 133) hx hb (zd_X12_decade (133, .goto (-78), 3, 0, []) (List.mem_of_getElem? (i := 74) rfl)) rfl ?_
              refine zp_drop (L' := [(5, 0, ((k9ξ : Int) + 1)), (4, 0, r9ξ), (3, 0, e9ξ), (0, 2, (A 0 : Int)), (1, 0, p1ξ), (2, 0, p2ξ)]) (by simp) ?_
              refine ih (k9ξ + 1) r9ξ e9ξ (zp_set Vm 3 (2000 + 5) ((Vm 3 (2000 + 5)) + 1)) (zp_set M 3 (2000 + 5) ((Vm 3 (2000 + 5)) + 1)) (zp_set G (A 3) (2000 + 5) ((Vm 3 (2000 + 5)) + 1)) (by omega) (by omega) (by omega) (by omega) (by omega) (zDi_5 hDmξ (by omega)) (zDk_t hKmξ (zDk_3 (by decide) (by decide))) ?_ (zM_setE hMξ (List.mem_of_getElem? (i := 2) rfl)) (zV_set hVξ) (zSb_set (by decide) hSbξ)
              rw [hz1ξ, if_pos (by omega)]
          refine zp_load (pc := 55) hx hb (zd_X12_decade (55, .iload 5, 2, 0, []) (List.mem_of_getElem? (i := 32) rfl)) rfl (j := 0) rfl ?_
          refine zp_load (pc := 57) hx hb (zd_X12_decade (57, .iload_n 2, 1, 0, []) (List.mem_of_getElem? (i := 33) rfl)) rfl (j := 5) rfl ?_
          refine zp_icmp (pc := 58) (tgt := 136) hx hb (zd_X12_decade (58, .if_icmp .ge 78, 3, 0, []) (List.mem_of_getElem? (i := 34) rfl)) rfl (fun (hc605ξ : p2ξ ≤ (k9ξ : Int)) => ?_) (fun (hc605ξ : ¬ (p2ξ ≤ (k9ξ : Int))) => ?_)
          · exfalso
            omega
          · refine zp_load (pc := 61) hx hb (zd_X12_decade (61, .aload_n 0, 1, 0, []) (List.mem_of_getElem? (i := 35) rfl)) rfl (j := 3) rfl ?_
            refine zp_call (pc := 62) (how := 0) (idx := 411) (mi := 241) (S := []) hx hb hEξ hwξ heffξ hrmξ (zX_toda hWξ A M) rfl (j := 41) rfl rfl (by decide +kernel) (zd_X12_decade (62, .invokevirtual 411, 3, 0, []) (List.mem_of_getElem? (i := 36) rfl)) [(A 0 : Int)] rfl ⟨zp_o2 (zM_P hMξ (List.mem_of_getElem? (i := 0) rfl)), trivial⟩ (Nat.le_of_ble_eq_true rfl) ⟨hMξ, rfl, (show -2147483648 ≤ M 3 (2000 + 5) ∧ M 3 (2000 + 5) ≤ 2147483647 by rw [(hVξ 3 (2000 + 5) (Or.inl (by decide)))]; omega)⟩ (fun al halξ rnd606ξ Pd606 Gd606 hextd606ξ hfrd606ξ hokd606ξ hcsd606ξ hpsid606ξ => ?_)
            obtain rfl := List.mem_singleton.mp halξ
            have hrd606ξ := zp_int (hokd606ξ _ rfl).1
            obtain ⟨hPed606ξ, hGed606ξ, htd606ξ⟩ := hpsid606ξ
            rw [hPed606ξ, hGed606ξ]
            clear hextd606ξ hfrd606ξ hcsd606ξ hPed606ξ hGed606ξ
            have htd606ξ : rnd606ξ = (V 3 (2000 + 5)) := (Eq.trans htd606ξ) ((hVξ 3 (2000 + 5) (Or.inl (by decide))))
            have htd606ξ := (Eq.symm htd606ξ)
            subst htd606ξ
            refine zp_const (pc := 65) hx hb (zd_X12_decade (65, .sipush 999, 3, 0, []) (List.mem_of_getElem? (i := 37) rfl)) rfl rfl ?_
            refine zp_icmp (pc := 68) (tgt := 136) hx hb (zd_X12_decade (68, .if_icmp .ge 68, 3, 0, []) (List.mem_of_getElem? (i := 38) rfl)) rfl (fun (hc607ξ : 999 ≤ (V 3 (2000 + 5))) => ?_) (fun (hc607ξ : ¬ (999 ≤ (V 3 (2000 + 5)))) => ?_)
            · refine zp_load (pc := 136) hx hb (zd_X12_decade (136, .aload_n 0, 1, 0, []) (List.mem_of_getElem? (i := 75) rfl)) rfl (j := 3) rfl ?_
              refine zp_load (pc := 137) hx hb (zd_X12_decade (137, .aload_n 0, 1, 0, []) (List.mem_of_getElem? (i := 76) rfl)) rfl (j := 3) rfl ?_
              refine zp_getf (n := (A 3 : Int)) (pc := 138) hx hb hEξ hwξ (zd_X12_decade (138, .getfield 13, 3, 0, []) (List.mem_of_getElem? (i := 77) rfl)) (j := 21) rfl rfl rfl (zM_P hMξ (List.mem_of_getElem? (i := 0) rfl)) ((zM_G hMξ (List.mem_of_getElem? (i := 0) rfl) 3).trans (zM_F hMξ (List.mem_of_getElem? (i := 1) rfl))) ?_
              refine zp_const (pc := 141) hx hb (zd_X12_decade (141, .iconst 1, 1, 0, []) (List.mem_of_getElem? (i := 78) rfl)) rfl rfl ?_
              refine zp_ialdT (j := 1) (v := (n1ξ : Int)) (pc := 142) hx hb hwξ (zd_X12_decade (142, .iaload, 1, 0, []) (List.mem_of_getElem? (i := 79) rfl)) zl_T59 rfl (zl_kd 1) (zM_P hMξ (List.mem_of_getElem? (i := 2) rfl)) (by omega) (show 1 < 5580 by omega) (((zM_G hMξ (List.mem_of_getElem? (i := 2) rfl) (2000 + 1)).trans (hVξ 3 (2000 + 1) (Or.inl (by decide)))).trans hn1ξ) (fun _ => ?_)
              refine zp_putf (pc := 143) hx hb hEξ hwξ heffξ (zd_X12_decade (143, .putfield 158, 3, 0, []) (List.mem_of_getElem? (i := 80) rfl)) (j := 81) rfl rfl rfl (zM_P hMξ (List.mem_of_getElem? (i := 0) rfl)) (zp_o0 (by omega) (by omega) (by omega) (by omega)) ?_
              refine zp_load (pc := 146) hx hb (zd_X12_decade (146, .aload_n 0, 1, 0, []) (List.mem_of_getElem? (i := 81) rfl)) rfl (j := 3) rfl ?_
              refine zp_getf (n := (A 62 : Int)) (pc := 147) hx hb hEξ hwξ (zd_X12_decade (147, .getfield 155, 3, 0, []) (List.mem_of_getElem? (i := 82) rfl)) (j := 80) rfl rfl rfl (zM_P hMξ (List.mem_of_getElem? (i := 0) rfl)) ((zp_set_ne (Or.inr (by decide))).trans (((zM_G hMξ (List.mem_of_getElem? (i := 0) rfl) 62).trans (zM_F hMξ (List.mem_of_getElem? (i := 33) rfl))))) ?_
              refine zp_const (pc := 150) hx hb (zd_X12_decade (150, .iconst 0, 1, 0, []) (List.mem_of_getElem? (i := 83) rfl)) rfl rfl ?_
              refine zp_load (pc := 151) hx hb (zd_X12_decade (151, .aload_n 0, 1, 0, []) (List.mem_of_getElem? (i := 84) rfl)) rfl (j := 3) rfl ?_
              refine zp_getf (n := (A 3 : Int)) (pc := 152) hx hb hEξ hwξ (zd_X12_decade (152, .getfield 13, 3, 0, []) (List.mem_of_getElem? (i := 85) rfl)) (j := 21) rfl rfl rfl (zM_P hMξ (List.mem_of_getElem? (i := 0) rfl)) ((zp_set_ne (Or.inr (by decide))).trans (((zM_G hMξ (List.mem_of_getElem? (i := 0) rfl) 3).trans (zM_F hMξ (List.mem_of_getElem? (i := 1) rfl))))) ?_
              refine zp_const (pc := 155) hx hb (zd_X12_decade (155, .bipush 8, 2, 0, []) (List.mem_of_getElem? (i := 86) rfl)) rfl rfl ?_
              refine zp_ialdT (j := 8) (v := (V 3 (2000 + 8))) (pc := 157) hx hb hwξ (zd_X12_decade (157, .iaload, 1, 0, []) (List.mem_of_getElem? (i := 87) rfl)) zl_T59 rfl (zl_kd 8) (zM_P hMξ (List.mem_of_getElem? (i := 2) rfl)) (by omega) (show 8 < 5580 by omega) ((zp_set_ne (Or.inl (zM_ne hMξ (List.mem_of_getElem? (i := 2) rfl) (List.mem_of_getElem? (i := 0) rfl) (by decide)))).trans (((zM_G hMξ (List.mem_of_getElem? (i := 2) rfl) (2000 + 8)).trans (hVξ 3 (2000 + 8) (Or.inl (by decide)))))) (fun _ => ?_)
              refine zp_iast (j := 0) (pc := 158) hx hb hwξ heffξ (zd_X12_decade (158, .iastore, 1, 0, []) (List.mem_of_getElem? (i := 88) rfl)) (show zp_ia 1 91 = some (14, 0, 0, (-2147483648), 2147483647) from rfl) (zM_P hMξ (List.mem_of_getElem? (i := 34) rfl)) (by omega) (by omega) (zp_o0 (by omega) (by omega) (by omega) (by omega)) rfl ?_
              refine zp_load (pc := 159) hx hb (zd_X12_decade (159, .aload_n 0, 1, 0, []) (List.mem_of_getElem? (i := 89) rfl)) rfl (j := 3) rfl ?_
              refine zp_getf (n := (A 62 : Int)) (pc := 160) hx hb hEξ hwξ (zd_X12_decade (160, .getfield 155, 3, 0, []) (List.mem_of_getElem? (i := 90) rfl)) (j := 80) rfl rfl rfl (zM_P hMξ (List.mem_of_getElem? (i := 0) rfl)) ((zp_set_ne (Or.inl (zM_ne hMξ (List.mem_of_getElem? (i := 0) rfl) (List.mem_of_getElem? (i := 34) rfl) (by decide)))).trans ((zp_set_ne (Or.inr (by decide))).trans (((zM_G hMξ (List.mem_of_getElem? (i := 0) rfl) 62).trans (zM_F hMξ (List.mem_of_getElem? (i := 33) rfl)))))) ?_
              refine zp_const (pc := 163) hx hb (zd_X12_decade (163, .iconst 1, 1, 0, []) (List.mem_of_getElem? (i := 91) rfl)) rfl rfl ?_
              refine zp_load (pc := 164) hx hb (zd_X12_decade (164, .aload_n 0, 1, 0, []) (List.mem_of_getElem? (i := 92) rfl)) rfl (j := 3) rfl ?_
              refine zp_getf (n := (A 3 : Int)) (pc := 165) hx hb hEξ hwξ (zd_X12_decade (165, .getfield 13, 3, 0, []) (List.mem_of_getElem? (i := 93) rfl)) (j := 21) rfl rfl rfl (zM_P hMξ (List.mem_of_getElem? (i := 0) rfl)) ((zp_set_ne (Or.inl (zM_ne hMξ (List.mem_of_getElem? (i := 0) rfl) (List.mem_of_getElem? (i := 34) rfl) (by decide)))).trans ((zp_set_ne (Or.inr (by decide))).trans (((zM_G hMξ (List.mem_of_getElem? (i := 0) rfl) 3).trans (zM_F hMξ (List.mem_of_getElem? (i := 1) rfl)))))) ?_
              refine zp_const (pc := 168) hx hb (zd_X12_decade (168, .bipush 9, 2, 0, []) (List.mem_of_getElem? (i := 94) rfl)) rfl rfl ?_
              refine zp_ialdT (j := 9) (v := (V 3 (2000 + 9))) (pc := 170) hx hb hwξ (zd_X12_decade (170, .iaload, 1, 0, []) (List.mem_of_getElem? (i := 95) rfl)) zl_T59 rfl (zl_kd 9) (zM_P hMξ (List.mem_of_getElem? (i := 2) rfl)) (by omega) (show 9 < 5580 by omega) ((zp_set_ne (Or.inl (zM_ne hMξ (List.mem_of_getElem? (i := 2) rfl) (List.mem_of_getElem? (i := 34) rfl) (by decide)))).trans ((zp_set_ne (Or.inl (zM_ne hMξ (List.mem_of_getElem? (i := 2) rfl) (List.mem_of_getElem? (i := 0) rfl) (by decide)))).trans (((zM_G hMξ (List.mem_of_getElem? (i := 2) rfl) (2000 + 9)).trans (hVξ 3 (2000 + 9) (Or.inl (by decide))))))) (fun _ => ?_)
              refine zp_iast (j := 1) (pc := 171) hx hb hwξ heffξ (zd_X12_decade (171, .iastore, 1, 0, []) (List.mem_of_getElem? (i := 96) rfl)) (show zp_ia 1 91 = some (14, 0, 0, (-2147483648), 2147483647) from rfl) (zM_P hMξ (List.mem_of_getElem? (i := 34) rfl)) (by omega) (by omega) (zp_o0 (by omega) (by omega) (by omega) (by omega)) rfl ?_
              refine zp_load (pc := 172) hx hb (zd_X12_decade (172, .aload_n 0, 1, 0, []) (List.mem_of_getElem? (i := 97) rfl)) rfl (j := 3) rfl ?_
              refine zp_getf (n := (A 62 : Int)) (pc := 173) hx hb hEξ hwξ (zd_X12_decade (173, .getfield 155, 3, 0, []) (List.mem_of_getElem? (i := 98) rfl)) (j := 80) rfl rfl rfl (zM_P hMξ (List.mem_of_getElem? (i := 0) rfl)) ((zp_set_ne (Or.inl (zM_ne hMξ (List.mem_of_getElem? (i := 0) rfl) (List.mem_of_getElem? (i := 34) rfl) (by decide)))).trans ((zp_set_ne (Or.inl (zM_ne hMξ (List.mem_of_getElem? (i := 0) rfl) (List.mem_of_getElem? (i := 34) rfl) (by decide)))).trans ((zp_set_ne (Or.inr (by decide))).trans (((zM_G hMξ (List.mem_of_getElem? (i := 0) rfl) 62).trans (zM_F hMξ (List.mem_of_getElem? (i := 33) rfl))))))) ?_
              refine zp_const (pc := 176) hx hb (zd_X12_decade (176, .iconst 2, 1, 0, []) (List.mem_of_getElem? (i := 99) rfl)) rfl rfl ?_
              refine zp_load (pc := 177) hx hb (zd_X12_decade (177, .aload_n 0, 1, 0, []) (List.mem_of_getElem? (i := 100) rfl)) rfl (j := 3) rfl ?_
              refine zp_call (pc := 178) (how := 0) (idx := 411) (mi := 241) (S := [(0, 2), (2, (A 62 : Int))]) hx hb hEξ hwξ heffξ hrmξ (zX_toda hWξ A (zp_set (zp_set (zp_set M 0 63 (n1ξ : Int)) 62 (2000 + 0) (V 3 (2000 + 8))) 62 (2000 + 1) (V 3 (2000 + 9)))) rfl (j := 41) rfl rfl (by decide +kernel) (zd_X12_decade (178, .invokevirtual 411, 3, 0, []) (List.mem_of_getElem? (i := 101) rfl)) [(A 0 : Int)] rfl ⟨zp_o2 (zM_P hMξ (List.mem_of_getElem? (i := 0) rfl)), trivial⟩ (Nat.le_of_ble_eq_true rfl) ⟨(zM_setE (zM_setE (zM_set hMξ (List.mem_of_getElem? (i := 0) rfl) (by decide)) (List.mem_of_getElem? (i := 34) rfl)) (List.mem_of_getElem? (i := 34) rfl)), rfl, (show -2147483648 ≤ (zp_set (zp_set (zp_set M 0 63 (n1ξ : Int)) 62 (2000 + 0) (V 3 (2000 + 8))) 62 (2000 + 1) (V 3 (2000 + 9))) 3 (2000 + 5) ∧ (zp_set (zp_set (zp_set M 0 63 (n1ξ : Int)) 62 (2000 + 0) (V 3 (2000 + 8))) 62 (2000 + 1) (V 3 (2000 + 9))) 3 (2000 + 5) ≤ 2147483647 by rw [((zp_set_ne (Or.inl (by decide))).trans ((zp_set_ne (Or.inl (by decide))).trans ((zp_set_ne (Or.inl (by decide))).trans ((hVξ 3 (2000 + 5) (Or.inl (by decide)))))))]; omega)⟩ (fun al halξ rnd611ξ Pd611 Gd611 hextd611ξ hfrd611ξ hokd611ξ hcsd611ξ hpsid611ξ => ?_)
              obtain rfl := List.mem_singleton.mp halξ
              have hrd611ξ := zp_int (hokd611ξ _ rfl).1
              obtain ⟨hPed611ξ, hGed611ξ, htd611ξ⟩ := hpsid611ξ
              rw [hPed611ξ, hGed611ξ]
              clear hextd611ξ hfrd611ξ hcsd611ξ hPed611ξ hGed611ξ
              have htd611ξ : rnd611ξ = (V 3 (2000 + 5)) := (Eq.trans htd611ξ) (((zp_set_ne (Or.inl (by decide))).trans ((zp_set_ne (Or.inl (by decide))).trans ((zp_set_ne (Or.inl (by decide))).trans ((hVξ 3 (2000 + 5) (Or.inl (by decide))))))))
              have htd611ξ := (Eq.symm htd611ξ)
              subst htd611ξ
              refine zp_iast (j := 2) (pc := 181) hx hb hwξ heffξ (zd_X12_decade (181, .iastore, 1, 0, []) (List.mem_of_getElem? (i := 102) rfl)) (show zp_ia 1 91 = some (14, 0, 0, (-2147483648), 2147483647) from rfl) (zM_P hMξ (List.mem_of_getElem? (i := 34) rfl)) (by omega) (by omega) (zp_o0 (by omega) (by omega) (by omega) (by omega)) rfl ?_
              refine zp_load (pc := 182) hx hb (zd_X12_decade (182, .aload_n 0, 1, 0, []) (List.mem_of_getElem? (i := 103) rfl)) rfl (j := 3) rfl ?_
              refine zp_getf (n := (A 62 : Int)) (pc := 183) hx hb hEξ hwξ (zd_X12_decade (183, .getfield 155, 3, 0, []) (List.mem_of_getElem? (i := 104) rfl)) (j := 80) rfl rfl rfl (zM_P hMξ (List.mem_of_getElem? (i := 0) rfl)) ((zp_set_ne (Or.inl (zM_ne hMξ (List.mem_of_getElem? (i := 0) rfl) (List.mem_of_getElem? (i := 34) rfl) (by decide)))).trans ((zp_set_ne (Or.inl (zM_ne hMξ (List.mem_of_getElem? (i := 0) rfl) (List.mem_of_getElem? (i := 34) rfl) (by decide)))).trans ((zp_set_ne (Or.inl (zM_ne hMξ (List.mem_of_getElem? (i := 0) rfl) (List.mem_of_getElem? (i := 34) rfl) (by decide)))).trans ((zp_set_ne (Or.inr (by decide))).trans (((zM_G hMξ (List.mem_of_getElem? (i := 0) rfl) 62).trans (zM_F hMξ (List.mem_of_getElem? (i := 33) rfl)))))))) ?_
              refine zp_const (pc := 186) hx hb (zd_X12_decade (186, .iconst 3, 1, 0, []) (List.mem_of_getElem? (i := 105) rfl)) rfl rfl ?_
              refine zp_load (pc := 187) hx hb (zd_X12_decade (187, .iload 4, 2, 0, []) (List.mem_of_getElem? (i := 106) rfl)) rfl (j := 1) rfl ?_
              refine zp_iast (j := 3) (pc := 189) hx hb hwξ heffξ (zd_X12_decade (189, .iastore, 1, 0, []) (List.mem_of_getElem? (i := 107) rfl)) (show zp_ia 1 91 = some (14, 0, 0, (-2147483648), 2147483647) from rfl) (zM_P hMξ (List.mem_of_getElem? (i := 34) rfl)) (by omega) (by omega) (zp_o0 (by omega) (by omega) (by omega) (by omega)) rfl ?_
              refine zp_const (pc := 190) hx hb (zd_X12_decade (190, .iconst 0, 1, 0, []) (List.mem_of_getElem? (i := 108) rfl)) rfl rfl ?_
              refine zp_store (L' := [(5, 0, 0), (4, 0, r9ξ), (3, 0, e9ξ), (0, 2, (A 0 : Int)), (1, 0, p1ξ), (2, 0, p2ξ)]) (pc := 191) hx hb hnLξ (zd_X12_decade (191, .istore 5, 2, 0, []) (List.mem_of_getElem? (i := 109) rfl)) rfl rfl rfl ?_
              have hSeξ : S = (e9ξ, r9ξ, V) := by rw [hzξ, zr_dc, if_pos (by omega)]
              have hS1ξ : S.1 = e9ξ := by rw [hSeξ]
              have hS2ξ : S.2.1 = r9ξ := by rw [hSeξ]
              have hS3ξ : S.2.2 = V := by rw [hSeξ]
              refine zp_drop (L' := [(5, 0, 0), (4, 0, r9ξ), (3, 0, e9ξ), (0, 2, (A 0 : Int)), (1, 0, p1ξ), (2, 0, p2ξ)]) (by simp) ?_
              rw [← hS1ξ]
              refine loopw n1ξ 0 r9ξ (zp_set (zp_set (zp_set (zp_set (zp_set V 0 63 (n1ξ : Int)) 62 (2000 + 0) (V 3 (2000 + 8))) 62 (2000 + 1) (V 3 (2000 + 9))) 62 (2000 + 2) (V 3 (2000 + 5))) 62 (2000 + 3) r9ξ) (zp_set (zp_set (zp_set (zp_set (zp_set M 0 63 (n1ξ : Int)) 62 (2000 + 0) (V 3 (2000 + 8))) 62 (2000 + 1) (V 3 (2000 + 9))) 62 (2000 + 2) (V 3 (2000 + 5))) 62 (2000 + 3) r9ξ) (zp_set (zp_set (zp_set (zp_set (zp_set G (A 0) 63 (n1ξ : Int)) (A 62) (2000 + 0) (V 3 (2000 + 8))) (A 62) (2000 + 1) (V 3 (2000 + 9))) (A 62) (2000 + 2) (V 3 (2000 + 5))) (A 62) (2000 + 3) r9ξ) (by omega) (by omega) (by omega) (by rw [hS3ξ]; exact hKξ) (by rw [hS3ξ]; exact hIvξ) (fun o k h1ξ h2ξ => ?_) ?_ ?_ ?_ ?_ ?_ (fun w hwξ => absurd hwξ (Nat.not_lt_zero w)) (zM_setE (zM_setE (zM_setE (zM_setE (zM_set hMξ (List.mem_of_getElem? (i := 0) rfl) (by decide)) (List.mem_of_getElem? (i := 34) rfl)) (List.mem_of_getElem? (i := 34) rfl)) (List.mem_of_getElem? (i := 34) rfl)) (List.mem_of_getElem? (i := 34) rfl)) (zV_set (zV_set (zV_set (zV_set (zV_set hVξ))))) (zSb_set (by decide) (zSb_set (by decide) (zSb_set (by decide) (zSb_set (by decide) (zSb_set (by decide) hSbξ)))))
              · rw [hS3ξ]
                rw [zp_set_ne (by omega), zp_set_ne (by omega), zp_set_ne (by omega), zp_set_ne (by omega), zp_set_ne (by omega)]
              · exact (zp_set_ne (Or.inl (by decide))).trans ((zp_set_ne (Or.inl (by decide))).trans ((zp_set_ne (Or.inl (by decide))).trans ((zp_set_ne (Or.inl (by decide))).trans (zp_set_self))))
              · rw [hS3ξ]
                exact (zp_set_ne (Or.inr (by decide))).trans ((zp_set_ne (Or.inr (by decide))).trans ((zp_set_ne (Or.inr (by decide))).trans (zp_set_self)))
              · rw [hS3ξ]
                exact (zp_set_ne (Or.inr (by decide))).trans ((zp_set_ne (Or.inr (by decide))).trans (zp_set_self))
              · rw [hS3ξ]
                exact (zp_set_ne (Or.inr (by decide))).trans (zp_set_self)
              · rw [hS2ξ]
                exact zp_set_self
            · refine zp_load (pc := 71) hx hb (zd_X12_decade (71, .aload_n 0, 1, 0, []) (List.mem_of_getElem? (i := 39) rfl)) rfl (j := 3) rfl ?_
              refine zp_getf (n := (A 3 : Int)) (pc := 72) hx hb hEξ hwξ (zd_X12_decade (72, .getfield 13, 3, 0, []) (List.mem_of_getElem? (i := 40) rfl)) (j := 21) rfl rfl rfl (zM_P hMξ (List.mem_of_getElem? (i := 0) rfl)) ((zM_G hMξ (List.mem_of_getElem? (i := 0) rfl) 3).trans (zM_F hMξ (List.mem_of_getElem? (i := 1) rfl))) ?_
              refine zp_const (pc := 75) hx hb (zd_X12_decade (75, .bipush 10, 2, 0, []) (List.mem_of_getElem? (i := 41) rfl)) rfl rfl ?_
              refine zp_ialdT (j := 10) (v := (V 3 (2000 + 10))) (pc := 77) hx hb hwξ (zd_X12_decade (77, .iaload, 1, 0, []) (List.mem_of_getElem? (i := 42) rfl)) zl_T59 rfl (zl_kd 10) (zM_P hMξ (List.mem_of_getElem? (i := 2) rfl)) (by omega) (show 10 < 5580 by omega) ((zM_G hMξ (List.mem_of_getElem? (i := 2) rfl) (2000 + 10)).trans (hVξ 3 (2000 + 10) (Or.inl (by decide)))) (fun _ => ?_)
              refine zp_const (pc := 78) hx hb (zd_X12_decade (78, .iconst (-1), 1, 0, []) (List.mem_of_getElem? (i := 43) rfl)) rfl rfl ?_
              refine zp_icmp (pc := 79) (tgt := 96) hx hb (zd_X12_decade (79, .if_icmp .ne 17, 3, 0, []) (List.mem_of_getElem? (i := 44) rfl)) rfl (fun (hc613ξ : ¬ (V 3 (2000 + 10)) = (-1)) => ?_) (fun (hc613ξ : ¬ (¬ (V 3 (2000 + 10)) = (-1))) => ?_)
              · have hmeξ : zr_m V Lwξ = V := if_neg (fun h9ξ => by omega)
                refine zp_drop (L' := [(5, 0, (k9ξ : Int)), (4, 0, r9ξ), (3, 0, e9ξ), (0, 2, (A 0 : Int)), (1, 0, p1ξ), (2, 0, p2ξ)]) (by simp) ?_
                exact rest (by omega) M G hMξ (by rw [hmeξ]; exact hVξ) hSbξ
              · refine zp_load (pc := 82) hx hb (zd_X12_decade (82, .aload_n 0, 1, 0, []) (List.mem_of_getElem? (i := 45) rfl)) rfl (j := 3) rfl ?_
                refine zp_getf (n := (A 3 : Int)) (pc := 83) hx hb hEξ hwξ (zd_X12_decade (83, .getfield 13, 3, 0, []) (List.mem_of_getElem? (i := 46) rfl)) (j := 21) rfl rfl rfl (zM_P hMξ (List.mem_of_getElem? (i := 0) rfl)) ((zM_G hMξ (List.mem_of_getElem? (i := 0) rfl) 3).trans (zM_F hMξ (List.mem_of_getElem? (i := 1) rfl))) ?_
                refine zp_const (pc := 86) hx hb (zd_X12_decade (86, .bipush 9, 2, 0, []) (List.mem_of_getElem? (i := 47) rfl)) rfl rfl ?_
                refine zp_ialdT (j := 9) (v := (V 3 (2000 + 9))) (pc := 88) hx hb hwξ (zd_X12_decade (88, .iaload, 1, 0, []) (List.mem_of_getElem? (i := 48) rfl)) zl_T59 rfl (zl_kd 9) (zM_P hMξ (List.mem_of_getElem? (i := 2) rfl)) (by omega) (show 9 < 5580 by omega) ((zM_G hMξ (List.mem_of_getElem? (i := 2) rfl) (2000 + 9)).trans (hVξ 3 (2000 + 9) (Or.inl (by decide)))) (fun _ => ?_)
                refine zp_if (pc := 89) (tgt := 96) hx hb (zd_X12_decade (89, .ifCond .ne 7, 3, 0, []) (List.mem_of_getElem? (i := 49) rfl)) rfl (fun (hc615ξ : ¬ (V 3 (2000 + 9)) = 0) => ?_) (fun (hc615ξ : ¬ (¬ (V 3 (2000 + 9)) = 0)) => ?_)
                · have hmeξ : zr_m V Lwξ = V := if_neg (fun h9ξ => by omega)
                  refine zp_drop (L' := [(5, 0, (k9ξ : Int)), (4, 0, r9ξ), (3, 0, e9ξ), (0, 2, (A 0 : Int)), (1, 0, p1ξ), (2, 0, p2ξ)]) (by simp) ?_
                  exact rest (by omega) M G hMξ (by rw [hmeξ]; exact hVξ) hSbξ
                · refine zp_load (pc := 92) hx hb (zd_X12_decade (92, .aload_n 0, 1, 0, []) (List.mem_of_getElem? (i := 50) rfl)) rfl (j := 3) rfl ?_
                  refine zp_call (pc := 93) (how := 0) (idx := 570) (mi := 295) (S := []) hx hb hEξ hwξ heffξ hrmξ (zX_drm hWξ A V (V 0 61) Lwξ) rfl (j := 74) rfl rfl (by decide +kernel) (zd_X12_decade (93, .invokevirtual 570, 3, 0, []) (List.mem_of_getElem? (i := 51) rfl)) [(A 0 : Int)] rfl ⟨zp_o2 (zM_P hMξ (List.mem_of_getElem? (i := 0) rfl)), trivial⟩ (Nat.le_of_ble_eq_true rfl) ⟨⟨M, hMξ, hVξ, hSbξ⟩, rfl, hLVξ, rfl, hDξ.2.1, ⟨by omega, by omega⟩, hDξ.2.2⟩ (fun al halξ rndm Pdm Gdm hextdmξ hfrdmξ hokdmξ hcsdmξ hpsidmξ => ?_)
                  obtain rfl := List.mem_singleton.mp halξ
                  obtain ⟨hPedmξ, Mdm, hMdmξ, hVdmξ, hSbdmξ⟩ := hpsidmξ
                  subst hPedmξ
                  clear hextdmξ hfrdmξ hcsdmξ hokdmξ
                  have hVdmξ : ∀ o k, zNs o k → Mdm o k = (zf_drm V (V 0 61) Lwξ).2 o k := hVdmξ
                  have hmeξ : zr_m V Lwξ = (zf_drm V (V 0 61) Lwξ).2 := if_pos ⟨by omega, by omega⟩
                  refine zp_drop (L' := [(5, 0, (k9ξ : Int)), (4, 0, r9ξ), (3, 0, e9ξ), (0, 2, (A 0 : Int)), (1, 0, p1ξ), (2, 0, p2ξ)]) (by simp) ?_
                  exact rest (by omega) Mdm Gdm hMdmξ (by rw [hmeξ]; exact hVdmξ) hSbdmξ
      refine zp_drop (L' := [(5, 0, 0), (4, 0, 0), (3, 0, 0), (0, 2, (A 0 : Int)), (1, 0, p1ξ), (2, 0, p2ξ)]) (by simp) ?_
      refine loopd p2ξ.toNat 0 0 0 V1 (zp_set Mk589 0 61 p1ξ) (zp_set Gk589 (A 0) 61 p1ξ) (by omega) (by decide) (by decide) (by decide) (by decide) hDi1ξ (fun _ _ _ _ => rfl) hSξ (zM_set hMk589ξ (List.mem_of_getElem? (i := 0) rfl) (by decide)) (by rw [hV1ξ]; exact (zV_set hVk589ξ)) (zSb_set (by decide) hSbk589ξ)
    · have hbf588ξ : ¬ (1 ≤ p2ξ ∧ p2ξ ≤ 60) := fun h9ξ => absurd ((Iff.mpr htn585ξ) h9ξ) (by omega)
      refine zp_load (pc := 29) hx hb (zd_X12_decade (29, .aload_n 0, 1, 0, []) (List.mem_of_getElem? (i := 15) rfl)) rfl (j := 0) rfl ?_
      refine zp_const (pc := 30) hx hb (zd_X12_decade (30, .iconst (-1), 1, 0, []) (List.mem_of_getElem? (i := 16) rfl)) rfl rfl ?_
      refine zp_call (pc := 31) (how := 0) (idx := 170) (mi := 183) (S := []) hx hb hEξ hwξ heffξ hrmξ (zX_tll hWξ A (zp_set V 0 0 0)) rfl (j := 0) rfl rfl (by decide +kernel) (zd_X12_decade (31, .invokevirtual 170, 3, 0, []) (List.mem_of_getElem? (i := 17) rfl)) [(A 0 : Int), (-1)] rfl ⟨zp_o2 (zM_P hMξ (List.mem_of_getElem? (i := 0) rfl)), zp_o0 (by omega) (by omega) (by omega) (by omega), trivial⟩ (Nat.le_of_ble_eq_true rfl) ⟨⟨(zp_set M 0 0 0), (zM_set hMξ (List.mem_of_getElem? (i := 0) rfl) (by decide)), (zV_set hVξ), (zSb_set (by decide) hSbξ)⟩, rfl, (show -6 ≤ (-1) by omega)⟩ (fun al halξ rnt616ξ Pt616 Gt616 hextt616ξ hfrt616ξ hokt616ξ hcst616ξ hpsit616ξ => ?_)
      obtain rfl := List.mem_singleton.mp halξ
      have hrt616ξ := zp_int (hokt616ξ _ rfl).1
      obtain ⟨hPet616ξ, ⟨Mt616, hMt616ξ, hVt616ξ, hSbt616ξ⟩, htt616ξ⟩ := hpsit616ξ
      subst hPet616ξ
      clear hextt616ξ hfrt616ξ hcst616ξ hokt616ξ
      have hVt616ξ : ∀ o k, zNs o k → Mt616 o k = (zT_tell (zp_set V 0 0 0) (-1)) o k := hVt616ξ
      have htt616ξ : rnt616ξ = (-1) := htt616ξ
      have htt616ξ := (Eq.symm htt616ξ)
      subst htt616ξ
      refine zp_iret (pc := 34) (n := (-1)) hx hb hEξ hQξ hU5ξ rfl (by decide) (zd_X12_decade (34, .ireturn, 1, 0, []) (List.mem_of_getElem? (i := 18) rfl)) (j := 0) rfl (zp_o0 (by omega) (by omega) (by omega) (by omega)) ?_
      rw [hpsξ]
      refine ⟨rfl, ?_⟩
      refine ⟨_, ⟨Mt616, hMt616ξ, hVt616ξ, hSbt616ξ⟩, Or.inl ⟨show ¬ ((0 ≤ p1ξ ∧ p1ξ ≤ 1000000) ∧ 1 ≤ p2ξ ∧ p2ξ ≤ 60) by omega, ?_, rfl⟩⟩
      rfl
