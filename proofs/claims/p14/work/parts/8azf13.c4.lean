/-! part c4: between the steps; reading comes to an end (pure) -/
/-- behind '[' only what joins parts, or '[' -/
noncomputable def zDs : List (Int × Int) → Prop
  | [] => True
  | e :: r => (ym_in r = 32 → (20 ≤ e.1 ∧ e.1 ≤ 24) ∨ e.1 = 32) ∧ zDs r
/-- how many brackets are open -/
noncomputable def zDo : List (Int × Int) → Nat
  | [] => 0
  | e :: r => (if 31 ≤ e.1 then 1 else 0) + zDo r
theorem zbinds_1 {o : Int} (h : 1 ≤ zbinds o) : ¬ 31 ≤ o := fun z => by
  unfold zbinds at h
  rw [if_pos z] at h
  omega
theorem zbinds_0 {o : Int} (h : ¬ 1 ≤ zbinds o) : 31 ≤ o := by
  unfold zbinds at h
  revert h
  repeat' split
  all_goals omega
theorem zDs_se {least : Int} (hl : 1 ≤ least) : ∀ {pi : List (Int × Int)} {cd : yC}, zDs pi → zDs (ym_se least pi cd).1 ∧ ym_in (ym_se least pi cd).1 = ym_in pi ∧ zDo (ym_se least pi cd).1 = zDo pi
  | [], cd, h => ⟨trivial, rfl, rfl⟩
  | (o, t) :: r, cd, h => by
    have e : ym_se least ((o, t) :: r) cd = if least ≤ zbinds o then ym_se least r (ym_e1 o t cd) else ((o, t) :: r, cd) := rfl
    rw [e]
    by_cases hz : least ≤ zbinds o
    · rw [if_pos hz]
      obtain ⟨g1, g2, g3⟩ := zDs_se hl (cd := ym_e1 o t cd) h.2
      have h31 : ¬ 31 ≤ o := zbinds_1 (by omega)
      refine ⟨g1, g2.trans ?_, g3.trans ?_⟩
      · show ym_in r = if 31 ≤ o then o else ym_in r
        rw [if_neg h31]
      · show zDo r = (if 31 ≤ o then 1 else 0) + zDo r
        rw [if_neg h31, Nat.zero_add]
    · rw [if_neg hz]
      exact ⟨h, rfl, rfl⟩
/-- where the last bracket is '[': settled down to it -/
theorem zDs_top32 : ∀ {pi : List (Int × Int)} {cd : yC}, zDs pi → ym_in pi = 32 → ∃ (t : Int) (r : List (Int × Int)), (ym_se 5 pi cd).1 = (32, t) :: r
  | [], cd, h, hi => absurd hi (by decide)
  | (o, t) :: r, cd, h, hi => by
    have e : ym_se 5 ((o, t) :: r) cd = if 5 ≤ zbinds o then ym_se 5 r (ym_e1 o t cd) else ((o, t) :: r, cd) := rfl
    have hi : (if 31 ≤ o then o else ym_in r) = 32 := hi
    rw [e]
    by_cases h31 : 31 ≤ o
    · rw [if_pos h31] at hi
      have hz : ¬ 5 ≤ zbinds o := by
        unfold zbinds
        rw [if_pos h31]
        decide
      rw [if_neg hz, hi]
      exact ⟨t, r, rfl⟩
    · rw [if_neg h31] at hi
      have h1 : (20 ≤ o ∧ o ≤ 24) ∨ o = 32 := h.1 hi
      have hz : 5 ≤ zbinds o := by
        unfold zbinds
        repeat' split
        all_goals omega
      rw [if_pos hz]
      exact zDs_top32 h.2 hi
theorem zDs_top31 : ∀ {pi : List (Int × Int)} {cd : yC}, (∀ e ∈ pi, e.1 ≤ 32) → ym_in pi ≠ -1 → ∃ (o t : Int) (r : List (Int × Int)), (ym_se 1 pi cd).1 = (o, t) :: r ∧ 31 ≤ o
  | [], cd, _, hi => absurd rfl hi
  | (o, t) :: r, cd, h, hi => by
    have e : ym_se 1 ((o, t) :: r) cd = if 1 ≤ zbinds o then ym_se 1 r (ym_e1 o t cd) else ((o, t) :: r, cd) := rfl
    have hi : (if 31 ≤ o then o else ym_in r) ≠ -1 := hi
    rw [e]
    by_cases hz : 1 ≤ zbinds o
    · rw [if_neg (zbinds_1 hz)] at hi
      rw [if_pos hz]
      exact zDs_top31 (fun x hx => h x (List.mem_cons_of_mem _ hx)) hi
    · rw [if_neg hz]
      exact ⟨o, t, r, rfl, zbinds_0 hz⟩
/-- what holds between two steps -/
noncomputable def zDI (B : Nat → Int) (ln : Nat) (S : yS) : Prop := zDj (zy_fr B ln S.2.1) S.2.2.2.2.1 S.2.2.2.2.2 ∧ zDs S.2.2.2.2.1 ∧ S.2.2.2.1 = zDo S.2.2.2.2.1 ∧ (S.1 = 0 ∨ S.1 = 2 → ym_in S.2.2.2.2.1 ≠ 32) ∧ S.2.2.1 ≤ 50 ∧ S.2.1 ≤ ln
theorem yr_s3 {so : Nat → Nat} {wo : Nat → Int} {c : Int} {p : Nat} (h : yr_s so wo c p = true) : so p = 3 ∧ wo p = c := by
  unfold yr_s at h
  rw [Bool.and_eq_true, decide_eq_true_eq, decide_eq_true_eq] at h
  exact h
theorem yr_s_i {so : Nat → Nat} {wo : Nat → Int} {c : Int} {p : Nat} : yr_s so wo c p = true ↔ so p = 3 ∧ wo p = c := by
  unfold yr_s
  rw [Bool.and_eq_true, decide_eq_true_eq, decide_eq_true_eq]
theorem yr_w_i {so : Nat → Nat} {wo : Nat → Int} {c : Int} {p : Nat} : yr_w so wo c p = true ↔ so p = 1 ∧ wo p = c := by
  unfold yr_w
  rw [Bool.and_eq_true, decide_eq_true_eq, decide_eq_true_eq]
theorem yr_mu3 {so : Nat → Nat} {wo : Nat → Int} {p : Nat} (h : ¬ yr_mu so wo p = -1) : so p = 3 := by
  by_cases h3 : so p = 3
  · exact h3
  · exfalso
    apply h
    unfold yr_mu
    rw [if_neg (fun z => h3 (yr_s_i.mp z).1), if_neg (fun z => h3 (yr_s_i.mp z).1), if_neg (fun z => h3 (yr_s_i.mp z).1)]
theorem yr_ad3 {so : Nat → Nat} {wo : Nat → Int} {p : Nat} (h : ¬ yr_ad so wo p = -1) : so p = 3 := by
  by_cases h3 : so p = 3
  · exact h3
  · exfalso
    apply h
    unfold yr_ad
    rw [if_neg (fun z => h3 (yr_s_i.mp z).1), if_neg (fun z => h3 (yr_s_i.mp z).1)]
theorem yr_cm3 {so : Nat → Nat} {wo : Nat → Int} {p : Nat} (h : ¬ yr_cm so wo p = -1) : so p = 3 := by
  by_cases h3 : so p = 3
  · exact h3
  · exfalso
    apply h
    unfold yr_cm
    rw [if_neg (fun z => h3 (yr_s_i.mp z).1), if_neg (fun z => h3 (yr_s_i.mp z).1), if_neg (fun z => h3 (yr_s_i.mp z).1)]
theorem ym_jo3 {so : Nat → Nat} {wo : Nat → Int} {p : Nat} (h : ¬ ym_jo so wo p = -1) : so p = 3 ∧ 20 ≤ ym_jo so wo p ∧ ym_jo so wo p ≤ 24 := by
  unfold ym_jo at h ⊢
  by_cases h1 : ¬ yr_ad so wo p = -1
  · rw [if_pos h1] at h ⊢
    have := yr_ad_r h1
    exact ⟨yr_ad3 h1, by omega, by omega⟩
  · rw [if_neg h1] at h ⊢
    have := yr_ad_mu h
    exact ⟨yr_mu3 h, by omega, by omega⟩
theorem ylf_to {ord : Bool} {B : Nat → Int} {ln p p1 : Nat} {oo aa : Int} (hp : p ≤ ln) (h : ylf ord B ln p = Sum.inr (p1, oo, aa)) : zy_so B ln p ≠ 0 ∧ p < p1 ∧ zy_fr B ln p + 1 ≤ zy_fr B ln p1 ∧ p1 ≤ ln := by
  have hr := ylw_r ord B ln p
  have hn := zy_nx (B := B) hp
  have ht := zy_to_le (B := B) hp
  have hf := zy_fr_le (B := B) hp
  have hn2 := zy_nx (B := B) hn.1
  have ht2 := zy_to_le (B := B) hn.1
  have hf2 := zy_fr_le (B := B) hn.1
  unfold ylf at h
  split at h
  · split at h
    · rename_i hs
      have h2 := (Prod.mk.inj (Sum.inr.inj h)).1
      have h3 := hn.2.2 (by omega)
      have h4 := ht.2.2 (by omega)
      subst h2
      exact ⟨by omega, by omega, h3, hn.1⟩
    · cases h
  · rename_i hne
    have hs1 : zy_so B ln p = 1 := by
      rcases hr with hr | hr
      · exact absurd hr hne
      · exact hr.2.2.1
    have h3 := hn.2.2 (by omega)
    have h4 := ht.2.2 (by omega)
    split at h
    · generalize (if ylw ord B ln p = 6 then (5 : Int) else 9) = mo at h
      split at h
      · rename_i hs2
        have h2 := (Prod.mk.inj (Sum.inr.inj h)).1
        have h5 := hn2.2.2 (by omega)
        have h6 := ht2.2.2 (by omega)
        subst h2
        exact ⟨by omega, by omega, by omega, hn2.1⟩
      · cases h
    · have h2 := (Prod.mk.inj (Sum.inr.inj h)).1
      subst h2
      exact ⟨by omega, by omega, h3, hn.1⟩
section ZDI
variable {B : Nat → Int} {ln : Nat} {ord : Bool}
theorem zDI_mk {t p n od : Nat} {pi : List (Int × Int)} {cd : yC} (h1 : zDj (zy_fr B ln p) pi cd) (h2 : zDs pi) (h3 : od = zDo pi) (h4 : t = 0 ∨ t = 2 → ym_in pi ≠ 32) (h5 : n ≤ 50) (h6 : p ≤ ln) : zDI B ln (t, p, n, od, pi, cd) := ⟨h1, h2, h3, h4, h5, h6⟩
theorem zDI_rp {t p n od : Nat} {pi : List (Int × Int)} {cd : yC} {S : yS} (h : zDI B ln (t, p, n, od, pi, cd)) (hs : ym_rp (zy_so B ln) (zy_wo B ln) (zy_to B ln) (ylf ord B ln) p n od pi cd = Sum.inr S) : zDI B ln S ∧ zy_fr B ln p + 1 ≤ zy_fr B ln S.2.1 ∧ (S.1 = 1 ∨ S.1 = 3) := by
  obtain ⟨h1, h2, h3, h4, h5, h6⟩ := h
  have h1 : zDj (zy_fr B ln p) pi cd := h1
  have h2 : zDs pi := h2
  have h3 : od = zDo pi := h3
  have h5 : n ≤ 50 := h5
  have h6 : p ≤ ln := h6
  have hn := zy_nx (B := B) h6
  unfold ym_rp at hs
  by_cases c1 : yr_s (zy_so B ln) (zy_wo B ln) 91 p = true
  · rw [if_pos c1] at hs
    by_cases c2 : 8 ≤ od
    · rw [if_pos c2] at hs
      cases hs
    · rw [if_neg c2] at hs
      have hs := Sum.inr.inj hs
      subst hs
      have h9 := hn.2.2 (by rw [(yr_s3 c1).1]; decide)
      refine ⟨zDI_mk (zDj_push h1 h9 (by decide) (by decide) (by decide)) ⟨fun _ => Or.inr rfl, h2⟩ ?_ (fun z => by omega) h5 hn.1, h9, Or.inl rfl⟩
      show od + 1 = (if (31 : Int) ≤ 32 then 1 else 0) + zDo pi
      rw [if_pos (by decide)]
      omega
  · rw [if_neg c1] at hs
    by_cases c2 : 50 ≤ n
    · rw [if_pos c2] at hs
      cases hs
    · rw [if_neg c2] at hs
      cases hl : ylf ord B ln p with
      | inl q =>
        rw [hl] at hs
        cases hs
      | inr u =>
        obtain ⟨p1, oo, aa⟩ := u
        rw [hl] at hs
        have hs := Sum.inr.inj hs
        subst hs
        have ht := ylf_to h6 hl
        exact ⟨zDI_mk (zDj_leaf h1 ht.2.2.1) h2 h3 (fun z => by omega) (by omega) ht.2.2.2, ht.2.2.1, Or.inr rfl⟩
theorem zDI_rl {p n od : Nat} {pi : List (Int × Int)} {cd : yC} {S : yS} (h : zDI B ln (0, p, n, od, pi, cd)) (hs : ym_rl (zy_so B ln) (zy_wo B ln) (zy_to B ln) (ylf ord B ln) p n od pi cd = Sum.inr S) : zDI B ln S ∧ zy_fr B ln p + 1 ≤ zy_fr B ln S.2.1 ∧ (S.1 = 0 ∨ S.1 = 1 ∨ S.1 = 3) := by
  have hI := h
  obtain ⟨h1, h2, h3, h4, h5, h6⟩ := h
  have h1 : zDj (zy_fr B ln p) pi cd := h1
  have h2 : zDs pi := h2
  have h3 : od = zDo pi := h3
  have h4 : ym_in pi ≠ 32 := h4 (Or.inl rfl)
  have h5 : n ≤ 50 := h5
  have h6 : p ≤ ln := h6
  have hn := zy_nx (B := B) h6
  unfold ym_rl at hs
  by_cases c1 : yr_w (zy_so B ln) (zy_wo B ln) 14836 p = true
  · rw [if_pos c1] at hs
    have hs := Sum.inr.inj hs
    subst hs
    have h9 := hn.2.2 (by rw [(yr_w_i.mp c1).1]; decide)
    exact ⟨zDI_mk (zDj_push h1 h9 (by decide) (by decide) (by decide)) ⟨fun z => absurd z h4, h2⟩ (by show od = (if (31 : Int) ≤ 28 then 1 else 0) + zDo pi; rw [if_neg (by decide)]; omega) (fun _ => h4) h5 hn.1, h9, Or.inl rfl⟩
  · rw [if_neg c1] at hs
    by_cases c2 : yr_s (zy_so B ln) (zy_wo B ln) 40 p = true
    · rw [if_pos c2] at hs
      by_cases c3 : 8 ≤ od
      · rw [if_pos c3] at hs
        cases hs
      · rw [if_neg c3] at hs
        have hs := Sum.inr.inj hs
        subst hs
        have h9 := hn.2.2 (by rw [(yr_s3 c2).1]; decide)
        exact ⟨zDI_mk (zDj_push h1 h9 (by decide) (by decide) (by decide)) ⟨fun z => absurd z h4, h2⟩ (by show od + 1 = (if (31 : Int) ≤ 31 then 1 else 0) + zDo pi; rw [if_pos (by decide)]; omega) (fun _ => by show (31 : Int) ≠ 32; decide) h5 hn.1, h9, Or.inl rfl⟩
    · rw [if_neg c2] at hs
      have := zDI_rp hI hs
      exact ⟨this.1, this.2.1, Or.inr this.2.2⟩
theorem zDI_bs {test : Bool} {p n od : Nat} {pi : List (Int × Int)} {cd : yC} {S : yS} (h : zDI B ln (3, p, n, od, pi, cd)) (hs : ym_bs (zy_so B ln) (zy_wo B ln) (zy_to B ln) test p n od pi cd = Sum.inr S) : zDI B ln S ∧ ((zy_fr B ln p + 1 ≤ zy_fr B ln S.2.1 ∧ (S.1 = 1 ∨ S.1 = 3)) ∨ (S.1 = 2 ∧ S = (2, p, n, od, pi, cd)) ∨ (S.1 = 4 ∧ S = (4, p, n, od, pi, cd))) := by
  obtain ⟨h1, h2, h3, h4, h5, h6⟩ := h
  have h1 : zDj (zy_fr B ln p) pi cd := h1
  have h2 : zDs pi := h2
  have h3 : od = zDo pi := h3
  have h5 : n ≤ 50 := h5
  have h6 : p ≤ ln := h6
  have hn := zy_nx (B := B) h6
  unfold ym_bs at hs
  by_cases c1 : ¬ ym_jo (zy_so B ln) (zy_wo B ln) p = -1
  · rw [if_pos c1] at hs
    have hs := Sum.inr.inj hs
    subst hs
    obtain ⟨j1, j2, j3⟩ := ym_jo3 c1
    have h9 := hn.2.2 (by rw [j1]; decide)
    have hb : 1 ≤ zbinds (ym_jo (zy_so B ln) (zy_wo B ln) p) := by
      unfold zbinds
      repeat' split
      all_goals omega
    obtain ⟨g1, g2, g3⟩ := zDs_se hb (cd := cd) h2
    refine ⟨zDI_mk (zDj_push (zDj_se h1) h9 j2 (by omega) (by omega)) ⟨fun _ => Or.inl ⟨j2, j3⟩, g1⟩ ?_ (fun z => by omega) h5 hn.1, Or.inl ⟨h9, Or.inl rfl⟩⟩
    show od = (if 31 ≤ ym_jo (zy_so B ln) (zy_wo B ln) p then 1 else 0) + zDo _
    rw [if_neg (by omega), g3]
    omega
  · rw [if_neg c1] at hs
    by_cases c2 : ym_in pi = 32
    · rw [if_pos c2] at hs
      by_cases c3 : yr_s (zy_so B ln) (zy_wo B ln) 93 p = true
      · rw [if_pos c3] at hs
        have hs := Sum.inr.inj hs
        subst hs
        have h9 := hn.2.2 (by rw [(yr_s3 c3).1]; decide)
        obtain ⟨g1, g2, g3⟩ := zDs_se (least := 5) (by decide) (cd := cd) h2
        obtain ⟨tt, r, hr⟩ := zDs_top32 (cd := cd) h2 c2
        have hj := zDj_le (zDj_tail (zDj_se (least := 5) h1)) (Nat.le_of_lt h9)
        rw [hr] at g1 g3 hj
        have g3 : (if (31 : Int) ≤ 32 then 1 else 0) + zDo r = zDo pi := g3
        rw [if_pos (by decide)] at g3
        refine ⟨zDI_mk ?_ ?_ ?_ (fun z => by omega) h5 hn.1, Or.inl ⟨h9, Or.inr rfl⟩⟩
        · rw [hr]
          exact hj
        · rw [hr]
          exact g1.2
        · rw [hr]
          show od - 1 = zDo r
          omega
      · rw [if_neg c3] at hs
        cases hs
    · rw [if_neg c2] at hs
      by_cases c3 : ym_in pi = -1 ∧ test = false
      · rw [if_pos c3] at hs
        have hs := Sum.inr.inj hs
        subst hs
        exact ⟨zDI_mk h1 h2 h3 (fun z => by omega) h5 h6, Or.inr (Or.inr ⟨rfl, rfl⟩)⟩
      · rw [if_neg c3] at hs
        by_cases c4 : ym_cd pi = true
        · rw [if_pos c4] at hs
          have hs := Sum.inr.inj hs
          subst hs
          exact ⟨zDI_mk h1 h2 h3 (fun _ => c2) h5 h6, Or.inr (Or.inl ⟨rfl, rfl⟩)⟩
        · rw [if_neg c4] at hs
          by_cases c5 : yr_cm (zy_so B ln) (zy_wo B ln) p = -1
          · rw [if_pos c5] at hs
            cases hs
          · rw [if_neg c5] at hs
            have hs := Sum.inr.inj hs
            subst hs
            have j := yr_cm_r c5
            have h9 := hn.2.2 (by rw [yr_cm3 c5]; decide)
            obtain ⟨g1, g2, g3⟩ := zDs_se (least := 5) (by decide) (cd := cd) h2
            refine ⟨zDI_mk (zDj_push (zDj_se h1) h9 (by omega) (by omega) (by omega)) ⟨fun z => absurd (g2.symm.trans z) c2, g1⟩ ?_ (fun z => by omega) h5 hn.1, Or.inl ⟨h9, Or.inl rfl⟩⟩
            show od = (if 31 ≤ yr_cm (zy_so B ln) (zy_wo B ln) p then 1 else 0) + zDo _
            rw [if_neg (by omega), g3]
            omega
theorem zDI_bt {p n od : Nat} {pi : List (Int × Int)} {cd : yC} {S : yS} (hln : ln ≤ 400) (h : zDI B ln (2, p, n, od, pi, cd)) (hs : ym_bt (zy_so B ln) (zy_wo B ln) (zy_to B ln) p n od pi cd = Sum.inr S) : zDI B ln S ∧ ((zy_fr B ln p + 1 ≤ zy_fr B ln S.2.1 ∧ (S.1 = 0 ∨ S.1 = 2)) ∨ (S.1 = 4 ∧ S = (4, p, n, od, pi, cd))) := by
  obtain ⟨h1, h2, h3, h4, h5, h6⟩ := h
  have h1 : zDj (zy_fr B ln p) pi cd := h1
  have h2 : zDs pi := h2
  have h3 : od = zDo pi := h3
  have h4 : ym_in pi ≠ 32 := h4 (Or.inr rfl)
  have h5 : n ≤ 50 := h5
  have h6 : p ≤ ln := h6
  have hn := zy_nx (B := B) h6
  have hf2 := zy_fr_le (B := B) hn.1
  unfold ym_bt at hs
  by_cases c1 : yr_w (zy_so B ln) (zy_wo B ln) 1476 p = true
  · rw [if_pos c1] at hs
    have hs := Sum.inr.inj hs
    subst hs
    have h9 := hn.2.2 (by rw [(yr_w_i.mp c1).1]; decide)
    obtain ⟨g1, g2, g3⟩ := zDs_se (least := 2) (by decide) (cd := cd) h2
    exact ⟨zDI_mk (zDj_ao (zDj_se h1) h9 (by omega) (Or.inl rfl)) ⟨fun z => absurd (g2.symm.trans z) h4, g1⟩ (by show od = (if (31 : Int) ≤ 29 then 1 else 0) + zDo _; rw [if_neg (by decide), g3]; omega) (fun _ z => h4 (g2.symm.trans z)) h5 hn.1, Or.inl ⟨h9, Or.inl rfl⟩⟩
  · rw [if_neg c1] at hs
    by_cases c2 : yr_w (zy_so B ln) (zy_wo B ln) 498 p = true
    · rw [if_pos c2] at hs
      have hs := Sum.inr.inj hs
      subst hs
      have h9 := hn.2.2 (by rw [(yr_w_i.mp c2).1]; decide)
      obtain ⟨g1, g2, g3⟩ := zDs_se (least := 1) (by decide) (cd := cd) h2
      exact ⟨zDI_mk (zDj_ao (zDj_se h1) h9 (by omega) (Or.inr rfl)) ⟨fun z => absurd (g2.symm.trans z) h4, g1⟩ (by show od = (if (31 : Int) ≤ 30 then 1 else 0) + zDo _; rw [if_neg (by decide), g3]; omega) (fun _ z => h4 (g2.symm.trans z)) h5 hn.1, Or.inl ⟨h9, Or.inl rfl⟩⟩
    · rw [if_neg c2] at hs
      by_cases c3 : ym_in pi = -1
      · rw [if_pos c3] at hs
        have hs := Sum.inr.inj hs
        subst hs
        exact ⟨zDI_mk h1 h2 h3 (fun z => by omega) h5 h6, Or.inr ⟨rfl, rfl⟩⟩
      · rw [if_neg c3] at hs
        by_cases c4 : yr_s (zy_so B ln) (zy_wo B ln) 41 p = true
        · rw [if_pos c4] at hs
          have hs := Sum.inr.inj hs
          subst hs
          have h9 := hn.2.2 (by rw [(yr_s3 c4).1]; decide)
          obtain ⟨g1, g2, g3⟩ := zDs_se (least := 1) (by decide) (cd := cd) h2
          obtain ⟨oo, tt, r, hr, hoo⟩ := zDs_top31 (cd := cd) (fun e he => (h1.2.2 e he).2.1) c3
          have hj := zDj_le (zDj_tail (zDj_se (least := 1) h1)) (Nat.le_of_lt h9)
          rw [hr] at g1 g2 g3 hj
          have g3 : (if 31 ≤ oo then 1 else 0) + zDo r = zDo pi := g3
          have g2 : (if 31 ≤ oo then oo else ym_in r) = ym_in pi := g2
          rw [if_pos hoo] at g3 g2
          refine ⟨zDI_mk ?_ ?_ ?_ (fun _ => ?_) h5 hn.1, Or.inl ⟨h9, Or.inr rfl⟩⟩
          · rw [hr]
            exact hj
          · rw [hr]
            exact g1.2
          · rw [hr]
            show od - 1 = zDo r
            omega
          · rw [hr]
            show ym_in r ≠ 32
            intro z
            rcases g1.1 z with y | y
            · have y : 20 ≤ oo ∧ oo ≤ 24 := y
              omega
            · have y : oo = 32 := y
              omega
        · rw [if_neg c4] at hs
          cases hs
end ZDI
section ZTOT
variable {so : Nat → Nat} {wo : Nat → Int} {nx : Nat → Nat} {lf : Nat → Nat ⊕ (Nat × Int × Int)} {ln : Nat}
/-- every reading comes to an end -/
theorem yZ_tot (hnx : ∀ p, p ≤ ln → nx p ≤ ln) (hlt : ∀ p, p ≤ ln → so p ≠ 0 → p < nx p) (hlf : ∀ p p1 o a, p ≤ ln → lf p = Sum.inr (p1, o, a) → p < p1 ∧ p1 ≤ ln) : ∀ (m k d n p : Nat) (x : yD), p ≤ ln → k ≤ 9 → (ln - p) * 16 + k < m → ∃ s, yZ so wo nx lf k d n p x s ∧ ∀ p1 n1 y, s = Sum.inr (p1, n1, y) → p1 ≤ ln ∧ p ≤ p1 ∧ (k = 0 ∨ k = 1 ∨ k = 3 ∨ k = 5 ∨ k = 6 ∨ k = 8 → p < p1)
  | 0, k, d, n, p, x, _, _, h => absurd h (Nat.not_lt_zero _)
  | m + 1, k, d, n, p, x, hp, hk, hm => by
    have ih := yZ_tot hnx hlt hlf m
    have hk : k = 0 ∨ k = 1 ∨ k = 2 ∨ k = 3 ∨ k = 4 ∨ k = 5 ∨ k = 6 ∨ k = 7 ∨ k = 8 ∨ k = 9 := by omega
    rcases hk with e | e | e | e | e | e | e | e | e | e
    · subst e
      by_cases c1 : yr_s so wo 91 p = true
      · by_cases c2 : 8 ≤ d
        · exact ⟨_, yZ_deep c1 c2, fun p1 n1 y h => by cases h⟩
        have h9 := hlt p hp (by rw [(yr_s3 c1).1]; decide)
        have h8 := hnx p hp
        obtain ⟨s1, hs1, hb1⟩ := ih 3 (d + 1) n (nx p) x h8 (by decide) (by omega)
        cases s1 with
        | inl q => exact ⟨Sum.inl q, yZ_sq c1 c2 (Or.inl ⟨q, rfl, hs1⟩), fun p1 n1 y h => by cases h⟩
        | inr u =>
          obtain ⟨p1, n1, y⟩ := u
          have g := hb1 p1 n1 y rfl
          have g2 := g.2.2 (by omega)
          refine ⟨_, yZ_sq c1 c2 (Or.inr ⟨p1, n1, y, hs1, rfl⟩), fun p2 n2 z h => ?_⟩
          by_cases h7 : yr_s so wo 93 p1 = true
          · rw [if_pos h7] at h
            have h10 := hlt p1 g.1 (by rw [(yr_s3 h7).1]; decide)
            have h11 := hnx p1 g.1
            obtain ⟨rfl, _⟩ := Prod.mk.inj (Sum.inr.inj h)
            exact ⟨h11, by omega, fun _ => by omega⟩
          · rw [if_neg h7] at h
            cases h
      · by_cases c2 : 50 ≤ n
        · exact ⟨_, yZ_full c1 c2, fun p1 n1 y h => by cases h⟩
        · cases hl : lf p with
          | inl q => exact ⟨_, yZ_lf0 c1 c2 hl, fun p1 n1 y h => by cases h⟩
          | inr u =>
            obtain ⟨p1, oo, aa⟩ := u
            have g := hlf p p1 oo aa hp hl
            refine ⟨_, yZ_lf c1 c2 hl, fun p2 n2 y h => ?_⟩
            obtain ⟨rfl, _⟩ := Prod.mk.inj (Sum.inr.inj h)
            exact ⟨g.2, by omega, fun _ => g.1⟩
    · subst e
      obtain ⟨s1, hs1, hb1⟩ := ih 0 d n p x hp (by decide) (by omega)
      cases s1 with
      | inl q => exact ⟨Sum.inl q, yZ_row (fun f => yr_1) (Or.inl ⟨q, rfl, hs1⟩), fun p1 n1 y h => by cases h⟩
      | inr u =>
        obtain ⟨p1, n1, y⟩ := u
        have g := hb1 p1 n1 y rfl
        have g2 := g.2.2 (by omega)
        obtain ⟨s2, hs2, hb2⟩ := ih 2 d n1 p1 y g.1 (by decide) (by omega)
        exact ⟨s2, yZ_row (fun f => yr_1) (Or.inr ⟨p1, n1, y, hs1, hs2⟩), fun p2 n2 z h => by have := hb2 p2 n2 z h; exact ⟨this.1, by omega, fun _ => by omega⟩⟩
    · subst e
      by_cases hc : yr_mu so wo p = -1
      · exact ⟨_, yZ_mu0 hc, fun p1 n1 y h => by obtain ⟨rfl, _⟩ := Prod.mk.inj (Sum.inr.inj h); exact ⟨hp, Nat.le_refl _, fun z => absurd z (by omega)⟩⟩
      · have h9 := hlt p hp (by rw [yr_mu3 hc]; decide)
        have h8 := hnx p hp
        obtain ⟨s1, hs1, hb1⟩ := ih 0 d n (nx p) x h8 (by decide) (by omega)
        cases s1 with
        | inl q => exact ⟨Sum.inl q, yZ_mu hc (Or.inl ⟨q, rfl, hs1⟩), fun p1 n1 y h => by cases h⟩
        | inr u =>
          obtain ⟨p1, n1, y⟩ := u
          have g := hb1 p1 n1 y rfl
          have g2 := g.2.2 (by omega)
          obtain ⟨s2, hs2, hb2⟩ := ih 2 d n1 p1 (yd_op (yr_mu so wo p) x y) g.1 (by decide) (by omega)
          exact ⟨s2, yZ_mu hc (Or.inr ⟨p1, n1, y, hs1, hs2⟩), fun p2 n2 z h => by have := hb2 p2 n2 z h; exact ⟨this.1, by omega, fun _ => by omega⟩⟩
    · subst e
      obtain ⟨s1, hs1, hb1⟩ := ih 1 d n p x hp (by decide) (by omega)
      cases s1 with
      | inl q => exact ⟨Sum.inl q, yZ_row (fun f => yr_3) (Or.inl ⟨q, rfl, hs1⟩), fun p1 n1 y h => by cases h⟩
      | inr u =>
        obtain ⟨p1, n1, y⟩ := u
        have g := hb1 p1 n1 y rfl
        have g2 := g.2.2 (by omega)
        obtain ⟨s2, hs2, hb2⟩ := ih 4 d n1 p1 y g.1 (by decide) (by omega)
        exact ⟨s2, yZ_row (fun f => yr_3) (Or.inr ⟨p1, n1, y, hs1, hs2⟩), fun p2 n2 z h => by have := hb2 p2 n2 z h; exact ⟨this.1, by omega, fun _ => by omega⟩⟩
    · subst e
      by_cases hc : yr_ad so wo p = -1
      · exact ⟨_, yZ_ad0 hc, fun p1 n1 y h => by obtain ⟨rfl, _⟩ := Prod.mk.inj (Sum.inr.inj h); exact ⟨hp, Nat.le_refl _, fun z => absurd z (by omega)⟩⟩
      · have h9 := hlt p hp (by rw [yr_ad3 hc]; decide)
        have h8 := hnx p hp
        obtain ⟨s1, hs1, hb1⟩ := ih 1 d n (nx p) x h8 (by decide) (by omega)
        cases s1 with
        | inl q => exact ⟨Sum.inl q, yZ_ad hc (Or.inl ⟨q, rfl, hs1⟩), fun p1 n1 y h => by cases h⟩
        | inr u =>
          obtain ⟨p1, n1, y⟩ := u
          have g := hb1 p1 n1 y rfl
          have g2 := g.2.2 (by omega)
          obtain ⟨s2, hs2, hb2⟩ := ih 4 d n1 p1 (yd_op (yr_ad so wo p) x y) g.1 (by decide) (by omega)
          exact ⟨s2, yZ_ad hc (Or.inr ⟨p1, n1, y, hs1, hs2⟩), fun p2 n2 z h => by have := hb2 p2 n2 z h; exact ⟨this.1, by omega, fun _ => by omega⟩⟩
    · subst e
      by_cases c0 : yr_w so wo 14836 p = true
      · have h9 := hlt p hp (by rw [(yr_w_i.mp c0).1]; decide)
        have h8 := hnx p hp
        obtain ⟨s1, hs1, hb1⟩ := ih 5 d n (nx p) x h8 (by decide) (by omega)
        cases s1 with
        | inl q => exact ⟨Sum.inl q, yZ_nt c0 (Or.inl ⟨q, rfl, hs1⟩), fun p1 n1 y h => by cases h⟩
        | inr u =>
          obtain ⟨p1, n1, y⟩ := u
          have g := hb1 p1 n1 y rfl
          have g2 := g.2.2 (by omega)
          refine ⟨_, yZ_nt c0 (Or.inr ⟨p1, n1, y, hs1, rfl⟩), fun p2 n2 z h => ?_⟩
          obtain ⟨rfl, _⟩ := Prod.mk.inj (Sum.inr.inj h)
          exact ⟨g.1, by omega, fun _ => by omega⟩
      by_cases c1 : yr_s so wo 40 p = true
      · by_cases c2 : 8 ≤ d
        · exact ⟨_, yZ_dp c0 c1 c2, fun p1 n1 y h => by cases h⟩
        have h9 := hlt p hp (by rw [(yr_s3 c1).1]; decide)
        have h8 := hnx p hp
        obtain ⟨s1, hs1, hb1⟩ := ih 8 (d + 1) n (nx p) x h8 (by decide) (by omega)
        cases s1 with
        | inl q => exact ⟨Sum.inl q, yZ_ro c0 c1 c2 (Or.inl ⟨q, rfl, hs1⟩), fun p1 n1 y h => by cases h⟩
        | inr u =>
          obtain ⟨p1, n1, y⟩ := u
          have g := hb1 p1 n1 y rfl
          have g2 := g.2.2 (by omega)
          refine ⟨_, yZ_ro c0 c1 c2 (Or.inr ⟨p1, n1, y, hs1, rfl⟩), fun p2 n2 z h => ?_⟩
          by_cases h7 : yr_s so wo 41 p1 = true
          · rw [if_pos h7] at h
            have h10 := hlt p1 g.1 (by rw [(yr_s3 h7).1]; decide)
            have h11 := hnx p1 g.1
            obtain ⟨rfl, _⟩ := Prod.mk.inj (Sum.inr.inj h)
            exact ⟨h11, by omega, fun _ => by omega⟩
          · rw [if_neg h7] at h
            cases h
      obtain ⟨s1, hs1, hb1⟩ := ih 3 d n p x hp (by decide) (by omega)
      cases s1 with
      | inl q => exact ⟨Sum.inl q, yZ_cm c0 c1 (Or.inl ⟨q, rfl, hs1⟩), fun p1 n1 y h => by cases h⟩
      | inr u =>
        obtain ⟨p1, n1, y⟩ := u
        have g := hb1 p1 n1 y rfl
        have g2 := g.2.2 (by omega)
        by_cases c3 : yr_cm so wo p1 = -1
        · exact ⟨Sum.inl p1, yZ_cm c0 c1 (Or.inr ⟨p1, n1, y, hs1, Or.inl ⟨c3, rfl⟩⟩), fun p1 n1 y h => by cases h⟩
        · have h9 := hlt p1 g.1 (by rw [yr_cm3 c3]; decide)
          have h8 := hnx p1 g.1
          obtain ⟨s2, hs2, hb2⟩ := ih 3 d n1 (nx p1) x h8 (by decide) (by omega)
          cases s2 with
          | inl q => exact ⟨Sum.inl q, yZ_cm c0 c1 (Or.inr ⟨p1, n1, y, hs1, Or.inr ⟨c3, Or.inl ⟨q, rfl, hs2⟩⟩⟩), fun p1 n1 y h => by cases h⟩
          | inr u2 =>
            obtain ⟨p2, n2, z⟩ := u2
            have g3 := hb2 p2 n2 z rfl
            have g4 := g3.2.2 (by omega)
            refine ⟨_, yZ_cm c0 c1 (Or.inr ⟨p1, n1, y, hs1, Or.inr ⟨c3, Or.inr ⟨p2, n2, z, hs2, rfl⟩⟩⟩), fun p5 n5 z5 h => ?_⟩
            obtain ⟨rfl, _⟩ := Prod.mk.inj (Sum.inr.inj h)
            exact ⟨g3.1, by omega, fun _ => by omega⟩
    · subst e
      obtain ⟨s1, hs1, hb1⟩ := ih 5 d n p x hp (by decide) (by omega)
      cases s1 with
      | inl q => exact ⟨Sum.inl q, yZ_row (fun f => yr_6) (Or.inl ⟨q, rfl, hs1⟩), fun p1 n1 y h => by cases h⟩
      | inr u =>
        obtain ⟨p1, n1, y⟩ := u
        have g := hb1 p1 n1 y rfl
        have g2 := g.2.2 (by omega)
        obtain ⟨s2, hs2, hb2⟩ := ih 7 d n1 p1 y g.1 (by decide) (by omega)
        exact ⟨s2, yZ_row (fun f => yr_6) (Or.inr ⟨p1, n1, y, hs1, hs2⟩), fun p2 n2 z h => by have := hb2 p2 n2 z h; exact ⟨this.1, by omega, fun _ => by omega⟩⟩
    · subst e
      by_cases hc : ¬ yr_w so wo 1476 p = true
      · exact ⟨_, yZ_an0 hc, fun p1 n1 y h => by obtain ⟨rfl, _⟩ := Prod.mk.inj (Sum.inr.inj h); exact ⟨hp, Nat.le_refl _, fun z => absurd z (by omega)⟩⟩
      · have h9 := hlt p hp (by rw [(yr_w_i.mp (Decidable.of_not_not hc)).1]; decide)
        have h8 := hnx p hp
        obtain ⟨s1, hs1, hb1⟩ := ih 5 d n (nx p) x h8 (by decide) (by omega)
        cases s1 with
        | inl q => exact ⟨Sum.inl q, yZ_an (Decidable.of_not_not hc) (Or.inl ⟨q, rfl, hs1⟩), fun p1 n1 y h => by cases h⟩
        | inr u =>
          obtain ⟨p1, n1, y⟩ := u
          have g := hb1 p1 n1 y rfl
          have g2 := g.2.2 (by omega)
          obtain ⟨s2, hs2, hb2⟩ := ih 7 d n1 p1 (yd_ad x y) g.1 (by decide) (by omega)
          exact ⟨s2, yZ_an (Decidable.of_not_not hc) (Or.inr ⟨p1, n1, y, hs1, hs2⟩), fun p2 n2 z h => by have := hb2 p2 n2 z h; exact ⟨this.1, by omega, fun _ => by omega⟩⟩
    · subst e
      obtain ⟨s1, hs1, hb1⟩ := ih 6 d n p x hp (by decide) (by omega)
      cases s1 with
      | inl q => exact ⟨Sum.inl q, yZ_row (fun f => yr_8) (Or.inl ⟨q, rfl, hs1⟩), fun p1 n1 y h => by cases h⟩
      | inr u =>
        obtain ⟨p1, n1, y⟩ := u
        have g := hb1 p1 n1 y rfl
        have g2 := g.2.2 (by omega)
        obtain ⟨s2, hs2, hb2⟩ := ih 9 d n1 p1 y g.1 (by decide) (by omega)
        exact ⟨s2, yZ_row (fun f => yr_8) (Or.inr ⟨p1, n1, y, hs1, hs2⟩), fun p2 n2 z h => by have := hb2 p2 n2 z h; exact ⟨this.1, by omega, fun _ => by omega⟩⟩
    · subst e
      by_cases hc : ¬ yr_w so wo 498 p = true
      · exact ⟨_, yZ_or0 hc, fun p1 n1 y h => by obtain ⟨rfl, _⟩ := Prod.mk.inj (Sum.inr.inj h); exact ⟨hp, Nat.le_refl _, fun z => absurd z (by omega)⟩⟩
      · have h9 := hlt p hp (by rw [(yr_w_i.mp (Decidable.of_not_not hc)).1]; decide)
        have h8 := hnx p hp
        obtain ⟨s1, hs1, hb1⟩ := ih 6 d n (nx p) x h8 (by decide) (by omega)
        cases s1 with
        | inl q => exact ⟨Sum.inl q, yZ_or (Decidable.of_not_not hc) (Or.inl ⟨q, rfl, hs1⟩), fun p1 n1 y h => by cases h⟩
        | inr u =>
          obtain ⟨p1, n1, y⟩ := u
          have g := hb1 p1 n1 y rfl
          have g2 := g.2.2 (by omega)
          obtain ⟨s2, hs2, hb2⟩ := ih 9 d n1 p1 (yd_or x y) g.1 (by decide) (by omega)
          exact ⟨s2, yZ_or (Decidable.of_not_not hc) (Or.inr ⟨p1, n1, y, hs1, hs2⟩), fun p2 n2 z h => by have := hb2 p2 n2 z h; exact ⟨this.1, by omega, fun _ => by omega⟩⟩
end ZTOT
