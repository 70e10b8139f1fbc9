/-! part mh: the tape: feed, end; calls that ask by effects -/
theorem zMVc_G {A : Nat → Nat} {Y : List (Nat × Nat)} {F : List (Nat × Nat × Nat)} {W : Nat → Nat → Int} {P : Nat → Option Nat} {G : Nat → Nat → Int} (h : zMVc A Y F W P G) {o t k : Nat} (ho : (o, t) ∈ Y) (hn : zNc o) : G (A o) k = W o k := by
  obtain ⟨M, m1, m2, -⟩ := h
  exact (zM_G m1 ho k).trans (m2 o k hn)
theorem zMVc_F {A : Nat → Nat} {Y : List (Nat × Nat)} {F : List (Nat × Nat × Nat)} {W : Nat → Nat → Int} {P : Nat → Option Nat} {G : Nat → Nat → Int} (h : zMVc A Y F W P G) {o t k o' : Nat} (ho : (o, t) ∈ Y) (hr : (o, k, o') ∈ F) : G (A o) k = (A o' : Int) := by
  obtain ⟨M, m1, -⟩ := h
  exact (zM_G m1 ho k).trans (zM_F m1 hr)
/-- the class's cells of D written, besides scratch -/
noncomputable def zEd (eff : List (Nat × Nat × Nat)) (D : List Nat) : Bool := zFc.all (fun r => zYc.any (fun q => q.1 == r.1 && zp_nfb eff q.2 r.2.1)) && (zTF.all (fun q => zp_nfb eff q.1 q.2) && (zYc.all (fun q => decide (q.1 ∈ zScr) || (decide (q.1 ∈ D) || zp_ncb eff q.2)) && zTY.all (fun t => zp_ncb eff t)))
theorem zMVc_fd {A : Nat → Nat} {Y : List (Nat × Nat)} {F : List (Nat × Nat × Nat)} {V : Nat → Nat → Int} {P P' : Nat → Option Nat} {G G' : Nat → Nat → Int} {eff : List (Nat × Nat × Nat)} {D : List Nat} {ps : List Int} (h : zMVc A Y F V P G) (hYc : zMc Y F) (hfr : zp_fr eff ps P G G') (hext : ∀ a t, P a = some t → P' a = some t) (hec : zEd eff D = true) : zMVc A Y F (fun o k => if o ∈ D then G' (A o) k else V o k) P' G' := by
  unfold zEd at hec
  simp only [Bool.and_eq_true] at hec
  obtain ⟨h1, h2, h3, h4⟩ := hec
  obtain ⟨M, hM, hV, -⟩ := h
  have hFx := zMc_fx hYc h1 h2
  obtain ⟨m1, m2, m3, m4⟩ := hM
  refine ⟨fun o k => if o ∈ zScr ∨ o ∈ D then G' (A o) k else M o k, ⟨fun q hq9 => ⟨hext _ _ (m1 q hq9).1, fun k => ?_⟩, fun r hr9 => ?_, m3, m4⟩, fun o k ho9 => ?_, trivial⟩
  · show G' (A q.1) k = if q.1 ∈ zScr ∨ q.1 ∈ D then G' (A q.1) k else M q.1 k
    by_cases e : q.1 ∈ zScr ∨ q.1 ∈ D
    · rw [if_pos e]
    · rw [if_neg e]
      have h5 : zp_ncb eff q.2 = true := by
        rcases hYc.2.2.2 q hq9 with h6 | ⟨-, h6⟩
        · have h7 := List.all_eq_true.mp h3 q h6
          rw [Bool.or_eq_true, Bool.or_eq_true, decide_eq_true_eq, decide_eq_true_eq] at h7
          rcases h7 with h7 | h7 | h7
          · exact absurd (Or.inl h7) e
          · exact absurd (Or.inr h7) e
          · exact h7
        · exact List.all_eq_true.mp h4 _ h6
      rw [zp_nc hfr (m1 q hq9).1 h5 k]
      exact (m1 q hq9).2 k
  · show (if r.1 ∈ zScr ∨ r.1 ∈ D then G' (A r.1) r.2.1 else M r.1 r.2.1) = _
    by_cases e : r.1 ∈ zScr ∨ r.1 ∈ D
    · rw [if_pos e]
      obtain ⟨t, t1, t2⟩ := hFx r hr9
      rw [zp_nf hfr (m1 _ t1).1 t2]
      exact ((m1 _ t1).2 _).trans (m2 r hr9)
    · rw [if_neg e]
      exact m2 r hr9
  · show (if o ∈ zScr ∨ o ∈ D then G' (A o) k else M o k) = if o ∈ D then G' (A o) k else V o k
    by_cases e : o ∈ D
    · rw [if_pos (Or.inr e), if_pos e]
    · rw [if_neg (fun z => z.elim (fun z => ho9 z) e), if_neg e]
      exact hV o k ho9
/-- the reference's cells of D, fields of Dk written -/
noncomputable def zEb (eff : List (Nat × Nat × Nat)) (D Dk : List Nat) : Bool := zEr eff && (zCl.all (fun o => decide (o ∈ D) || zYr.any (fun q => q.1 == o && zp_ncb eff q.2)) && zCk.all (fun k => decide (k ∈ Dk) || zp_nfb eff 13 k))
theorem zMVr_fd {A : Nat → Nat} {V : Nat → Nat → Int} {P P' : Nat → Option Nat} {G G' : Nat → Nat → Int} {eff : List (Nat × Nat × Nat)} {D Dk : List Nat} {ps : List Int} (h : zMVr A V P G) (hfr : zp_fr eff ps P G G') (hext : ∀ a t, P a = some t → P' a = some t) (hec : zEb eff D Dk = true) : ∃ V', zMVr A V' P' G' ∧ ∀ o k, ((o ∈ zCl ∧ o ∉ D) ∨ (o = 0 ∧ k ∈ zCk ∧ k ∉ Dk)) → V' o k = V o k := by
  unfold zEb at hec
  rw [Bool.and_eq_true, Bool.and_eq_true] at hec
  obtain ⟨V', h1, h2⟩ := zMVr_fr h hfr hext hec.1
  refine ⟨V', h1, fun o k hc => ?_⟩
  rcases hc with ⟨c1, c2⟩ | ⟨rfl, c1, c2⟩
  · have h7 := List.all_eq_true.mp hec.2.1 o c1
    rw [Bool.or_eq_true, decide_eq_true_eq] at h7
    rcases h7 with h7 | h7
    · exact absurd h7 c2
    · obtain ⟨q, q1, q2⟩ := List.any_eq_true.mp h7
      rw [Bool.and_eq_true, beq_iff_eq] at q2
      obtain ⟨q3, q4⟩ := q2
      exact h2 o q.2 k (by rw [← q3]; exact q1) (Or.inr q4) (zCa_s (Or.inl c1))
  · have h7 := List.all_eq_true.mp hec.2.2 k c1
    rw [Bool.or_eq_true, decide_eq_true_eq] at h7
    rcases h7 with h7 | h7
    · exact absurd h7 c2
    · exact h2 0 13 k (List.mem_of_getElem? (i := 0) rfl) (Or.inl h7) (zCa_s (Or.inr ⟨rfl, c1⟩))
/-- the reference keeps its values by calls of the class, and the class by the reference's -/
theorem zMVr_kp {A : Nat → Nat} {V : Nat → Nat → Int} {P P' : Nat → Option Nat} {G G' : Nat → Nat → Int} {eff : List (Nat × Nat × Nat)} {ps : List Int} (h : zMVr A V P G) (hfr : zp_fr eff ps P G G') (hext : ∀ a t, P a = some t → P' a = some t) (he : zYr.all (fun q => zp_ncb eff q.2) = true) : zMVr A V P' G' := by
  obtain ⟨M, ⟨m1, m2, m3, m4⟩, hV, hS⟩ := h
  exact ⟨M, ⟨fun q hq9 => ⟨hext _ _ (m1 q hq9).1, fun k => by
    rw [zp_nc hfr (m1 q hq9).1 (List.all_eq_true.mp he q hq9) k]
    exact (m1 q hq9).2 k⟩, m2, m3, m4⟩, hV, hS⟩
/-- feed -/
noncomputable def zfdC (W W' : Nat → Nat → Int) (v1 v2 v3 v4 v5 rn : Int) : Prop := (W 11 1 ≤ 380 → rn = W 11 1 + 20 ∧ W' 11 1 = W 11 1 + 20 ∧ ∀ j : Nat, W' 71 (2000 + j) = zF_5 (fun j => W 71 (2000 + j)) (W 11 1) v1 v2 v3 v4 v5 j) ∧ (¬ W 11 1 ≤ 380 → rn = -1 ∧ W' 11 1 = W 11 1 ∧ ∀ j : Nat, W' 71 (2000 + j) = W 71 (2000 + j))
noncomputable def zfdR (V V' : Nat → Nat → Int) (v1 v2 v3 v4 v5 rn : Int) : Prop := (V 0 13 ≤ 380 → rn = V 0 13 + 20 ∧ V' 0 13 = V 0 13 + 20 ∧ ∀ j : Nat, V' 12 (2000 + j) = zF_5 (fun j => V 12 (2000 + j)) (V 0 13) v1 v2 v3 v4 v5 j) ∧ (¬ V 0 13 ≤ 380 → rn = -1 ∧ V' 0 13 = V 0 13 ∧ ∀ j : Nat, V' 12 (2000 + j) = V 12 (2000 + j))
theorem zC_fd {A : Nat → Nat} {Y : List (Nat × Nat)} {F : List (Nat × Nat × Nat)} {W : Nat → Nat → Int} {P P' : Nat → Option Nat} {G G' : Nat → Nat → Int} {ps : List Int} {rn : Int} (h : zMVc A Y F W P G) (hY : zMc Y F) (h0 : zp_0 ps = A 0) (hψ : zψ_fdb P G ps P' G' rn) : zfdC W (fun o k => if o ∈ [11, 71] then G' (A o) k else W o k) (ps.getD 1 0) (ps.getD 2 0) (ps.getD 3 0) (ps.getD 4 0) (ps.getD 5 0) rn := by
  have e8 : G (A 0) 8 = (A 11 : Int) := zMVc_F h (hY.1 (0, 12) (by decide)) (hY.2.1 (0, 8, 11) (by decide))
  have e0 : G (A 11) 0 = (A 71 : Int) := zMVc_F h (hY.1 (11, 7) (by decide)) (hY.2.1 (11, 0, 71) (by decide))
  have e1 : G (A 11) 1 = W 11 1 := zMVc_G h (hY.1 (11, 7) (by decide)) (by decide)
  have e2 : ∀ j : Nat, G (A 71) (2000 + j) = W 71 (2000 + j) := fun j => zMVc_G h (hY.1 (71, 29) (by decide)) (by decide)
  simp only [zψ_fdb, h0, e8, Int.toNat_natCast, e0, e1, e2] at hψ
  exact hψ
theorem zR_fd {A : Nat → Nat} {V V' : Nat → Nat → Int} {P P' : Nat → Option Nat} {G G' : Nat → Nat → Int} {ps : List Int} {rn : Int} (h : zMVr A V P G) (h' : zMVr A V' P' G') (h0 : zp_0 ps = A 0) (hψ : zψ_mfd P G ps P' G' rn) : zfdR V V' (ps.getD 1 0) (ps.getD 2 0) (ps.getD 3 0) (ps.getD 4 0) (ps.getD 5 0) rn := by
  have e13 : G (A 0) 13 = V 0 13 := zMVr_G h (t := 13) (List.mem_of_getElem? (i := 0) rfl) (Or.inr (by decide))
  have e12 : G (A 0) 12 = (A 12 : Int) := zMVr_F h (o := 0) (t := 13) (List.mem_of_getElem? (i := 0) rfl) (k := 12) (o' := 12) (by decide)
  have e2 : ∀ j : Nat, G (A 12) (2000 + j) = V 12 (2000 + j) := fun j => zMVr_G h (t := 66) (by decide) (Or.inl (by decide))
  have f13 : G' (A 0) 13 = V' 0 13 := zMVr_G h' (t := 13) (List.mem_of_getElem? (i := 0) rfl) (Or.inr (by decide))
  have f2 : ∀ j : Nat, G' (A 12) (2000 + j) = V' 12 (2000 + j) := fun j => zMVr_G h' (t := 66) (by decide) (Or.inl (by decide))
  simp only [zψ_mfd, h0, e13, e12, Int.toNat_natCast, e2, f13, f2] at hψ
  exact hψ
theorem zF_5_c {B B' : Nat → Int} {n v1 v2 v3 v4 v5 : Int} {j : Nat} (h : B j = B' j) : zF_5 B n v1 v2 v3 v4 v5 j = zF_5 B' n v1 v2 v3 v4 v5 j := by
  unfold zF_5 zF_4
  rw [h]
/-- the tape alone changed -/
theorem zF_tp {A : Nat → Nat} {Y : List (Nat × Nat)} {F : List (Nat × Nat × Nat)} {V V' W W' : Nat → Nat → Int} (h : zFull A Y F V W) (hV : ∀ o k, ((o ∈ zCl ∧ o ∉ ([12] : List Nat)) ∨ (o = 0 ∧ k ∈ zCk ∧ k ∉ ([13] : List Nat))) → V' o k = V o k) (hW : ∀ o k, o ≠ 11 → o ≠ 71 → W' o k = W o k) (htp : zTp V' W') : zFull A Y F V' W' := by
  obtain ⟨n1, np, Lw, h, hl, he⟩ := h
  have vo : ∀ o k, (o = 2 ∨ o = 3 ∨ o = 4 ∨ o = 5 ∨ o = 6 ∨ o = 7 ∨ o = 31 ∨ o = 32 ∨ o = 33 ∨ o = 62 ∨ (o = 0 ∧ (k = 1 ∨ k = 8 ∨ k = 11 ∨ k = 18 ∨ k = 20 ∨ k = 30 ∨ k = 47 ∨ k = 59 ∨ k = 63))) → V' o k = V o k := fun o k ho => hV o k (by
    unfold zCl zCk
    simp only [List.mem_cons, List.not_mem_nil, or_false]
    omega)
  refine zF_z h hl he (zCo_e (fun o k ho => vo o k (by unfold zCr at ho; omega)) (fun o k ho => ?_) h) (fun j _ => vo _ _ (by omega)) (zRow_e (zCo_n h).1.1 (fun j _ _ => vo _ _ (by omega)) he.2.1) htp ⟨?_, ?_, ?_⟩ ?_ ?_ (fun o k ho => vo o k (by omega)) (fun o k ho => hW o k (by omega) (by omega))
  · unfold zCc at ho
    exact hW o k (by omega) (by omega)
  · rw [hW 0 17 (by decide) (by decide), vo 0 11 (by omega)]
    exact he.2.2.2.1.1
  · rw [hW 12 2 (by decide) (by decide), vo 0 18 (by omega)]
    exact he.2.2.2.1.2.1
  · rw [hW 0 15 (by decide) (by decide), vo 0 59 (by omega)]
    exact he.2.2.2.1.2.2
  · exact zDwn_e (vo _ _ (by omega)) (fun k => vo _ _ (by omega)) (fun o k ho => hW o k (by omega) (by omega)) he.2.2.2.2.1
  · rw [vo 0 30 (by omega)]
    exact he.2.2.2.2.2.2.1
theorem zFull_tp {A : Nat → Nat} {Y : List (Nat × Nat)} {F : List (Nat × Nat × Nat)} {V W : Nat → Nat → Int} (h : zFull A Y F V W) : zTp V W := by
  obtain ⟨n1, np, Lw, h, hl, he⟩ := h
  exact he.2.2.1
theorem zP_fd {A : Nat → Nat} {Y : List (Nat × Nat)} {F : List (Nat × Nat × Nat)} {V V' W W' : Nat → Nat → Int} {v1 v2 v3 v4 v5 rn rn' : Int} (h : zFull A Y F V W) (hC : zfdC W W' v1 v2 v3 v4 v5 rn) (hR : zfdR V V' v1 v2 v3 v4 v5 rn') (hV : ∀ o k, ((o ∈ zCl ∧ o ∉ ([12] : List Nat)) ∨ (o = 0 ∧ k ∈ zCk ∧ k ∉ ([13] : List Nat))) → V' o k = V o k) (hW : ∀ o k, o ≠ 11 → o ≠ 71 → W' o k = W o k) (hb : ∀ j, 0 ≤ V' 12 (2000 + j) ∧ V' 12 (2000 + j) ≤ 255) : rn = rn' ∧ zFull A Y F V' W' := by
  obtain ⟨a1, a2, a3, a4⟩ := zFull_tp h
  obtain ⟨c1, c2⟩ := hC
  obtain ⟨r1, r2⟩ := hR
  by_cases d : V 0 13 ≤ 380
  · obtain ⟨c3, c4, c5⟩ := c1 (by omega)
    obtain ⟨r3, r4, r5⟩ := r1 d
    refine ⟨by omega, zF_tp h hV hW ⟨by omega, by omega, fun j hj => ?_, hb⟩⟩
    rw [c5, r5, a1]
    exact zF_5_c (a3 j hj)
  · obtain ⟨c3, c4, c5⟩ := c2 (by omega)
    obtain ⟨r3, r4, r5⟩ := r2 d
    refine ⟨by omega, zF_tp h hV hW ⟨by omega, by omega, fun j hj => ?_, hb⟩⟩
    rw [c5, r5]
    exact a3 j hj
/-- end -/
noncomputable def zetC (W W' : Nat → Nat → Int) (v1 rn : Int) : Prop := (0 ≤ v1 ∧ v1 ≤ W 11 1 → rn = v1 ∧ W' 11 1 = v1) ∧ (¬ (0 ≤ v1 ∧ v1 ≤ W 11 1) → rn = -1 ∧ W' 11 1 = W 11 1)
noncomputable def zetR (V V' : Nat → Nat → Int) (v1 rn : Int) : Prop := (0 ≤ v1 ∧ v1 ≤ V 0 13 → rn = v1 ∧ V' 0 13 = v1) ∧ (¬ (0 ≤ v1 ∧ v1 ≤ V 0 13) → rn = -1 ∧ V' 0 13 = V 0 13)
theorem zC_et {A : Nat → Nat} {Y : List (Nat × Nat)} {F : List (Nat × Nat × Nat)} {W : Nat → Nat → Int} {P P' : Nat → Option Nat} {G G' : Nat → Nat → Int} {ps : List Int} {rn : Int} (h : zMVc A Y F W P G) (hY : zMc Y F) (h0 : zp_0 ps = A 0) (hψ : zψ_et1 P G ps P' G' rn) : zetC W (fun o k => if o ∈ [11] then G' (A o) k else W o k) (ps.getD 1 0) rn := by
  have e8 : G (A 0) 8 = (A 11 : Int) := zMVc_F h (hY.1 (0, 12) (by decide)) (hY.2.1 (0, 8, 11) (by decide))
  have e1 : G (A 11) 1 = W 11 1 := zMVc_G h (hY.1 (11, 7) (by decide)) (by decide)
  simp only [zψ_et1, h0, e8, Int.toNat_natCast, e1] at hψ
  exact hψ.2
theorem zR_et {A : Nat → Nat} {V V' : Nat → Nat → Int} {P P' : Nat → Option Nat} {G G' : Nat → Nat → Int} {ps : List Int} {rn : Int} (h : zMVr A V P G) (h' : zMVr A V' P' G') (h0 : zp_0 ps = A 0) (hψ : zψ_en2 P G ps P' G' rn) : zetR V V' (ps.getD 1 0) rn := by
  have e13 : G (A 0) 13 = V 0 13 := zMVr_G h (t := 13) (List.mem_of_getElem? (i := 0) rfl) (Or.inr (by decide))
  have f13 : G' (A 0) 13 = V' 0 13 := zMVr_G h' (t := 13) (List.mem_of_getElem? (i := 0) rfl) (Or.inr (by decide))
  simp only [zψ_en2, h0, e13, f13] at hψ
  exact hψ.2
theorem zP_et {A : Nat → Nat} {Y : List (Nat × Nat)} {F : List (Nat × Nat × Nat)} {V V' W W' : Nat → Nat → Int} {v1 rn rn' : Int} (h : zFull A Y F V W) (hC : zetC W W' v1 rn) (hR : zetR V V' v1 rn') (hV : ∀ o k, ((o ∈ zCl ∧ o ∉ ([] : List Nat)) ∨ (o = 0 ∧ k ∈ zCk ∧ k ∉ ([13] : List Nat))) → V' o k = V o k) (hW : ∀ o k, o ≠ 11 → W' o k = W o k) : rn = rn' ∧ zFull A Y F V' W' := by
  obtain ⟨a1, a2, a3, a4⟩ := zFull_tp h
  obtain ⟨c1, c2⟩ := hC
  obtain ⟨r1, r2⟩ := hR
  have v12 : ∀ k, V' 12 k = V 12 k := fun k => hV 12 k (Or.inl ⟨by decide, List.not_mem_nil⟩)
  have hV' : ∀ o k, ((o ∈ zCl ∧ o ∉ ([12] : List Nat)) ∨ (o = 0 ∧ k ∈ zCk ∧ k ∉ ([13] : List Nat))) → V' o k = V o k := fun o k ho => hV o k (ho.elim (fun z => Or.inl ⟨z.1, List.not_mem_nil⟩) Or.inr)
  have tp : ∀ n : Int, 0 ≤ n → n ≤ 400 → W' 11 1 = n → V' 0 13 = n → zTp V' W' := fun n h1 h2 h3 h4 => ⟨by omega, by omega, fun j hj => by
    rw [hW 71 _ (by decide), v12]
    exact a3 j hj, fun j => by
    rw [v12]
    exact a4 j⟩
  by_cases d : 0 ≤ v1 ∧ v1 ≤ V 0 13
  · obtain ⟨c3, c4⟩ := c1 (by omega)
    obtain ⟨r3, r4⟩ := r1 d
    exact ⟨by omega, zF_tp h hV' (fun o k h1 _ => hW o k h1) (tp v1 (by omega) (by omega) c4 r4)⟩
  · obtain ⟨c3, c4⟩ := c2 (by omega)
    obtain ⟨r3, r4⟩ := r2 d
    exact ⟨by omega, zF_tp h hV' (fun o k h1 _ => hW o k h1) (tp (V 0 13) (by omega) (by omega) (by omega) r4)⟩
/-- calls that ask, whose scratch lies in the undone rows' last part -/
theorem zF_ask2 {A : Nat → Nat} {Y : List (Nat × Nat)} {F : List (Nat × Nat × Nat)} {V V' W W' : Nat → Nat → Int} (hV : zKp V V') (hW : ∀ o k, zN8 o → W' o k = W o k) (h : zFull A Y F V W) : zFull A Y F V' W' := by
  obtain ⟨n1, np, Lw, h, hl, he⟩ := h
  refine zF_s h hl he (zCo_e (fun o k ho => ?_) (fun o k ho => ?_) h) (fun o k ho => ?_) (fun o k ho => ?_)
  · unfold zCr at ho
    exact hV o k (by omega) (by omega)
  · unfold zCc at ho
    exact hW o k (by unfold zN8; omega)
  · unfold zVx at ho
    exact hV o k (by omega) (by omega)
  · unfold zWx at ho
    exact hW o k (by unfold zN8; omega)
/-- effects of the asking calls -/
theorem zEd_fd : zEd (zk_Ke zK_fdb) [11, 71] = true := by decide +kernel
theorem zEd_et : zEd (zk_Ke zK_et1) [11] = true := by decide +kernel
theorem zEb_fd : zEb (zk_Ke zK_mfd) [12] [13] = true := by decide +kernel
theorem zEb_et : zEb (zk_Ke zK_en2) [] [13] = true := by decide +kernel
/-- set is within its bounds by its type -/
theorem zl_b75 {w : zk_W} {s : State} {P : Nat → Option Nat} {F : Nat → va_E} {H : Heap} (hw : w.1 = zt_types) (h : zk_wt w s P F H) {a : Nat} (hp : P a = some 75) : ∀ j : Nat, j < 13 → -2147483648 ≤ zp_n F a (2000 + j) ∧ zp_n F a (2000 + j) ≤ 2147483647 := fun j hj => by
  obtain ⟨T, hT, h1, t3, t4⟩ := zp_ia_ok (show zp_ia 2 75 = some (13, 1, 0, (-2147483648), 2147483647) from rfl)
  rw [← hw] at hT
  obtain ⟨cA, n, f, o1, o2, o3, o4, o5, o6, o7⟩ := zp_larr (zp_wt.of (xs := []) h) hp hT h1
  obtain ⟨z, z1, z2⟩ := o5 j (by omega)
  rw [t4] at z1 z2
  have ez : zp_n F a (2000 + j) = z := by
    unfold zp_n
    rw [o1, zk_rd_l (by omega), z2]
    exact zp_num_mk z1 (show _ ≤ 2 from Nat.le_of_ble_eq_true rfl)
  rw [ez]
  exact ⟨z1.1, z1.2.1⟩
/-- the reference's orderly by its effects -/
noncomputable def zEo (eff : List (Nat × Nat × Nat)) : Bool := zFr.all (fun r => zYr.any (fun q => q.1 == r.1 && zp_nfb eff q.2 r.2.1)) && (zCt.all (fun t => zp_ncb eff t) && zCk.all (fun k => decide (k = 47) || zp_nfb eff 13 k))
theorem zEo_od : zEo (zk_Ke zK_odx) = true := by decide +kernel
theorem zMVr_od {A : Nat → Nat} {V : Nat → Nat → Int} {P P' : Nat → Option Nat} {G G' : Nat → Nat → Int} {eff : List (Nat × Nat × Nat)} {ps : List Int} (h : zMVr A V P G) (hfr : zp_fr eff ps P G G') (hext : ∀ a t, P a = some t → P' a = some t) (hec : zEo eff = true) (hs : ∀ j, j < 13 → -2147483648 ≤ G' (A 35) (2000 + j) ∧ G' (A 35) (2000 + j) ≤ 2147483647) (h47 : G' (A 0) 47 = V 0 47) : ∃ V', zMVr A V' P' G' ∧ ∀ o k, zCa o k → V' o k = V o k := by
  unfold zEo at hec
  rw [Bool.and_eq_true, Bool.and_eq_true] at hec
  obtain ⟨M, hM, hV, hS⟩ := h
  obtain ⟨M', hM9, hk9⟩ := zM_eff hM hfr hext (zM_fb hec.1)
  refine ⟨M', ⟨M', hM9, fun _ _ _ => rfl, fun j hj => ?_⟩, fun o k hc => ?_⟩
  · have h9 := hs j hj
    rw [zM_G hM9 (o := 35) (t := 75) (List.mem_of_getElem? (i := 18) rfl)] at h9
    omega
  · have hn := zCa_s hc
    rcases hc with hc | ⟨rfl, hc⟩
    · obtain ⟨-, t, ht, hy⟩ := zCl_s o hc
      exact (hk9 o t k hy (Or.inr (List.all_eq_true.mp hec.2.1 t ht))).trans (hV o k hn)
    · have h7 := List.all_eq_true.mp hec.2.2 k hc
      rw [Bool.or_eq_true, decide_eq_true_eq] at h7
      rcases h7 with rfl | h7
      · exact (zM_G hM9 (o := 0) (t := 13) (List.mem_of_getElem? (i := 0) rfl) 47).symm.trans h47
      · exact (hk9 0 13 k (List.mem_of_getElem? (i := 0) rfl) (Or.inl h7)).trans (hV 0 k hn)
