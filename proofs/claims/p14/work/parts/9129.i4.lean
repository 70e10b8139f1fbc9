/-! part i4: the class over logical cells: a day -/
/-- is the work that stands ahead no hindranceξ -/
abbrev zc_ry (V : Nat → Nat → Int) (X : (Nat → Int) × (Nat → Int)) (a h : Int) : Prop := ¬ (0 ≤ a ∧ a < V 1 3 ∧ a < 10) ∨ (V 33 (2000 + a.toNat) ≤ X.1 a.toNat ∧ X.2 a.toNat < h)
/-- the first work that one can go on with -/
noncomputable def zc_wo (V : Nat → Nat → Int) (X : (Nat → Int) × (Nat → Int)) (p h : Int) : Nat → Nat → Int
  | 0, _ => -1
  | k + 1, w => if V 32 (2000 + w) = p ∧ (X.1 w < V 33 (2000 + w) ∧ zc_ry V X (V 36 (2000 + w)) h) then (w : Int) else zc_wo V X p h k (w + 1)
/-- a day's state: works and when they ended -/
noncomputable def zDX (X : (Nat → Int) × (Nat → Int)) (M : Nat → Nat → Int) : Prop := ∀ w, w < 10 → M 69 (2000 + w) = X.1 w ∧ M 70 (2000 + w) = X.2 w
noncomputable def zDst (A : Nat → Nat) (Y : List (Nat × Nat)) (F : List (Nat × Nat × Nat)) (V : Nat → Nat → Int) (L : List yK) (g b : Nat) (t : Int) (X : (Nat → Int) × (Nat → Int)) (M : Nat → Nat → Int) : Prop := zAb A Y F V L (zRc V g b) t M ∧ (M 5 1 = (A 1 : Int) ∧ M 5 2 = (A g : Int)) ∧ (∀ h, h < 24 → M 68 (2000 + h) = zd_pw (zd_ru (zRc V g b) L t) t h) ∧ zDX X M
noncomputable def zMDs (A : Nat → Nat) (Y : List (Nat × Nat)) (F : List (Nat × Nat × Nat)) (V : Nat → Nat → Int) (L : List yK) (g b : Nat) (t : Int) (X : (Nat → Int) × (Nat → Int)) (P : Nat → Option Nat) (G : Nat → Nat → Int) : Prop := ∃ M, zM A Y F M P G ∧ (∀ o k, zNc o → M o k = V o k) ∧ zDst A Y F V L g b t X M
/-- the day begins as the going says -/
noncomputable def zc_ok (V : Nat → Nat → Int) (g b n npξ : Nat) : Prop := zd_ok (zRc V g b) n npξ ∧ ∀ w, w < n → zRc V g b (w + 29) ≤ zRc V g b (5 * w + 40)
/-- an hour's beginning; within an hourξ -/
noncomputable def zc_ib (R : Nat → Int) (n : Nat) (h : Int) (X : (Nat → Int) × (Nat → Int)) : Prop := ∀ w, w < n → X.1 w ≤ R (5 * w + 40) ∧ (X.1 w = R (5 * w + 40) → X.2 w < h) ∧ (X.1 w ≠ R (5 * w + 40) → X.2 w = -1)
noncomputable def zc_ih (R : Nat → Int) (n : Nat) (h : Int) (X0ξ X : (Nat → Int) × (Nat → Int)) : Prop := ∀ w, w < n → X.1 w ≤ R (5 * w + 40) ∧ (X0ξ.1 w = R (5 * w + 40) → X.1 w = R (5 * w + 40) ∧ X.2 w < h) ∧ (X0ξ.1 w ≠ R (5 * w + 40) → X.1 w = R (5 * w + 40) → X.2 w = h) ∧ (X.1 w ≠ R (5 * w + 40) → X.2 w = -1)
theorem zc_ih0 {R : Nat → Int} {n : Nat} {h : Int} {X : (Nat → Int) × (Nat → Int)} (H : zc_ib R n h X) : zc_ih R n h X X := fun w hwξ => ⟨(H w hwξ).1, fun e => ⟨e, (H w hwξ).2.1 e⟩, fun e e2 => absurd e2 e, (H w hwξ).2.2⟩
theorem zc_ih1 {R : Nat → Int} {n : Nat} {h : Int} {X0ξ X : (Nat → Int) × (Nat → Int)} (H : zc_ih R n h X0ξ X) : zc_ib R n (h + 1) X := fun w hwξ => ⟨(H w hwξ).1, fun e => by
  by_cases e0 : X0ξ.1 w = R (5 * w + 40)
  · have := ((H w hwξ).2.1 e0).2
    omega
  · have := (H w hwξ).2.2.1 e0 e
    omega, (H w hwξ).2.2.2⟩
theorem zc_ihs {R D : Nat → Int} {n : Nat} {s h : Int} {p : Nat} {X0ξ X : (Nat → Int) × (Nat → Int)} (H : zc_ih R n h X0ξ X) (hRξ : ∀ w, w < n → 0 ≤ R (5 * w + 40)) : zc_ih R n h X0ξ (zd_ps R D n s h p X) := by
  intro w hwξ
  unfold zd_ps
  split
  · exact H w hwξ
  · rcases zd_pk_r (R := R) (D := D) (W := X.1) (p := p) (k := n) (w := 0) with e | ⟨j, e, -, e2, e3, e4, e5⟩
    · rename_i hnξ
      exact absurd e hnξ
    · rw [e, Int.toNat_natCast]
      have h9ξ := H w hwξ
      have hrξ := hRξ j (by omega)
      by_cases ew : w = j
      · subst ew
        show yu X.1 w _ w ≤ _ ∧ (_ → yu X.1 w _ w = _ ∧ yu X.2 w _ w < h) ∧ (_ → yu X.1 w _ w = _ → yu X.2 w _ w = h) ∧ (yu X.1 w _ w ≠ _ → yu X.2 w _ w = -1)
        rw [yu_at, yu_at]
        refine ⟨by omega, fun e0 => ?_, fun _ e1 => if_pos e1, fun e1 => if_neg e1⟩
        have := (h9ξ.2.1 e0).1
        omega
      · show yu X.1 j _ w ≤ _ ∧ (_ → yu X.1 j _ w = _ ∧ yu X.2 j _ w < h) ∧ (_ → yu X.1 j _ w = _ → yu X.2 j _ w = h) ∧ (yu X.1 j _ w ≠ _ → yu X.2 j _ w = -1)
        rw [yu_ne ew, yu_ne ew]
        exact h9ξ
theorem zc_ihp {R D : Nat → Int} {n : Nat} {sp : Nat → Int} {h : Int} {X : (Nat → Int) × (Nat → Int)} (H : zc_ib R n h X) (hRξ : ∀ w, w < n → 0 ≤ R (5 * w + 40)) : ∀ {p : Nat}, zc_ih R n h X (zd_hp R D n sp h X p)
  | 0 => zc_ih0 H
  | p + 1 => zc_ihs (zc_ihp H hRξ (p := p)) hRξ
theorem zc_ibh {R : Nat → Int} {n npξ : Nat} {sp : Int → Nat → Nat → Int} {ru : Int → Nat → Int} {t : Int} (hRξ : ∀ w, w < n → 0 ≤ R (5 * w + 40)) (h0ξ : ∀ w, w < n → R (w + 29) ≤ R (5 * w + 40)) : ∀ {h : Nat}, zc_ib R n h (zd_hr R n npξ sp ru t h)
  | 0 => fun w hwξ => ⟨h0ξ w hwξ, fun _ => by show (-1 : Int) < ((0 : Nat) : Int); decide, fun _ => rfl⟩
  | h + 1 => by
    have h9ξ := zc_ih1 (zc_ihp (D := zd_rd R (zd_hr R n npξ sp ru t h).1) (sp := sp (zd_pw ru t h) h) (zc_ibh (npξ := npξ) (sp := sp) (ru := ru) (t := t) hRξ h0ξ (h := h)) hRξ (p := npξ))
    exact h9ξ
/-- ready as the reference says -/
theorem zc_rye {V : Nat → Nat → Int} {g b n : Nat} {h : Int} {X0ξ X : (Nat → Int) × (Nat → Int)} (hnξ : V 1 3 = (n : Int)) (hn10ξ : n ≤ 10) (H : zc_ih (zRc V g b) n h X0ξ X) {w : Nat} (hwξ : w < n) (haξ : -1 ≤ zRc V g b (5 * w + 43) ∧ zRc V g b (5 * w + 43) < (n : Int)) : zc_ry V X (V 36 (2000 + w)) h ↔ zd_rd (zRc V g b) X0ξ.1 w = 1 := by
  have e4 : zRc V g b (5 * w + 43) = V 36 (2000 + w) := zRc_w (i := 4) (by omega) (by omega)
  unfold zd_rd zc_ry
  rw [e4] at haξ ⊢
  by_cases e1 : V 36 (2000 + w) = -1
  · rw [if_pos (Or.inl e1)]
    exact ⟨fun _ => rfl, fun _ => Or.inl (by omega)⟩
  · obtain ⟨a, ea⟩ : ∃ a : Nat, V 36 (2000 + w) = (a : Int) := zp_nat (by omega)
    rw [ea] at haξ e1 ⊢
    rw [Int.toNat_natCast]
    have h9ξ := H a (by omega)
    have e5 : V 33 (2000 + a) = zRc V g b (5 * a + 40) := (zRc_w (i := 1) (by omega) (by omega)).symm
    rw [e5]
    by_cases e0 : X0ξ.1 a = zRc V g b (5 * a + 40)
    · rw [if_pos (Or.inr e0)]
      have h8ξ := h9ξ.2.1 e0
      exact ⟨fun _ => rfl, fun _ => Or.inr ⟨by omega, h8ξ.2⟩⟩
    · rw [if_neg (fun z => z.elim e1 e0)]
      refine ⟨fun z => ?_, fun z => absurd z (by decide)⟩
      rcases z with z | ⟨z1, z2⟩
      · omega
      · have h8ξ := h9ξ.2.2.1 e0 (by omega)
        omega
theorem zc_woe {V : Nat → Nat → Int} {g b n : Nat} {h p : Int} {X0ξ X : (Nat → Int) × (Nat → Int)} (hnξ : V 1 3 = (n : Int)) (hn10ξ : n ≤ 10) (H : zc_ih (zRc V g b) n h X0ξ X) (haξ : ∀ w, w < n → -1 ≤ zRc V g b (5 * w + 43) ∧ zRc V g b (5 * w + 43) < (n : Int)) : ∀ {k w : Nat}, k + w = n → zc_wo V X p h k w = zd_pk (zRc V g b) (zd_rd (zRc V g b) X0ξ.1) X.1 p k w
  | 0, w, _ => rfl
  | k + 1, w, hkξ => by
    have e0 : zRc V g b (5 * w + 39) = V 32 (2000 + w) := zRc_w (i := 0) (by omega) (by omega)
    have e1 : zRc V g b (5 * w + 40) = V 33 (2000 + w) := zRc_w (i := 1) (by omega) (by omega)
    have h9ξ := zc_rye hnξ hn10ξ H (w := w) (by omega) (haξ w (by omega))
    rw [zc_wo, zd_pk, e0, e1, zc_woe hnξ hn10ξ H haξ (k := k) (w := w + 1) (by omega)]
    by_cases c : V 32 (2000 + w) = p ∧ (X.1 w < V 33 (2000 + w) ∧ zc_ry V X (V 36 (2000 + w)) h)
    · rw [if_pos c, if_pos ⟨c.1, (Iff.mp h9ξ) c.2.2, c.2.1⟩]
    · rw [if_neg c, if_neg (fun z => c ⟨z.1, z.2.2, (Iff.mpr h9ξ) z.2.1⟩)]
noncomputable def zK_rdyd : zk_K := (zt_mn 110, prog_2_method_7_code, 3, (Option.some Jvm.ClassFile.FieldType.boolean), 1, 0, [(2, 0, 0, 0), (0, 0, (-2147483648), 2147483647), (0, 0, (-2147483648), 2147483647)], [(some (0, 0, 0, 1), [])], [], (1, 60, 0, 0))
noncomputable def zφ_rdyd (A : Nat → Nat) (Y : List (Nat × Nat)) (F : List (Nat × Nat × Nat)) (M : Nat → Nat → Int) (V : Nat → Nat → Int) (X : (Nat → Int) × (Nat → Int)) : (Nat → Option Nat) → (Nat → Nat → Int) → List Int → Prop := fun P G ps => zM A Y F M P G ∧ ps.getD 0 0 = (A 5 : Int) ∧ zMc Y F ∧ (∀ o k, zNc o → M o k = V o k) ∧ M 5 1 = (A 1 : Int) ∧ zDX X M
noncomputable def zψ_rdyd (A : Nat → Nat) (Y : List (Nat × Nat)) (F : List (Nat × Nat × Nat)) (M : Nat → Nat → Int) (V : Nat → Nat → Int) (X : (Nat → Int) × (Nat → Int)) : (Nat → Option Nat) → (Nat → Nat → Int) → List Int → (Nat → Option Nat) → (Nat → Nat → Int) → Int → Prop := fun P G ps P' G' rn => P' = P ∧ G' = G ∧ (rn = 1 ↔ zc_ry V X (ps.getD 1 0) (ps.getD 2 0))
theorem zX_rdyd {l : Launch} {w : zk_W} (hWξ : zh_W w) (A : Nat → Nat) (Y : List (Nat × Nat)) (F : List (Nat × Nat × Nat)) (M : Nat → Nat → Int) (V : Nat → Nat → Int) (X : (Nat → Int) × (Nat → Int)) : zk_metX l w zt_dv zt_TB zK_rdyd (zp_A (zφ_rdyd A Y F M V X)) (zp_B (zψ_rdyd A Y F M V X)) ∧ zk_cok w zt_TB zK_rdyd := by
  refine zp_methX (cn := "WoundTown$Day") zp_lkallDy hWξ (pl := 1019) rfl (by decide +kernel) (fun p e R s m args below meth c Q u hx hb hEξ hQξ hU5ξ heffξ hnLξ hokξ hφ => ?_)
  have hwξ := hWξ.1
  obtain ⟨p0ξ, p1ξ, p2ξ, hpsξ, tk0, tk1, tk2⟩ := zp_ps3 hokξ
  have hrmξ : zk_Kr (zk_ev (zt_types, zp_lkDy, zt_dv, [], [], zp_lcDy, zK_rdyd)) = zk_Kr zK_rdyd := rfl
  rw [hpsξ] at hφ ⊢
  have hφ : zM A Y F M u.1 (zp_n u.2.1) ∧ p0ξ = (A 5 : Int) ∧ zMc Y F ∧ (∀ o k, zNc o → M o k = V o k) ∧ M 5 1 = (A 1 : Int) ∧ zDX X M := hφ
  obtain ⟨hMξ, rfl, hYFξ, hVξ, h51ξ, hXξ⟩ := hφ
  have hYF0ξ := hYFξ
  obtain ⟨hYbξ, hFbξ, hFxξ, -⟩ := hYFξ
  have hi1ξ := zp_int tk1
  have hi2ξ := zp_int tk2
  show zp_J p l e R s m args below meth c Q w u [] 0 [(0, 2, (A 5 : Int)), (1, 0, p1ξ), (2, 0, p2ξ)] [] u.1 (zp_n u.2.1)
  refine zp_load (pc := 0) hx hb (zd_X0_isReady (0, .aload_n 0, 1, 0, []) (List.mem_of_getElem? (i := 0) rfl)) rfl (j := 0) rfl ?_
  refine zp_getf (n := (A 1 : Int)) (pc := 1) hx hb hEξ hwξ (zd_X0_isReady (1, .getfield 25, 3, 0, []) (List.mem_of_getElem? (i := 1) rfl)) (j := 18) rfl rfl rfl (zM_P hMξ (hYbξ _ (List.mem_of_getElem? (i := 5) rfl))) ((zM_G hMξ (hYbξ _ (List.mem_of_getElem? (i := 5) rfl)) 1).trans h51ξ) ?_
  refine zp_load (pc := 4) hx hb (zd_X0_isReady (4, .iload_n 1, 1, 0, []) (List.mem_of_getElem? (i := 2) rfl)) rfl (j := 1) rfl ?_
  refine zp_call (pc := 5) (how := 0) (idx := 119) (mi := 26) (S := []) hx hb hEξ hwξ heffξ hrmξ (zX_hwo1 hWξ A Y F M) rfl (j := 7) rfl rfl (by decide +kernel) (zd_X0_isReady (5, .invokevirtual 119, 3, 0, []) (List.mem_of_getElem? (i := 3) rfl)) [(A 1 : Int), p1ξ] rfl ⟨zp_o2 (zM_P hMξ (hYbξ _ (List.mem_of_getElem? (i := 1) rfl))), zp_o0 (by omega) (by omega) (by omega) (by omega), trivial⟩ (Nat.le_of_ble_eq_true rfl) ⟨hMξ, rfl, hYF0ξ⟩ (fun al halξ rni444ξ Pi444 Gi444 hexti444ξ hfri444ξ hoki444ξ hcsi444ξ hpsii444ξ => ?_)
  obtain rfl := List.mem_singleton.mp halξ
  have hri444ξ := zp_int (hoki444ξ _ rfl).1
  obtain ⟨hPei444ξ, hGei444ξ, hti444ξ⟩ := hpsii444ξ
  rw [hPei444ξ, hGei444ξ]
  clear hexti444ξ hfri444ξ hcsi444ξ hPei444ξ hGei444ξ
  have hti444ξ : rni444ξ = 1 ↔ 0 ≤ p1ξ ∧ p1ξ < (V 1 3) ∧ p1ξ < 10 := by
    have h9ξ : rni444ξ = 1 ↔ 0 ≤ p1ξ ∧ p1ξ < M 1 3 ∧ p1ξ < 10 := hti444ξ
    rw [(hVξ 1 3 (by decide))] at h9ξ
    exact h9ξ
  refine zp_if (pc := 8) (tgt := 39) hx hb (zd_X0_isReady (8, .ifCond .eq 31, 3, 0, []) (List.mem_of_getElem? (i := 4) rfl)) rfl (fun (hc445ξ : rni444ξ = 0) => ?_) (fun (hc445ξ : ¬ (rni444ξ = 0)) => ?_)
  · have hbf446ξ : ¬ (0 ≤ p1ξ ∧ p1ξ < (V 1 3) ∧ p1ξ < 10) := fun h9ξ => absurd ((Iff.mpr hti444ξ) h9ξ) (by omega)
    refine zp_const (pc := 39) hx hb (zd_X0_isReady (39, .iconst 1, 1, 0, []) (List.mem_of_getElem? (i := 21) rfl)) rfl rfl ?_
    refine zp_goto (tgt := 44) (pc := 40) hx hb (zd_X0_isReady (40, .goto 4, 3, 0, []) (List.mem_of_getElem? (i := 22) rfl)) rfl ?_
    refine zp_zret (pc := 44) (n := 1) hx hb hEξ hQξ hU5ξ rfl (by decide) (zd_X0_isReady (44, .ireturn, 1, 0, []) (List.mem_of_getElem? (i := 24) rfl)) (j := 0) rfl (zp_o0 (by omega) (by omega) (by omega) (by omega)) ?_
    rw [hpsξ]
    refine ⟨rfl, rfl, ?_⟩
    show (1 : Int) = 1 ↔ zc_ry V X p1ξ p2ξ
    unfold zc_ry
    omega
  · have hbt447ξ := (Iff.mp hti444ξ) (by omega)
    refine zp_load (pc := 11) hx hb (zd_X0_isReady (11, .aload_n 0, 1, 0, []) (List.mem_of_getElem? (i := 5) rfl)) rfl (j := 0) rfl ?_
    refine zp_getf (n := (A 69 : Int)) (pc := 12) hx hb hEξ hwξ (zd_X0_isReady (12, .getfield 15, 3, 0, []) (List.mem_of_getElem? (i := 6) rfl)) (j := 21) rfl rfl rfl (zM_P hMξ (hYbξ _ (List.mem_of_getElem? (i := 5) rfl))) ((zM_G hMξ (hYbξ _ (List.mem_of_getElem? (i := 5) rfl)) 4).trans (zM_F hMξ (hFbξ _ (List.mem_of_getElem? (i := 45) rfl)))) ?_
    refine zp_load (pc := 15) hx hb (zd_X0_isReady (15, .iload_n 1, 1, 0, []) (List.mem_of_getElem? (i := 7) rfl)) rfl (j := 1) rfl ?_
    refine zp_iald (j := p1ξ.toNat) (v := (X.1 p1ξ.toNat)) (pc := 16) hx hb hwξ (zd_X0_isReady (16, .iaload, 1, 0, []) (List.mem_of_getElem? (i := 8) rfl)) (show zp_ia 1 15 = some (10, 0, 0, (-2147483648), 2147483647) from rfl) (zM_P hMξ (hYbξ _ (List.mem_of_getElem? (i := 47) rfl))) (by omega) (by omega) ((zM_G hMξ (hYbξ _ (List.mem_of_getElem? (i := 47) rfl)) (2000 + p1ξ.toNat)).trans (hXξ p1ξ.toNat (by omega)).1) (fun hk448ξ => ?_)
    have hk448bξ := zp_int hk448ξ
    clear hk448ξ
    refine zp_load (pc := 17) hx hb (zd_X0_isReady (17, .aload_n 0, 1, 0, []) (List.mem_of_getElem? (i := 9) rfl)) rfl (j := 0) rfl ?_
    refine zp_getf (n := (A 1 : Int)) (pc := 18) hx hb hEξ hwξ (zd_X0_isReady (18, .getfield 25, 3, 0, []) (List.mem_of_getElem? (i := 10) rfl)) (j := 18) rfl rfl rfl (zM_P hMξ (hYbξ _ (List.mem_of_getElem? (i := 5) rfl))) ((zM_G hMξ (hYbξ _ (List.mem_of_getElem? (i := 5) rfl)) 1).trans h51ξ) ?_
    refine zp_getf (n := (A 33 : Int)) (pc := 21) hx hb hEξ hwξ (zd_X0_isReady (21, .getfield 103, 3, 0, []) (List.mem_of_getElem? (i := 11) rfl)) (j := 7) rfl rfl rfl (zM_P hMξ (hYbξ _ (List.mem_of_getElem? (i := 1) rfl))) ((zM_G hMξ (hYbξ _ (List.mem_of_getElem? (i := 1) rfl)) 5).trans (zM_F hMξ (hFbξ _ (List.mem_of_getElem? (i := 16) rfl)))) ?_
    refine zp_load (pc := 24) hx hb (zd_X0_isReady (24, .iload_n 1, 1, 0, []) (List.mem_of_getElem? (i := 12) rfl)) rfl (j := 1) rfl ?_
    refine zp_iald (j := p1ξ.toNat) (v := (V 33 (2000 + p1ξ.toNat))) (pc := 25) hx hb hwξ (zd_X0_isReady (25, .iaload, 1, 0, []) (List.mem_of_getElem? (i := 13) rfl)) (show zp_ia 1 45 = some (10, 0, 0, (-2147483648), 2147483647) from rfl) (zM_P hMξ (hYbξ _ (List.mem_of_getElem? (i := 20) rfl))) (by omega) (by omega) ((zM_G hMξ (hYbξ _ (List.mem_of_getElem? (i := 20) rfl)) (2000 + p1ξ.toNat)).trans (hVξ 33 (2000 + p1ξ.toNat) (by decide))) (fun hk449ξ => ?_)
    have hk449bξ := zp_int hk449ξ
    clear hk449ξ
    refine zp_icmp (pc := 26) (tgt := 43) hx hb (zd_X0_isReady (26, .if_icmp .lt 17, 3, 0, []) (List.mem_of_getElem? (i := 14) rfl)) rfl (fun (hc450ξ : (X.1 p1ξ.toNat) < (V 33 (2000 + p1ξ.toNat))) => ?_) (fun (hc450ξ : ¬ ((X.1 p1ξ.toNat) < (V 33 (2000 + p1ξ.toNat)))) => ?_)
    · refine zp_const (pc := 43) hx hb (zd_X0_isReady (43, .iconst 0, 1, 0, []) (List.mem_of_getElem? (i := 23) rfl)) rfl rfl ?_
      refine zp_zret (pc := 44) (n := 0) hx hb hEξ hQξ hU5ξ rfl (by decide) (zd_X0_isReady (44, .ireturn, 1, 0, []) (List.mem_of_getElem? (i := 24) rfl)) (j := 0) rfl (zp_o0 (by omega) (by omega) (by omega) (by omega)) ?_
      rw [hpsξ]
      refine ⟨rfl, rfl, ?_⟩
      show (0 : Int) = 1 ↔ zc_ry V X p1ξ p2ξ
      unfold zc_ry
      omega
    · refine zp_load (pc := 29) hx hb (zd_X0_isReady (29, .aload_n 0, 1, 0, []) (List.mem_of_getElem? (i := 15) rfl)) rfl (j := 0) rfl ?_
      refine zp_getf (n := (A 70 : Int)) (pc := 30) hx hb hEξ hwξ (zd_X0_isReady (30, .getfield 18, 3, 0, []) (List.mem_of_getElem? (i := 16) rfl)) (j := 22) rfl rfl rfl (zM_P hMξ (hYbξ _ (List.mem_of_getElem? (i := 5) rfl))) ((zM_G hMξ (hYbξ _ (List.mem_of_getElem? (i := 5) rfl)) 5).trans (zM_F hMξ (hFbξ _ (List.mem_of_getElem? (i := 46) rfl)))) ?_
      refine zp_load (pc := 33) hx hb (zd_X0_isReady (33, .iload_n 1, 1, 0, []) (List.mem_of_getElem? (i := 17) rfl)) rfl (j := 1) rfl ?_
      refine zp_iald (j := p1ξ.toNat) (v := (X.2 p1ξ.toNat)) (pc := 34) hx hb hwξ (zd_X0_isReady (34, .iaload, 1, 0, []) (List.mem_of_getElem? (i := 18) rfl)) (show zp_ia 1 16 = some (10, 0, 0, (-2147483648), 2147483647) from rfl) (zM_P hMξ (hYbξ _ (List.mem_of_getElem? (i := 48) rfl))) (by omega) (by omega) ((zM_G hMξ (hYbξ _ (List.mem_of_getElem? (i := 48) rfl)) (2000 + p1ξ.toNat)).trans (hXξ p1ξ.toNat (by omega)).2) (fun hk451ξ => ?_)
      have hk451bξ := zp_int hk451ξ
      clear hk451ξ
      refine zp_load (pc := 35) hx hb (zd_X0_isReady (35, .iload_n 2, 1, 0, []) (List.mem_of_getElem? (i := 19) rfl)) rfl (j := 2) rfl ?_
      refine zp_icmp (pc := 36) (tgt := 43) hx hb (zd_X0_isReady (36, .if_icmp .ge 7, 3, 0, []) (List.mem_of_getElem? (i := 20) rfl)) rfl (fun (hc452ξ : p2ξ ≤ (X.2 p1ξ.toNat)) => ?_) (fun (hc452ξ : ¬ (p2ξ ≤ (X.2 p1ξ.toNat))) => ?_)
      · refine zp_const (pc := 43) hx hb (zd_X0_isReady (43, .iconst 0, 1, 0, []) (List.mem_of_getElem? (i := 23) rfl)) rfl rfl ?_
        refine zp_zret (pc := 44) (n := 0) hx hb hEξ hQξ hU5ξ rfl (by decide) (zd_X0_isReady (44, .ireturn, 1, 0, []) (List.mem_of_getElem? (i := 24) rfl)) (j := 0) rfl (zp_o0 (by omega) (by omega) (by omega) (by omega)) ?_
        rw [hpsξ]
        refine ⟨rfl, rfl, ?_⟩
        show (0 : Int) = 1 ↔ zc_ry V X p1ξ p2ξ
        unfold zc_ry
        omega
      · refine zp_const (pc := 39) hx hb (zd_X0_isReady (39, .iconst 1, 1, 0, []) (List.mem_of_getElem? (i := 21) rfl)) rfl rfl ?_
        refine zp_goto (tgt := 44) (pc := 40) hx hb (zd_X0_isReady (40, .goto 4, 3, 0, []) (List.mem_of_getElem? (i := 22) rfl)) rfl ?_
        refine zp_zret (pc := 44) (n := 1) hx hb hEξ hQξ hU5ξ rfl (by decide) (zd_X0_isReady (44, .ireturn, 1, 0, []) (List.mem_of_getElem? (i := 24) rfl)) (j := 0) rfl (zp_o0 (by omega) (by omega) (by omega) (by omega)) ?_
        rw [hpsξ]
        refine ⟨rfl, rfl, ?_⟩
        show (1 : Int) = 1 ↔ zc_ry V X p1ξ p2ξ
        unfold zc_ry
        omega
noncomputable def zK_wofd : zk_K := (zt_mn 109, prog_2_method_6_code, 4, (Option.some Jvm.ClassFile.FieldType.int), 1, 0, [(2, 0, 0, 0), (0, 0, (-2147483648), 2147483647), (0, 0, (-2147483648), 2147483647)], [(some (0, 0, (-2147483648), 2147483647), [])], [], (2, 120, 0, 0))
noncomputable def zφ_wofd (A : Nat → Nat) (Y : List (Nat × Nat)) (F : List (Nat × Nat × Nat)) (M : Nat → Nat → Int) (V : Nat → Nat → Int) (X : (Nat → Int) × (Nat → Int)) (n1ξ : Nat) : (Nat → Option Nat) → (Nat → Nat → Int) → List Int → Prop := fun P G ps => zM A Y F M P G ∧ ps.getD 0 0 = (A 5 : Int) ∧ zMc Y F ∧ (∀ o k, zNc o → M o k = V o k) ∧ M 5 1 = (A 1 : Int) ∧ zDX X M ∧ V 1 3 = (n1ξ : Int) ∧ n1ξ ≤ 10
noncomputable def zψ_wofd (A : Nat → Nat) (Y : List (Nat × Nat)) (F : List (Nat × Nat × Nat)) (M : Nat → Nat → Int) (V : Nat → Nat → Int) (X : (Nat → Int) × (Nat → Int)) (n1ξ : Nat) : (Nat → Option Nat) → (Nat → Nat → Int) → List Int → (Nat → Option Nat) → (Nat → Nat → Int) → Int → Prop := fun P G ps P' G' rn => P' = P ∧ G' = G ∧ rn = zc_wo V X (ps.getD 1 0) (ps.getD 2 0) n1ξ 0
theorem zX_wofd {l : Launch} {w : zk_W} (hWξ : zh_W w) (A : Nat → Nat) (Y : List (Nat × Nat)) (F : List (Nat × Nat × Nat)) (M : Nat → Nat → Int) (V : Nat → Nat → Int) (X : (Nat → Int) × (Nat → Int)) (n1ξ : Nat) : zk_metX l w zt_dv zt_TB zK_wofd (zp_A (zφ_wofd A Y F M V X n1ξ)) (zp_B (zψ_wofd A Y F M V X n1ξ)) ∧ zk_cok w zt_TB zK_wofd := by
  refine zp_methX (cn := "WoundTown$Day") zp_lkallDy hWξ (pl := 1015) rfl (by decide +kernel) (fun p e R s m args below meth c Q u hx hb hEξ hQξ hU5ξ heffξ hnLξ hokξ hφ => ?_)
  have hwξ := hWξ.1
  obtain ⟨p0ξ, p1ξ, p2ξ, hpsξ, tk0, tk1, tk2⟩ := zp_ps3 hokξ
  have hrmξ : zk_Kr (zk_ev (zt_types, zp_lkDy, zt_dv, [], [], zp_lcDy, zK_wofd)) = zk_Kr zK_wofd := rfl
  rw [hpsξ] at hφ ⊢
  have hφ : zM A Y F M u.1 (zp_n u.2.1) ∧ p0ξ = (A 5 : Int) ∧ zMc Y F ∧ (∀ o k, zNc o → M o k = V o k) ∧ M 5 1 = (A 1 : Int) ∧ zDX X M ∧ V 1 3 = (n1ξ : Int) ∧ n1ξ ≤ 10 := hφ
  obtain ⟨hMξ, rfl, hYFξ, hVξ, h51ξ, hXξ, hn1ξ, hn10ξ⟩ := hφ
  have hYF0ξ := hYFξ
  obtain ⟨hYbξ, hFbξ, hFxξ, -⟩ := hYFξ
  have hi1ξ := zp_int tk1
  have hi2ξ := zp_int tk2
  show zp_J p l e R s m args below meth c Q w u [] 0 [(0, 2, (A 5 : Int)), (1, 0, p1ξ), (2, 0, p2ξ)] [] u.1 (zp_n u.2.1)
  have loop : ∀ (k9ξ w9ξ : Nat), k9ξ + w9ξ = n1ξ → zc_wo V X p1ξ p2ξ n1ξ 0 = zc_wo V X p1ξ p2ξ k9ξ w9ξ → zp_J p l e R s m args below meth c Q w u [] 2 [(3, 0, (w9ξ : Int)), (0, 2, (A 5 : Int)), (1, 0, p1ξ), (2, 0, p2ξ)] [] u.1 (zp_n u.2.1) := by
    intro k9ξ
    induction k9ξ with
    | zero =>
      intro w9ξ hkξ hzξ
      refine zp_load (pc := 2) hx hb (zd_X0_workOf (2, .iload_n 3, 1, 0, []) (List.mem_of_getElem? (i := 2) rfl)) rfl (j := 0) rfl ?_
      refine zp_load (pc := 3) hx hb (zd_X0_workOf (3, .aload_n 0, 1, 0, []) (List.mem_of_getElem? (i := 3) rfl)) rfl (j := 1) rfl ?_
      refine zp_getf (n := (A 1 : Int)) (pc := 4) hx hb hEξ hwξ (zd_X0_workOf (4, .getfield 25, 3, 0, []) (List.mem_of_getElem? (i := 4) rfl)) (j := 18) rfl rfl rfl (zM_P hMξ (hYbξ _ (List.mem_of_getElem? (i := 5) rfl))) ((zM_G hMξ (hYbξ _ (List.mem_of_getElem? (i := 5) rfl)) 1).trans h51ξ) ?_
      refine zp_getf (n := (n1ξ : Int)) (pc := 7) hx hb hEξ hwξ (zd_X0_workOf (7, .getfield 80, 3, 0, []) (List.mem_of_getElem? (i := 5) rfl)) (j := 5) rfl rfl rfl (zM_P hMξ (hYbξ _ (List.mem_of_getElem? (i := 1) rfl))) (((zM_G hMξ (hYbξ _ (List.mem_of_getElem? (i := 1) rfl)) 3).trans (hVξ 1 3 (by decide))).trans hn1ξ) ?_
      refine zp_icmp (pc := 10) (tgt := 75) hx hb (zd_X0_workOf (10, .if_icmp .ge 65, 3, 0, []) (List.mem_of_getElem? (i := 6) rfl)) rfl (fun (hc453ξ : (n1ξ : Int) ≤ (w9ξ : Int)) => ?_) (fun (hc453ξ : ¬ ((n1ξ : Int) ≤ (w9ξ : Int))) => ?_)
      · refine zp_const (pc := 75) hx hb (zd_X0_workOf (75, .iconst (-1), 1, 0, []) (List.mem_of_getElem? (i := 40) rfl)) rfl rfl ?_
        refine zp_iret (pc := 76) (n := (-1)) hx hb hEξ hQξ hU5ξ rfl (by decide) (zd_X0_workOf (76, .ireturn, 1, 0, []) (List.mem_of_getElem? (i := 41) rfl)) (j := 0) rfl (zp_o0 (by omega) (by omega) (by omega) (by omega)) ?_
        rw [hpsξ]
        refine ⟨rfl, rfl, ?_⟩
        exact (Eq.symm hzξ)
      · exfalso
        omega
    | succ k9ξ ih =>
      intro w9ξ hkξ hzξ
      refine zp_load (pc := 2) hx hb (zd_X0_workOf (2, .iload_n 3, 1, 0, []) (List.mem_of_getElem? (i := 2) rfl)) rfl (j := 0) rfl ?_
      refine zp_load (pc := 3) hx hb (zd_X0_workOf (3, .aload_n 0, 1, 0, []) (List.mem_of_getElem? (i := 3) rfl)) rfl (j := 1) rfl ?_
      refine zp_getf (n := (A 1 : Int)) (pc := 4) hx hb hEξ hwξ (zd_X0_workOf (4, .getfield 25, 3, 0, []) (List.mem_of_getElem? (i := 4) rfl)) (j := 18) rfl rfl rfl (zM_P hMξ (hYbξ _ (List.mem_of_getElem? (i := 5) rfl))) ((zM_G hMξ (hYbξ _ (List.mem_of_getElem? (i := 5) rfl)) 1).trans h51ξ) ?_
      refine zp_getf (n := (n1ξ : Int)) (pc := 7) hx hb hEξ hwξ (zd_X0_workOf (7, .getfield 80, 3, 0, []) (List.mem_of_getElem? (i := 5) rfl)) (j := 5) rfl rfl rfl (zM_P hMξ (hYbξ _ (List.mem_of_getElem? (i := 1) rfl))) (((zM_G hMξ (hYbξ _ (List.mem_of_getElem? (i := 1) rfl)) 3).trans (hVξ 1 3 (by decide))).trans hn1ξ) ?_
      refine zp_icmp (pc := 10) (tgt := 75) hx hb (zd_X0_workOf (10, .if_icmp .ge 65, 3, 0, []) (List.mem_of_getElem? (i := 6) rfl)) rfl (fun (hc454ξ : (n1ξ : Int) ≤ (w9ξ : Int)) => ?_) (fun (hc454ξ : ¬ ((n1ξ : Int) ≤ (w9ξ : Int))) => ?_)
      · exfalso
        omega
      · refine zp_load (pc := 13) hx hb (zd_X0_workOf (13, .iload_n 3, 1, 0, []) (List.mem_of_getElem? (i := 7) rfl)) rfl (j := 0) rfl ?_
        refine zp_const (pc := 14) hx hb (zd_X0_workOf (14, .bipush 10, 2, 0, []) (List.mem_of_getElem? (i := 8) rfl)) rfl rfl ?_
        refine zp_icmp (pc := 16) (tgt := 75) hx hb (zd_X0_workOf (16, .if_icmp .ge 59, 3, 0, []) (List.mem_of_getElem? (i := 9) rfl)) rfl (fun (hc455ξ : 10 ≤ (w9ξ : Int)) => ?_) (fun (hc455ξ : ¬ (10 ≤ (w9ξ : Int))) => ?_)
        · exfalso
          omega
        · refine zp_load (pc := 19) hx hb (zd_X0_workOf (19, .aload_n 0, 1, 0, []) (List.mem_of_getElem? (i := 10) rfl)) rfl (j := 1) rfl ?_
          refine zp_getf (n := (A 1 : Int)) (pc := 20) hx hb hEξ hwξ (zd_X0_workOf (20, .getfield 25, 3, 0, []) (List.mem_of_getElem? (i := 11) rfl)) (j := 18) rfl rfl rfl (zM_P hMξ (hYbξ _ (List.mem_of_getElem? (i := 5) rfl))) ((zM_G hMξ (hYbξ _ (List.mem_of_getElem? (i := 5) rfl)) 1).trans h51ξ) ?_
          refine zp_getf (n := (A 32 : Int)) (pc := 23) hx hb hEξ hwξ (zd_X0_workOf (23, .getfield 109, 3, 0, []) (List.mem_of_getElem? (i := 12) rfl)) (j := 6) rfl rfl rfl (zM_P hMξ (hYbξ _ (List.mem_of_getElem? (i := 1) rfl))) ((zM_G hMξ (hYbξ _ (List.mem_of_getElem? (i := 1) rfl)) 4).trans (zM_F hMξ (hFbξ _ (List.mem_of_getElem? (i := 15) rfl)))) ?_
          refine zp_load (pc := 26) hx hb (zd_X0_workOf (26, .iload_n 3, 1, 0, []) (List.mem_of_getElem? (i := 13) rfl)) rfl (j := 0) rfl ?_
          refine zp_iald (j := w9ξ) (v := (V 32 (2000 + w9ξ))) (pc := 27) hx hb hwξ (zd_X0_workOf (27, .iaload, 1, 0, []) (List.mem_of_getElem? (i := 14) rfl)) (show zp_ia 1 44 = some (10, 0, 0, (-2147483648), 2147483647) from rfl) (zM_P hMξ (hYbξ _ (List.mem_of_getElem? (i := 19) rfl))) (by omega) (by omega) ((zM_G hMξ (hYbξ _ (List.mem_of_getElem? (i := 19) rfl)) (2000 + w9ξ)).trans (hVξ 32 (2000 + w9ξ) (by decide))) (fun hk456ξ => ?_)
          have hk456bξ := zp_int hk456ξ
          clear hk456ξ
          refine zp_load (pc := 28) hx hb (zd_X0_workOf (28, .iload_n 1, 1, 0, []) (List.mem_of_getElem? (i := 15) rfl)) rfl (j := 2) rfl ?_
          refine zp_icmp (pc := 29) (tgt := 69) hx hb (zd_X0_workOf (29, .if_icmp .ne 40, 3, 0, []) (List.mem_of_getElem? (i := 16) rfl)) rfl (fun (hc457ξ : ¬ (V 32 (2000 + w9ξ)) = p1ξ) => ?_) (fun (hc457ξ : ¬ (¬ (V 32 (2000 + w9ξ)) = p1ξ)) => ?_)
          · refine zp_iinc (L' := [(3, 0, ((w9ξ : Int) + 1)), (0, 2, (A 5 : Int)), (1, 0, p1ξ), (2, 0, p2ξ)]) (n := ((w9ξ : Int) + 1)) (pc := 69) hx hb hnLξ (zd_X0_workOf (69, .iinc 3 1, 3, 0, []) (List.mem_of_getElem? (i := 38) rfl)) (j := 0) rfl (by omega) (zp_r0 (by omega) (by omega)) rfl rfl ?_
            refine zp_goto (tgt := 2) (pc := 72) hx hb (zd_X0_workOf (72, .goto (-70), 3, 0, []) (List.mem_of_getElem? (i := 39) rfl)) rfl ?_
            refine zp_drop (L' := [(3, 0, ((w9ξ : Int) + 1)), (0, 2, (A 5 : Int)), (1, 0, p1ξ), (2, 0, p2ξ)]) (by simp) ?_
            refine ih (w9ξ + 1) (by omega) ((Eq.trans hzξ) ?_)
            rw [zc_wo, if_neg]
            intro z9ξ
            obtain ⟨z1, z2, z3⟩ := z9ξ
            omega
          · refine zp_load (pc := 32) hx hb (zd_X0_workOf (32, .aload_n 0, 1, 0, []) (List.mem_of_getElem? (i := 17) rfl)) rfl (j := 1) rfl ?_
            refine zp_getf (n := (A 69 : Int)) (pc := 33) hx hb hEξ hwξ (zd_X0_workOf (33, .getfield 15, 3, 0, []) (List.mem_of_getElem? (i := 18) rfl)) (j := 21) rfl rfl rfl (zM_P hMξ (hYbξ _ (List.mem_of_getElem? (i := 5) rfl))) ((zM_G hMξ (hYbξ _ (List.mem_of_getElem? (i := 5) rfl)) 4).trans (zM_F hMξ (hFbξ _ (List.mem_of_getElem? (i := 45) rfl)))) ?_
            refine zp_load (pc := 36) hx hb (zd_X0_workOf (36, .iload_n 3, 1, 0, []) (List.mem_of_getElem? (i := 19) rfl)) rfl (j := 0) rfl ?_
            refine zp_iald (j := w9ξ) (v := (X.1 w9ξ)) (pc := 37) hx hb hwξ (zd_X0_workOf (37, .iaload, 1, 0, []) (List.mem_of_getElem? (i := 20) rfl)) (show zp_ia 1 15 = some (10, 0, 0, (-2147483648), 2147483647) from rfl) (zM_P hMξ (hYbξ _ (List.mem_of_getElem? (i := 47) rfl))) (by omega) (by omega) ((zM_G hMξ (hYbξ _ (List.mem_of_getElem? (i := 47) rfl)) (2000 + w9ξ)).trans (hXξ w9ξ (by omega)).1) (fun hk458ξ => ?_)
            have hk458bξ := zp_int hk458ξ
            clear hk458ξ
            refine zp_load (pc := 38) hx hb (zd_X0_workOf (38, .aload_n 0, 1, 0, []) (List.mem_of_getElem? (i := 21) rfl)) rfl (j := 1) rfl ?_
            refine zp_getf (n := (A 1 : Int)) (pc := 39) hx hb hEξ hwξ (zd_X0_workOf (39, .getfield 25, 3, 0, []) (List.mem_of_getElem? (i := 22) rfl)) (j := 18) rfl rfl rfl (zM_P hMξ (hYbξ _ (List.mem_of_getElem? (i := 5) rfl))) ((zM_G hMξ (hYbξ _ (List.mem_of_getElem? (i := 5) rfl)) 1).trans h51ξ) ?_
            refine zp_getf (n := (A 33 : Int)) (pc := 42) hx hb hEξ hwξ (zd_X0_workOf (42, .getfield 103, 3, 0, []) (List.mem_of_getElem? (i := 23) rfl)) (j := 7) rfl rfl rfl (zM_P hMξ (hYbξ _ (List.mem_of_getElem? (i := 1) rfl))) ((zM_G hMξ (hYbξ _ (List.mem_of_getElem? (i := 1) rfl)) 5).trans (zM_F hMξ (hFbξ _ (List.mem_of_getElem? (i := 16) rfl)))) ?_
            refine zp_load (pc := 45) hx hb (zd_X0_workOf (45, .iload_n 3, 1, 0, []) (List.mem_of_getElem? (i := 24) rfl)) rfl (j := 0) rfl ?_
            refine zp_iald (j := w9ξ) (v := (V 33 (2000 + w9ξ))) (pc := 46) hx hb hwξ (zd_X0_workOf (46, .iaload, 1, 0, []) (List.mem_of_getElem? (i := 25) rfl)) (show zp_ia 1 45 = some (10, 0, 0, (-2147483648), 2147483647) from rfl) (zM_P hMξ (hYbξ _ (List.mem_of_getElem? (i := 20) rfl))) (by omega) (by omega) ((zM_G hMξ (hYbξ _ (List.mem_of_getElem? (i := 20) rfl)) (2000 + w9ξ)).trans (hVξ 33 (2000 + w9ξ) (by decide))) (fun hk459ξ => ?_)
            have hk459bξ := zp_int hk459ξ
            clear hk459ξ
            refine zp_icmp (pc := 47) (tgt := 69) hx hb (zd_X0_workOf (47, .if_icmp .ge 22, 3, 0, []) (List.mem_of_getElem? (i := 26) rfl)) rfl (fun (hc460ξ : (V 33 (2000 + w9ξ)) ≤ (X.1 w9ξ)) => ?_) (fun (hc460ξ : ¬ ((V 33 (2000 + w9ξ)) ≤ (X.1 w9ξ))) => ?_)
            · refine zp_iinc (L' := [(3, 0, ((w9ξ : Int) + 1)), (0, 2, (A 5 : Int)), (1, 0, p1ξ), (2, 0, p2ξ)]) (n := ((w9ξ : Int) + 1)) (pc := 69) hx hb hnLξ (zd_X0_workOf (69, .iinc 3 1, 3, 0, []) (List.mem_of_getElem? (i := 38) rfl)) (j := 0) rfl (by omega) (zp_r0 (by omega) (by omega)) rfl rfl ?_
              refine zp_goto (tgt := 2) (pc := 72) hx hb (zd_X0_workOf (72, .goto (-70), 3, 0, []) (List.mem_of_getElem? (i := 39) rfl)) rfl ?_
              refine zp_drop (L' := [(3, 0, ((w9ξ : Int) + 1)), (0, 2, (A 5 : Int)), (1, 0, p1ξ), (2, 0, p2ξ)]) (by simp) ?_
              refine ih (w9ξ + 1) (by omega) ((Eq.trans hzξ) ?_)
              rw [zc_wo, if_neg]
              intro z9ξ
              obtain ⟨z1, z2, z3⟩ := z9ξ
              omega
            · refine zp_load (pc := 50) hx hb (zd_X0_workOf (50, .aload_n 0, 1, 0, []) (List.mem_of_getElem? (i := 27) rfl)) rfl (j := 1) rfl ?_
              refine zp_load (pc := 51) hx hb (zd_X0_workOf (51, .aload_n 0, 1, 0, []) (List.mem_of_getElem? (i := 28) rfl)) rfl (j := 1) rfl ?_
              refine zp_getf (n := (A 1 : Int)) (pc := 52) hx hb hEξ hwξ (zd_X0_workOf (52, .getfield 25, 3, 0, []) (List.mem_of_getElem? (i := 29) rfl)) (j := 18) rfl rfl rfl (zM_P hMξ (hYbξ _ (List.mem_of_getElem? (i := 5) rfl))) ((zM_G hMξ (hYbξ _ (List.mem_of_getElem? (i := 5) rfl)) 1).trans h51ξ) ?_
              refine zp_getf (n := (A 36 : Int)) (pc := 55) hx hb hEξ hwξ (zd_X0_workOf (55, .getfield 112, 3, 0, []) (List.mem_of_getElem? (i := 30) rfl)) (j := 10) rfl rfl rfl (zM_P hMξ (hYbξ _ (List.mem_of_getElem? (i := 1) rfl))) ((zM_G hMξ (hYbξ _ (List.mem_of_getElem? (i := 1) rfl)) 8).trans (zM_F hMξ (hFbξ _ (List.mem_of_getElem? (i := 19) rfl)))) ?_
              refine zp_load (pc := 58) hx hb (zd_X0_workOf (58, .iload_n 3, 1, 0, []) (List.mem_of_getElem? (i := 31) rfl)) rfl (j := 0) rfl ?_
              refine zp_iald (j := w9ξ) (v := (V 36 (2000 + w9ξ))) (pc := 59) hx hb hwξ (zd_X0_workOf (59, .iaload, 1, 0, []) (List.mem_of_getElem? (i := 32) rfl)) (show zp_ia 1 48 = some (10, 0, 0, (-2147483648), 2147483647) from rfl) (zM_P hMξ (hYbξ _ (List.mem_of_getElem? (i := 23) rfl))) (by omega) (by omega) ((zM_G hMξ (hYbξ _ (List.mem_of_getElem? (i := 23) rfl)) (2000 + w9ξ)).trans (hVξ 36 (2000 + w9ξ) (by decide))) (fun hk461ξ => ?_)
              have hk461bξ := zp_int hk461ξ
              clear hk461ξ
              refine zp_load (pc := 60) hx hb (zd_X0_workOf (60, .iload_n 2, 1, 0, []) (List.mem_of_getElem? (i := 33) rfl)) rfl (j := 3) rfl ?_
              refine zp_call (pc := 61) (how := 0) (idx := 115) (mi := 110) (S := []) hx hb hEξ hwξ heffξ hrmξ (zX_rdyd hWξ A Y F M V X) rfl (j := 6) rfl rfl (by decide +kernel) (zd_X0_workOf (61, .invokevirtual 115, 3, 0, []) (List.mem_of_getElem? (i := 34) rfl)) [(A 5 : Int), (V 36 (2000 + w9ξ)), p2ξ] rfl ⟨zp_o2 (zM_P hMξ (hYbξ _ (List.mem_of_getElem? (i := 5) rfl))), zp_o0 (by omega) (by omega) (by omega) (by omega), zp_o0 (by omega) (by omega) (by omega) (by omega), trivial⟩ (Nat.le_of_ble_eq_true rfl) ⟨hMξ, rfl, hYF0ξ, hVξ, h51ξ, hXξ⟩ (fun al halξ rny462ξ Py462 Gy462 hexty462ξ hfry462ξ hoky462ξ hcsy462ξ hpsiy462ξ => ?_)
              obtain rfl := List.mem_singleton.mp halξ
              have hry462ξ := zp_int (hoky462ξ _ rfl).1
              obtain ⟨hPey462ξ, hGey462ξ, hty462ξ⟩ := hpsiy462ξ
              rw [hPey462ξ, hGey462ξ]
              clear hexty462ξ hfry462ξ hcsy462ξ hPey462ξ hGey462ξ
              have hty462ξ : rny462ξ = 1 ↔ zc_ry V X (V 36 (2000 + w9ξ)) p2ξ := hty462ξ
              refine zp_if (pc := 64) (tgt := 69) hx hb (zd_X0_workOf (64, .ifCond .eq 5, 3, 0, []) (List.mem_of_getElem? (i := 35) rfl)) rfl (fun (hc463ξ : rny462ξ = 0) => ?_) (fun (hc463ξ : ¬ (rny462ξ = 0)) => ?_)
              · refine zp_iinc (L' := [(3, 0, ((w9ξ : Int) + 1)), (0, 2, (A 5 : Int)), (1, 0, p1ξ), (2, 0, p2ξ)]) (n := ((w9ξ : Int) + 1)) (pc := 69) hx hb hnLξ (zd_X0_workOf (69, .iinc 3 1, 3, 0, []) (List.mem_of_getElem? (i := 38) rfl)) (j := 0) rfl (by omega) (zp_r0 (by omega) (by omega)) rfl rfl ?_
                refine zp_goto (tgt := 2) (pc := 72) hx hb (zd_X0_workOf (72, .goto (-70), 3, 0, []) (List.mem_of_getElem? (i := 39) rfl)) rfl ?_
                refine zp_drop (L' := [(3, 0, ((w9ξ : Int) + 1)), (0, 2, (A 5 : Int)), (1, 0, p1ξ), (2, 0, p2ξ)]) (by simp) ?_
                refine ih (w9ξ + 1) (by omega) ((Eq.trans hzξ) ?_)
                rw [zc_wo, if_neg]
                intro z9ξ
                obtain ⟨z1, z2, z3⟩ := z9ξ
                have z4 := (Iff.mpr hty462ξ) z3
                omega
              · refine zp_load (pc := 67) hx hb (zd_X0_workOf (67, .iload_n 3, 1, 0, []) (List.mem_of_getElem? (i := 36) rfl)) rfl (j := 0) rfl ?_
                refine zp_iret (pc := 68) (n := (w9ξ : Int)) hx hb hEξ hQξ hU5ξ rfl (by decide) (zd_X0_workOf (68, .ireturn, 1, 0, []) (List.mem_of_getElem? (i := 37) rfl)) (j := 0) rfl (zp_o0 (by omega) (by omega) (by omega) (by omega)) ?_
                rw [hpsξ]
                refine ⟨rfl, rfl, ?_⟩
                refine Eq.trans ?_ (Eq.symm hzξ)
                rw [zc_wo, if_pos ⟨by omega, by omega, (Iff.mp hty462ξ) (by omega)⟩]
  refine zp_const (pc := 0) hx hb (zd_X0_workOf (0, .iconst 0, 1, 0, []) (List.mem_of_getElem? (i := 0) rfl)) rfl rfl ?_
  refine zp_store (L' := [(3, 0, 0), (0, 2, (A 5 : Int)), (1, 0, p1ξ), (2, 0, p2ξ)]) (pc := 1) hx hb hnLξ (zd_X0_workOf (1, .istore_n 3, 1, 0, []) (List.mem_of_getElem? (i := 1) rfl)) rfl rfl rfl ?_
  exact loop n1ξ 0 (by omega) rfl
noncomputable def zK_fil70 : zk_K := (zt_mn 107, prog_21_method_103_code, 4, (Option.none : Option Jvm.ClassFile.FieldType), 0, 0, [(2, 16, 0, 0), (0, 0, (-2147483648), 2147483647)], [(none, [])], [(16, 1001, 0)], (0, 0, 0, 0))
noncomputable def zφ_fil70 (A : Nat → Nat) (Y : List (Nat × Nat)) (F : List (Nat × Nat × Nat)) (M : Nat → Nat → Int) : (Nat → Option Nat) → (Nat → Nat → Int) → List Int → Prop := fun P G ps => zM A Y F M P G ∧ ps.getD 0 0 = (A 70 : Int) ∧ zMc Y F
noncomputable def zψ_fil70 (A : Nat → Nat) (Y : List (Nat × Nat)) (F : List (Nat × Nat × Nat)) (M : Nat → Nat → Int) : (Nat → Option Nat) → (Nat → Nat → Int) → List Int → (Nat → Option Nat) → (Nat → Nat → Int) → Int → Prop := fun P G ps P' G' rn => P' = P ∧ ∃ M' : Nat → Nat → Int, zM A Y F M' P' G' ∧ (∀ o k, o ≠ 70 → M' o k = M o k) ∧ ∀ j, j < 10 → M' 70 (2000 + j) = (ps.getD 1 0)
theorem zX_fil70 {l : Launch} {w : zk_W} (hWξ : zh_W w) (A : Nat → Nat) (Y : List (Nat × Nat)) (F : List (Nat × Nat × Nat)) (M : Nat → Nat → Int) : zk_metX l w zt_dv zt_TB zK_fil70 (zp_A (zφ_fil70 A Y F M)) (zp_B (zψ_fil70 A Y F M)) ∧ zk_cok w zt_TB zK_fil70 := by
  refine zp_methX (cn := "java/util/Arrays") (lk := []) (lc := []) rfl hWξ (pl := 1007) rfl (by decide +kernel) (fun p e R s m args below meth c Q u hx hb hEξ hQξ hU5ξ heffξ hnLξ hokξ hφ => ?_)
  have hwξ := hWξ.1
  obtain ⟨p0ξ, p1ξ, hpsξ, tk0, tk1⟩ := zp_ps2 hokξ
  have hrmξ : zk_Kr (zk_ev (zt_types, [], zt_dv, [], [], [], zK_fil70)) = zk_Kr zK_fil70 := rfl
  rw [hpsξ] at hφ ⊢
  have hφ : zM A Y F M u.1 (zp_n u.2.1) ∧ p0ξ = (A 70 : Int) ∧ zMc Y F := hφ
  obtain ⟨hMξ, rfl, hYFξ⟩ := hφ
  have hYF0ξ := hYFξ
  obtain ⟨hYbξ, hFbξ, hFxξ, -⟩ := hYFξ
  have hi1ξ := zp_int tk1
  show zp_J p l e R s m args below meth c Q w u [] 0 [(0, 2, (A 70 : Int)), (1, 0, p1ξ)] [] u.1 (zp_n u.2.1)
  have loop : ∀ (k9ξ i9ξ : Nat) (M' : Nat → Nat → Int) (G : Nat → Nat → Int), k9ξ + i9ξ = 10 → zM A Y F M' u.1 G → (∀ o k, o ≠ 70 → M' o k = M o k) → (∀ j, j < i9ξ → M' 70 (2000 + j) = p1ξ) → zp_J p l e R s m args below meth c Q w u [] 5 [(2, 0, (i9ξ : Int)), (3, 0, 10), (0, 2, (A 70 : Int)), (1, 0, p1ξ)] [] u.1 G := by
    intro k9ξ
    induction k9ξ with
    | zero =>
      intro i9ξ M' G hkξ hM' hoξ hjξ
      refine zp_load (pc := 5) hx hb (zd_J7_fill_53178 (5, .iload_n 2, 1, 0, []) (List.mem_of_getElem? (i := 5) rfl)) rfl (j := 0) rfl ?_
      refine zp_load (pc := 6) hx hb (zd_J7_fill_53178 (6, .iload_n 3, 1, 0, []) (List.mem_of_getElem? (i := 6) rfl)) rfl (j := 1) rfl ?_
      refine zp_icmp (pc := 7) (tgt := 20) hx hb (zd_J7_fill_53178 (7, .if_icmp .ge 13, 3, 0, []) (List.mem_of_getElem? (i := 7) rfl)) rfl (fun (hc464ξ : 10 ≤ (i9ξ : Int)) => ?_) (fun (hc464ξ : ¬ (10 ≤ (i9ξ : Int))) => ?_)
      · refine zp_vret (pc := 20) hx hb hEξ hQξ hU5ξ rfl (by decide) (zd_J7_fill_53178 (20, .return_, 1, 0, []) (List.mem_of_getElem? (i := 14) rfl)) (j := 0) rfl ?_
        rw [hpsξ]
        refine ⟨rfl, M', hM', ?_⟩
        exact ⟨hoξ, fun j h9ξ => hjξ j (by omega)⟩
      · exfalso
        omega
    | succ k9ξ ih =>
      intro i9ξ M' G hkξ hM' hoξ hjξ
      refine zp_load (pc := 5) hx hb (zd_J7_fill_53178 (5, .iload_n 2, 1, 0, []) (List.mem_of_getElem? (i := 5) rfl)) rfl (j := 0) rfl ?_
      refine zp_load (pc := 6) hx hb (zd_J7_fill_53178 (6, .iload_n 3, 1, 0, []) (List.mem_of_getElem? (i := 6) rfl)) rfl (j := 1) rfl ?_
      refine zp_icmp (pc := 7) (tgt := 20) hx hb (zd_J7_fill_53178 (7, .if_icmp .ge 13, 3, 0, []) (List.mem_of_getElem? (i := 7) rfl)) rfl (fun (hc465ξ : 10 ≤ (i9ξ : Int)) => ?_) (fun (hc465ξ : ¬ (10 ≤ (i9ξ : Int))) => ?_)
      · exfalso
        omega
      · refine zp_load (pc := 10) hx hb (zd_J7_fill_53178 (10, .aload_n 0, 1, 0, []) (List.mem_of_getElem? (i := 8) rfl)) rfl (j := 2) rfl ?_
        refine zp_load (pc := 11) hx hb (zd_J7_fill_53178 (11, .iload_n 2, 1, 0, []) (List.mem_of_getElem? (i := 9) rfl)) rfl (j := 0) rfl ?_
        refine zp_load (pc := 12) hx hb (zd_J7_fill_53178 (12, .iload_n 1, 1, 0, []) (List.mem_of_getElem? (i := 10) rfl)) rfl (j := 3) rfl ?_
        refine zp_iast (j := i9ξ) (pc := 13) hx hb hwξ heffξ (zd_J7_fill_53178 (13, .iastore, 1, 0, []) (List.mem_of_getElem? (i := 11) rfl)) (show zp_ia 1 16 = some (10, 0, 0, (-2147483648), 2147483647) from rfl) (zM_P hM' (hYbξ _ (List.mem_of_getElem? (i := 48) rfl))) (by omega) (by omega) (zp_o0 (by omega) (by omega) (by omega) (by omega)) rfl ?_
        refine zp_iinc (L' := [(2, 0, ((i9ξ : Int) + 1)), (3, 0, 10), (0, 2, (A 70 : Int)), (1, 0, p1ξ)]) (n := ((i9ξ : Int) + 1)) (pc := 14) hx hb hnLξ (zd_J7_fill_53178 (14, .iinc 2 1, 3, 0, []) (List.mem_of_getElem? (i := 12) rfl)) (j := 0) rfl (by omega) (zp_r0 (by omega) (by omega)) rfl rfl ?_
        refine zp_goto (tgt := 5) (pc := 17) hx hb (zd_J7_fill_53178 (17, .goto (-12), 3, 0, []) (List.mem_of_getElem? (i := 13) rfl)) rfl ?_
        refine zp_drop (L' := [(2, 0, ((i9ξ : Int) + 1)), (3, 0, 10), (0, 2, (A 70 : Int)), (1, 0, p1ξ)]) (by simp) ?_
        refine ih (i9ξ + 1) _ _ (by omega) (zM_setE hM' (hYbξ _ (List.mem_of_getElem? (i := 48) rfl))) (fun o k h9ξ => (zp_set_ne (Or.inl h9ξ)).trans (hoξ o k h9ξ)) (fun j h9ξ => ?_)
        by_cases e9ξ : j = i9ξ
        · rw [e9ξ]
          exact zp_set_self
        · exact (zp_set_ne (Or.inr (by omega))).trans (hjξ j (by omega))
  refine zp_const (pc := 0) hx hb (zd_J7_fill_53178 (0, .iconst 0, 1, 0, []) (List.mem_of_getElem? (i := 0) rfl)) rfl rfl ?_
  refine zp_store (L' := [(2, 0, 0), (0, 2, (A 70 : Int)), (1, 0, p1ξ)]) (pc := 1) hx hb hnLξ (zd_J7_fill_53178 (1, .istore_n 2, 1, 0, []) (List.mem_of_getElem? (i := 1) rfl)) rfl rfl rfl ?_
  refine zp_load (pc := 2) hx hb (zd_J7_fill_53178 (2, .aload_n 0, 1, 0, []) (List.mem_of_getElem? (i := 2) rfl)) rfl (j := 1) rfl ?_
  refine zu_alen (len := 10) (pc := 3) hx hb hwξ (zd_J7_fill_53178 (3, .arraylength, 1, 0, []) (List.mem_of_getElem? (i := 3) rfl)) (zM_P hMξ (hYbξ _ (List.mem_of_getElem? (i := 48) rfl))) ⟨_, rfl, by decide, rfl, rfl⟩ (by decide) ?_
  refine zp_store (L' := [(3, 0, 10), (2, 0, 0), (0, 2, (A 70 : Int)), (1, 0, p1ξ)]) (pc := 4) hx hb hnLξ (zd_J7_fill_53178 (4, .istore_n 3, 1, 0, []) (List.mem_of_getElem? (i := 4) rfl)) rfl rfl rfl ?_
  refine zp_drop (L' := [(2, 0, 0), (3, 0, 10), (0, 2, (A 70 : Int)), (1, 0, p1ξ)]) (by simp) ?_
  exact loop 10 0 M _ (by omega) hMξ (fun _ _ _ => rfl) (fun j h9ξ => absurd h9ξ (Nat.not_lt_zero j))
theorem zc_po {V : Nat → Nat → Int} {g b p : Nat} (h : p < 6) : V b (2000 + p) = zg_po (zRc V g b) 0 (p : Int) := by
  unfold zg_po
  rw [if_neg (by omega), Int.toNat_natCast]
  exact (zRc_o h).symm
theorem zc_pl9 {V : Nat → Nat → Int} {g b p : Nat} (h : p < 6) : V (b + 1) (2000 + p) = zg_po (zRc V g b) 2 (p : Int) := by
  unfold zg_po
  rw [if_neg (by omega), Int.toNat_natCast]
  exact (zRc_l h).symm
