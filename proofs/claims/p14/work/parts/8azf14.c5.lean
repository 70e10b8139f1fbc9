/-! part c5: the reference: the steps of the parser, exactly -/
theorem zy_dw_b {B : Nat → Int} {q : Nat} : ∀ k, (∀ i, i < k → 48 ≤ B (q + i) ∧ B (q + i) ≤ 57) → 0 ≤ zy_dw B q k ∧ zy_dw B q k ≤ 10000009
  | 0, _ => ⟨Int.le_refl 0, by show (0 : Int) ≤ 10000009; decide⟩
  | k + 1, h => by
    have ih := zy_dw_b (B := B) (q := q) k (fun i hi => h i (by omega))
    have hb := h k (by omega)
    show 0 ≤ (if 1000000 < zy_dw B q k then zy_dw B q k else zy_dw B q k * 10 + B (q + k) - 48) ∧ (if 1000000 < zy_dw B q k then zy_dw B q k else zy_dw B q k * 10 + B (q + k) - 48) ≤ 10000009
    split
    · omega
    · omega
theorem zy_wo_2 {B : Nat → Int} {ln p : Nat} (hp : p ≤ ln) (h : zy_so B ln p = 2) : 0 ≤ zy_wo B ln p ∧ zy_wo B ln p ≤ 10000009 := by
  have hf : zy_fr B ln p < ln := by
    have h1 := zy_to_le (B := B) hp
    have := h1.2.2 (by omega)
    omega
  have hs : ¬ (97 ≤ B (zy_fr B ln p) ∧ B (zy_fr B ln p) ≤ 122) := fun z => by
    have := (zDt_1 hf z).1
    omega
  have hd : 48 ≤ B (zy_fr B ln p) ∧ B (zy_fr B ln p) ≤ 57 := Decidable.of_not_not (fun z => by
    have := (zDt_3 hf hs z).1
    omega)
  have hz := zDt_2 hf hd
  rw [hz.2.2]
  refine zy_dw_b _ (fun i hi => ?_)
  have h2 : zy_fr B ln p + i < zy_r zy_dg B ln (zy_fr B ln p) := by
    rw [← hz.2.1]
    omega
  exact zDt_dg.mp (zy_r_all (Nat.le_add_right _ _) h2)
noncomputable def nl_ (n : Nat) : Prop := n ≤ 50
noncomputable def zDw (P : Nat → Option Nat) (ord : Bool) (a : Nat) (G : Nat → Nat → Int) : Prop := (G a 20 = if ord = true then 1 else 0) ∧ ∃ b31 b32 : Nat, (G a 31 = (b31 : Int) ∧ P b31 = some 72 ∧ ∀ k : Nat, k < 9 → G b31 (2000 + k) = ywd.getD k 0) ∧ G a 32 = (b32 : Int) ∧ P b32 = some 73 ∧ ∀ k : Nat, k < 7 → G b32 (2000 + k) = ywo.getD k 0
theorem zDw_fr {P : Nat → Option Nat} {ord : Bool} {a : Nat} {G G' : Nat → Nat → Int} {eff : List (Nat × Nat × Nat)} {ps : List Int} (h : zDw P ord a G) (hp : P a = some 92) (hfr : zp_fr eff ps P G G') (he : (zp_nfb eff 92 20 && (zp_nfb eff 92 31 && (zp_nfb eff 92 32 && (zp_ncb eff 72 && zp_ncb eff 73)))) = true) : zDw P ord a G' := by
  simp only [Bool.and_eq_true] at he
  obtain ⟨e1, e2, e3, e4, e5⟩ := he
  obtain ⟨h0, b31, b32, ⟨h1, h2, h3⟩, h4, h5, h6⟩ := h
  exact ⟨(zp_nf hfr hp e1).trans h0, b31, b32, ⟨(zp_nf hfr hp e2).trans h1, h2, fun k hk => (zp_nc hfr h2 e4 _).trans (h3 k hk)⟩, (zp_nf hfr hp e3).trans h4, h5, fun k hk => (zp_nc hfr h5 e5 _).trans (h6 k hk)⟩
theorem zDw_s {P : Nat → Option Nat} {ord : Bool} {a k : Nat} {v : Int} {G : Nat → Nat → Int} (h : zDw P ord a G) (hp : P a = some 92) (hk : k ≠ 20 ∧ k ≠ 31 ∧ k ≠ 32) : zDw P ord a (zp_set G a k v) := by
  obtain ⟨h0, b31, b32, ⟨h1, h2, h3⟩, h4, h5, h6⟩ := h
  have n1 : b31 ≠ a := zp_pne h2 hp (by decide)
  have n2 : b32 ≠ a := zp_pne h5 hp (by decide)
  exact ⟨(zp_set_ne (Or.inr (fun z => hk.1 z.symm))).trans h0, b31, b32, ⟨(zp_set_ne (Or.inr (fun z => hk.2.1 z.symm))).trans h1, h2, fun j hj => (zp_set_ne (Or.inl n1)).trans (h3 j hj)⟩, (zp_set_ne (Or.inr (fun z => hk.2.2 z.symm))).trans h4, h5, fun j hj => (zp_set_ne (Or.inl n2)).trans (h6 j hj)⟩
theorem zDw_20 {P : Nat → Option Nat} {ord : Bool} {a : Nat} {G : Nat → Nat → Int} (h : zDw P ord a G) : (G a 20 = 1 ∧ ord = true) ∨ (G a 20 = 0 ∧ ord = false) := by
  have h0 := h.1
  cases ord with
  | true => exact Or.inl ⟨h0, rfl⟩
  | false => exact Or.inr ⟨h0, rfl⟩
theorem zDw_31 {P : Nat → Option Nat} {ord : Bool} {a : Nat} {G : Nat → Nat → Int} (h : zDw P ord a G) : ∀ k : Nat, k < 9 → zv G a 31 k = ywd.getD k 0 := by
  obtain ⟨h0, b31, b32, ⟨h1, h2, h3⟩, h4, h5, h6⟩ := h
  exact fun k hk => (zv_eq h1 k).trans (h3 k hk)
theorem zDw_32 {P : Nat → Option Nat} {ord : Bool} {a : Nat} {G : Nat → Nat → Int} (h : zDw P ord a G) : ∀ k : Nat, k < 7 → zv G a 32 k = ywo.getD k 0 := by
  obtain ⟨h0, b31, b32, ⟨h1, h2, h3⟩, h4, h5, h6⟩ := h
  exact fun k hk => (zv_eq h4 k).trans (h6 k hk)
theorem zDI_lt {B : Nat → Int} {ln : Nat} {t p n od : Nat} {pi : List (Int × Int)} {cd : yC} (h : zDI B ln (t, p, n, od, pi, cd)) (hl : ln ≤ 400) (hs : zy_so B ln p ≠ 0) : pi.length < 400 ∧ cd.2.2 < 400 ∧ zDj 400 pi cd ∧ nl_ n := by
  have h1 : zDj (zy_fr B ln p) pi cd := h.1
  have h6 : p ≤ ln := h.2.2.2.2.2
  have h2 := zy_to_le (B := B) h6
  have h3 := h2.2.2 hs
  have h4 := h1.1
  have h5 := h1.2.1
  exact ⟨by omega, by omega, zDj_le h1 (by omega), h.2.2.2.2.1⟩
theorem ym_jo_eq {so : Nat → Nat} {wo : Nat → Int} {p : Nat} : ym_jo so wo p = if so p = 3 then (if wo p = 43 then 20 else if wo p = 45 then 21 else if wo p = 42 then 22 else if wo p = 47 then 23 else if wo p = 37 then 24 else -1) else -1 := by
  unfold ym_jo yr_ad yr_mu
  by_cases h3 : so p = 3
  · have e : ∀ c, (yr_s so wo c p = true) = (wo p = c) := fun c => propext ⟨fun z => (yr_s_i.mp z).2, fun z => yr_s_i.mpr ⟨h3, z⟩⟩
    rw [if_pos h3]
    simp only [e]
    repeat' split
    all_goals first | rfl | omega
  · have e : ∀ c, ¬ (yr_s so wo c p = true) := fun c z => h3 (yr_s_i.mp z).1
    rw [if_neg h3, if_neg (e 43), if_neg (e 45), if_neg (fun z => z rfl), if_neg (e 42), if_neg (e 47), if_neg (e 37)]
theorem yr_cm_eq {so : Nat → Nat} {wo : Nat → Int} {p : Nat} : yr_cm so wo p = if so p = 3 then (if wo p = 60 then 25 else if wo p = 62 then 26 else if wo p = 61 then 27 else -1) else -1 := by
  unfold yr_cm
  by_cases h3 : so p = 3
  · have e : ∀ c, (yr_s so wo c p = true) = (wo p = c) := fun c => propext ⟨fun z => (yr_s_i.mp z).2, fun z => yr_s_i.mpr ⟨h3, z⟩⟩
    rw [if_pos h3]
    simp only [e]
  · have e : ∀ c, ¬ (yr_s so wo c p = true) := fun c z => h3 (yr_s_i.mp z).1
    rw [if_neg h3, if_neg (e 60), if_neg (e 62), if_neg (e 61)]
theorem yu_yu {g : Nat → Int} {i : Nat} {v w : Int} : yu (yu g i v) i w = yu g i w := by
  funext j
  unfold yu
  by_cases h : j = i
  · rw [if_pos h, if_pos h]
  · rw [if_neg h, if_neg h, if_neg h]
noncomputable def zφD_rp (ord : Bool) (B : Nat → Int) (ln tk nl od : Nat) (pi : List (Int × Int)) (cd : yC) : (Nat → Option Nat) → (Nat → Nat → Int) → List Int → Prop := fun P G ps => zD (zp_0 ps) G 0 B ln tk nl od pi cd ∧ (∃ t, zDI B ln (t, tk, nl, od, pi, cd)) ∧ zDw P ord (zp_0 ps) G
noncomputable def zψD_rp (ord : Bool) (B : Nat → Int) (ln tk nl od : Nat) (pi : List (Int × Int)) (cd : yC) : (Nat → Option Nat) → (Nat → Nat → Int) → List Int → (Nat → Option Nat) → (Nat → Nat → Int) → Int → Prop := fun P G ps P' G' rn => P' = P ∧ zDr (zp_0 ps) G' B ln rn (ym_rp (zy_so B ln) (zy_wo B ln) (zy_to B ln) (ylf ord B ln) tk nl od pi cd)
set_option maxHeartbeats 8000000 in
theorem zY_rp {l : Launch} {w : zk_W} (hW : zh_W w) (ord : Bool) (B : Nat → Int) (ln tk nl od : Nat) (pi : List (Int × Int)) (cd : yC) : zk_metX l w zt_dv zt_TB zK_rp (zp_A (zφD_rp ord B ln tk nl od pi cd)) (zp_B (zψD_rp ord B ln tk nl od pi cd)) ∧ zk_cok w zt_TB zK_rp := by
  refine zp_meth hW (pl := 1733) rfl (by decide +kernel) (fun p e R s m args below meth c Q u hx hb hE hQ hU5 heff hnL hok hφ => ?_)
  have hw := hW.1
  obtain ⟨p0, hps, k0⟩ := zp_ps1 hok
  obtain ⟨a, rfl, hp⟩ := zp_this k0
  have hrm : zk_Kr (zk_ev (zp_E zK_rp)) = zk_Kr zK_rp := rfl
  rw [hps] at hφ ⊢
  have hφ : zD a (zp_n u.2.1) 0 B ln tk nl od pi cd ∧ (∃ t, zDI B ln (t, tk, nl, od, pi, cd)) ∧ zDw u.1 ord a (zp_n u.2.1) := hφ
  obtain ⟨hD, ⟨t9, hI⟩, hw0⟩ := hφ
  have hD2 := hD
  obtain ⟨⟨d13, dl, dt, d12, dB⟩, ⟨d14, d15, d16, d17⟩, ⟨d19, d18⟩, ⟨d23, d24, d25⟩, d26, ⟨d29, dp⟩, d30⟩ := hD2
  have hlt := fun z => zDI_lt hI dl z
  have hnn : nl ≤ 50 := hI.2.2.2.2.1
  show zp_J p l e R s m args below meth c Q w u [] 0 [(0, 2, (a : Int))] [] u.1 (zp_n u.2.1)
  obtain ⟨so, hso⟩ : ∃ x : Nat, x = zy_so B ln tk := ⟨_, rfl⟩
  rw [← hso] at d16
  obtain ⟨wv, hwv⟩ : ∃ x : Int, x = zy_wo B ln tk := ⟨_, rfl⟩
  rw [← hwv] at d17
  refine zp_kn (k := 12) (a := a) hw (show zp_fd 92 12 = some (12, 2, 66, 0, 0) from rfl) rfl hp (fun hk12 => ?_)
  obtain ⟨b12, hb12, hq12⟩ := zp_this hk12
  refine zp_kn (k := 24) (a := a) hw (show zp_fd 92 24 = some (12, 2, 68, 0, 0) from rfl) rfl hp (fun hk24 => ?_)
  obtain ⟨b24, hb24, hq24⟩ := zp_this hk24
  refine zp_kn (k := 25) (a := a) hw (show zp_fd 92 25 = some (12, 2, 69, 0, 0) from rfl) rfl hp (fun hk25 => ?_)
  obtain ⟨b25, hb25, hq25⟩ := zp_this hk25
  refine zp_kn (k := 27) (a := a) hw (show zp_fd 92 27 = some (12, 2, 70, 0, 0) from rfl) rfl hp (fun hk27 => ?_)
  obtain ⟨b27, hb27, hq27⟩ := zp_this hk27
  refine zp_kn (k := 28) (a := a) hw (show zp_fd 92 28 = some (12, 2, 71, 0, 0) from rfl) rfl hp (fun hk28 => ?_)
  obtain ⟨b28, hb28, hq28⟩ := zp_this hk28
  refine zp_kn (k := 17) (a := a) hw (show zp_fd 92 17 = some (12, 1, 0, (-9223372036854775808), 9223372036854775807) from rfl) rfl hp (fun hk17 => ?_)
  have hylw := ylw_r ord B ln tk
  have hw20 := zDw_20 hw0
  have c91 : ¬ (so = 3 ∧ wv = 91) → ¬ yr_s (zy_so B ln) (zy_wo B ln) 91 tk = true := fun z y => z (by have := yr_s_i.mp y; omega)
  have hyl3 : ylw ord B ln tk = -1 ∨ (1 ≤ ylw ord B ln tk ∧ ylw ord B ln tk ≤ 9 ∧ zy_so B ln tk = 1) := by
    rcases hylw with h | h
    · exact Or.inl h
    · exact Or.inr ⟨h.1, h.2.1, h.2.2.1⟩
  clear hylw
  have h102 : ∀ (its dg : Int) (G : Nat → Nat → Int), ¬ (so = 3 ∧ wv = 91) → its = ylw ord B ln tk → (dg = 1 ↔ so = 2 ∧ wv ≤ 1000) → zDw u.1 ord a G → ((zD a G 1 B ln tk nl od pi cd ∧ G a 18 = (zy_fr B ln tk : Int) ∧ (50 ≤ nl ∨ (its = -1 ∧ ¬ dg = 1))) ∨ (zD a G 0 B ln (zy_to B ln tk) (nl + 1) od pi (yu cd.1 cd.2.2 (if its = -1 then 0 else its), yu cd.2.1 cd.2.2 (if dg = 1 then wv else 0), cd.2.2 + 1) ∧ nl < 50 ∧ (¬ its = -1 ∨ dg = 1))) → zp_J p l e R s m args below meth c Q w u [] 102 [(2, 0, dg), (1, 0, its), (0, 2, (a : Int))] [] u.1 G := by
    intro its dg G h0 hits hdg hwG hcs
    have hwG20 := zDw_20 hwG
    rcases hcs with ⟨hb1, hb2, hb3⟩ | ⟨hg1, hg2, hg3⟩
    · have hb12 := hb1
      obtain ⟨⟨b13, bl, bt, b12, bB⟩, ⟨b14, b15, b16, b17⟩, ⟨b19, b18⟩, ⟨b23, b24, b25⟩, b26, ⟨b29, bp⟩, b30⟩ := hb12
      refine zp_load (pc := 102) hx hb (zd_X12_readPart (102, .aload_n 0, 1, 0, []) (List.mem_of_getElem? (i := 54) rfl)) rfl (j := 2) rfl ?_
      refine zp_getf (n := (G a 20)) (pc := 103) hx hb hE hw (zd_X12_readPart (103, .getfield 319, 3, 0, []) (List.mem_of_getElem? (i := 55) rfl)) (j := 38) rfl rfl rfl hp rfl ?_
      refine zp_if (pc := 106) (tgt := 155) hx hb (zd_X12_readPart (106, .ifCond .eq 49, 3, 0, []) (List.mem_of_getElem? (i := 56) rfl)) rfl (fun (hcq21 : (G a 20) = 0) => ?_) (fun (hcq21 : ¬ ((G a 20) = 0)) => ?_)
      · refine zp_const (pc := 155) hx hb (zd_X12_readPart (155, .iconst 3, 1, 0, []) (List.mem_of_getElem? (i := 81) rfl)) rfl rfl ?_
        refine zp_iret (pc := 156) (n := 3) hx hb hE hQ hU5 rfl (by decide) (zd_X12_readPart (156, .ireturn, 1, 0, []) (List.mem_of_getElem? (i := 82) rfl)) (j := 0) rfl (zp_o0 (by omega) (by omega) (by omega) (by omega)) ?_
        rw [hps]
        refine ⟨rfl, ?_⟩
        show zDr a G B ln 3 (ym_rp (zy_so B ln) (zy_wo B ln) (zy_to B ln) (ylf ord B ln) tk nl od pi cd)
        have hr : ym_rp (zy_so B ln) (zy_wo B ln) (zy_to B ln) (ylf ord B ln) tk nl od pi cd = Sum.inl tk := by
          unfold ym_rp
          rw [if_neg (c91 h0)]
          by_cases h50 : 50 ≤ nl
          · rw [if_pos h50]
          · rw [if_neg h50]
            have hlf : ylf ord B ln tk = Sum.inl tk := by
              unfold ylf
              rw [if_pos (by omega), if_neg (by rw [← hso, ← hwv]; omega)]
            rw [hlf] <;> rfl
        rw [hr]
        exact ⟨⟨_, _, _, _, _, hb1, zDj_le (F := zy_fr B ln tk) hI.1 (by have := zy_fr_le (B := B) dt; omega)⟩, hb2⟩
      · refine zp_load (pc := 109) hx hb (zd_X12_readPart (109, .iload_n 1, 1, 0, []) (List.mem_of_getElem? (i := 57) rfl)) rfl (j := 1) rfl ?_
        refine zp_const (pc := 110) hx hb (zd_X12_readPart (110, .bipush 6, 2, 0, []) (List.mem_of_getElem? (i := 58) rfl)) rfl rfl ?_
        refine zp_icmp (pc := 112) (tgt := 155) hx hb (zd_X12_readPart (112, .if_icmp .lt 43, 3, 0, []) (List.mem_of_getElem? (i := 59) rfl)) rfl (fun (hcq22 : its < 6) => ?_) (fun (hcq22 : ¬ (its < 6)) => ?_)
        · refine zp_const (pc := 155) hx hb (zd_X12_readPart (155, .iconst 3, 1, 0, []) (List.mem_of_getElem? (i := 81) rfl)) rfl rfl ?_
          refine zp_iret (pc := 156) (n := 3) hx hb hE hQ hU5 rfl (by decide) (zd_X12_readPart (156, .ireturn, 1, 0, []) (List.mem_of_getElem? (i := 82) rfl)) (j := 0) rfl (zp_o0 (by omega) (by omega) (by omega) (by omega)) ?_
          rw [hps]
          refine ⟨rfl, ?_⟩
          show zDr a G B ln 3 (ym_rp (zy_so B ln) (zy_wo B ln) (zy_to B ln) (ylf ord B ln) tk nl od pi cd)
          have hr : ym_rp (zy_so B ln) (zy_wo B ln) (zy_to B ln) (ylf ord B ln) tk nl od pi cd = Sum.inl tk := by
            unfold ym_rp
            rw [if_neg (c91 h0)]
            by_cases h50 : 50 ≤ nl
            · rw [if_pos h50]
            · rw [if_neg h50]
              have hlf : ylf ord B ln tk = Sum.inl tk := by
                unfold ylf
                rw [if_pos (by omega), if_neg (by rw [← hso, ← hwv]; omega)]
              rw [hlf] <;> rfl
          rw [hr]
          exact ⟨⟨_, _, _, _, _, hb1, zDj_le (F := zy_fr B ln tk) hI.1 (by have := zy_fr_le (B := B) dt; omega)⟩, hb2⟩
        · refine zp_load (pc := 115) hx hb (zd_X12_readPart (115, .aload_n 0, 1, 0, []) (List.mem_of_getElem? (i := 60) rfl)) rfl (j := 2) rfl ?_
          refine zp_getf (n := 1) (pc := 116) hx hb hE hw (zd_X12_readPart (116, .getfield 240, 3, 0, []) (List.mem_of_getElem? (i := 61) rfl)) (j := 37) rfl rfl rfl hp b19 ?_
          refine zp_if (pc := 119) (tgt := 155) hx hb (zd_X12_readPart (119, .ifCond .ne 36, 3, 0, []) (List.mem_of_getElem? (i := 62) rfl)) rfl (fun (hcq23 : ¬ 1 = 0) => ?_) (fun (hcq23 : ¬ (¬ 1 = 0)) => ?_)
          · refine zp_const (pc := 155) hx hb (zd_X12_readPart (155, .iconst 3, 1, 0, []) (List.mem_of_getElem? (i := 81) rfl)) rfl rfl ?_
            refine zp_iret (pc := 156) (n := 3) hx hb hE hQ hU5 rfl (by decide) (zd_X12_readPart (156, .ireturn, 1, 0, []) (List.mem_of_getElem? (i := 82) rfl)) (j := 0) rfl (zp_o0 (by omega) (by omega) (by omega) (by omega)) ?_
            rw [hps]
            refine ⟨rfl, ?_⟩
            show zDr a G B ln 3 (ym_rp (zy_so B ln) (zy_wo B ln) (zy_to B ln) (ylf ord B ln) tk nl od pi cd)
            have hr : ym_rp (zy_so B ln) (zy_wo B ln) (zy_to B ln) (ylf ord B ln) tk nl od pi cd = Sum.inl tk := by
              unfold ym_rp
              rw [if_neg (c91 h0)]
              by_cases h50 : 50 ≤ nl
              · rw [if_pos h50]
              · rw [if_neg h50]
                have hlf : ylf ord B ln tk = Sum.inl tk := by
                  unfold ylf
                  rw [if_pos (by omega), if_neg (by rw [← hso, ← hwv]; omega)]
                rw [hlf] <;> rfl
            rw [hr]
            exact ⟨⟨_, _, _, _, _, hb1, zDj_le (F := zy_fr B ln tk) hI.1 (by have := zy_fr_le (B := B) dt; omega)⟩, hb2⟩
          · exfalso
            omega
    · have hg12 := hg1
      obtain ⟨⟨g13, gl, gt, g12, gB⟩, ⟨g14, g15, g16, g17⟩, ⟨g19, g18⟩, ⟨g23, g24, g25⟩, g26, ⟨g29, gp⟩, g30⟩ := hg12
      obtain ⟨nc, hnc⟩ : ∃ x : Nat, x = cd.2.2 := ⟨_, rfl⟩
      have g23 : G a 23 = (nc : Int) + 1 := g23.trans (by show ((cd.2.2 + 1 : Nat) : Int) = _; omega)
      have hsn : zy_so B ln tk ≠ 0 := by rw [← hso]; omega
      have hl4 := hlt hsn
      refine zp_kn (k := 25) (a := a) (G := G) hw (show zp_fd 92 25 = some (12, 2, 69, 0, 0) from rfl) rfl hp (fun hk25x => ?_)
      obtain ⟨c25, hc25, hr25⟩ := zp_this hk25x
      refine zp_kn (k := 12) (a := a) (G := G) hw (show zp_fd 92 12 = some (12, 2, 66, 0, 0) from rfl) rfl hp (fun hk12x => ?_)
      obtain ⟨c12, hc12, hr12⟩ := zp_this hk12x
      refine zp_kn (k := 24) (a := a) (G := G) hw (show zp_fd 92 24 = some (12, 2, 68, 0, 0) from rfl) rfl hp (fun hk24x => ?_)
      obtain ⟨c24, hc24, hr24⟩ := zp_this hk24x
      refine zp_kn (k := 27) (a := a) (G := G) hw (show zp_fd 92 27 = some (12, 2, 70, 0, 0) from rfl) rfl hp (fun hk27x => ?_)
      obtain ⟨c27, hc27, hr27⟩ := zp_this hk27x
      refine zp_kn (k := 28) (a := a) (G := G) hw (show zp_fd 92 28 = some (12, 2, 71, 0, 0) from rfl) rfl hp (fun hk28x => ?_)
      obtain ⟨c28, hc28, hr28⟩ := zp_this hk28x
      refine zp_load (pc := 102) hx hb (zd_X12_readPart (102, .aload_n 0, 1, 0, []) (List.mem_of_getElem? (i := 54) rfl)) rfl (j := 2) rfl ?_
      refine zp_getf (n := (G a 20)) (pc := 103) hx hb hE hw (zd_X12_readPart (103, .getfield 319, 3, 0, []) (List.mem_of_getElem? (i := 55) rfl)) (j := 38) rfl rfl rfl hp rfl ?_
      refine zp_if (pc := 106) (tgt := 155) hx hb (zd_X12_readPart (106, .ifCond .eq 49, 3, 0, []) (List.mem_of_getElem? (i := 56) rfl)) rfl (fun (hcq24 : (G a 20) = 0) => ?_) (fun (hcq24 : ¬ ((G a 20) = 0)) => ?_)
      · refine zp_const (pc := 155) hx hb (zd_X12_readPart (155, .iconst 3, 1, 0, []) (List.mem_of_getElem? (i := 81) rfl)) rfl rfl ?_
        refine zp_iret (pc := 156) (n := 3) hx hb hE hQ hU5 rfl (by decide) (zd_X12_readPart (156, .ireturn, 1, 0, []) (List.mem_of_getElem? (i := 82) rfl)) (j := 0) rfl (zp_o0 (by omega) (by omega) (by omega) (by omega)) ?_
        rw [hps]
        refine ⟨rfl, ?_⟩
        show zDr a G B ln 3 (ym_rp (zy_so B ln) (zy_wo B ln) (zy_to B ln) (ylf ord B ln) tk nl od pi cd)
        unfold ym_rp
        rw [if_neg (c91 h0), if_neg (by omega)]
        have hlf : ylf ord B ln tk = Sum.inr (zy_to B ln tk, (if its = -1 then 0 else its), (if dg = 1 then wv else 0)) := by
          unfold ylf
          by_cases hi1 : its = -1
          · rw [if_pos (by omega), if_pos (by rw [← hso, ← hwv]; omega), if_pos hi1, if_pos (by omega), hwv]
          · have hdn : ¬ dg = 1 := by omega
            rw [if_neg (by omega), if_neg (fun z => ?_), if_neg hi1, if_neg hdn, hits]
            obtain ⟨z1, z2⟩ := z
            rcases hwG20 with ⟨y1, y2⟩ | ⟨y1, y2⟩
            · omega
            · rw [y2] at z1
              cases z1
        rw [hlf]
        exact ⟨rfl, hg1⟩
      · refine zp_load (pc := 109) hx hb (zd_X12_readPart (109, .iload_n 1, 1, 0, []) (List.mem_of_getElem? (i := 57) rfl)) rfl (j := 1) rfl ?_
        refine zp_const (pc := 110) hx hb (zd_X12_readPart (110, .bipush 6, 2, 0, []) (List.mem_of_getElem? (i := 58) rfl)) rfl rfl ?_
        refine zp_icmp (pc := 112) (tgt := 155) hx hb (zd_X12_readPart (112, .if_icmp .lt 43, 3, 0, []) (List.mem_of_getElem? (i := 59) rfl)) rfl (fun (hcq25 : its < 6) => ?_) (fun (hcq25 : ¬ (its < 6)) => ?_)
        · refine zp_const (pc := 155) hx hb (zd_X12_readPart (155, .iconst 3, 1, 0, []) (List.mem_of_getElem? (i := 81) rfl)) rfl rfl ?_
          refine zp_iret (pc := 156) (n := 3) hx hb hE hQ hU5 rfl (by decide) (zd_X12_readPart (156, .ireturn, 1, 0, []) (List.mem_of_getElem? (i := 82) rfl)) (j := 0) rfl (zp_o0 (by omega) (by omega) (by omega) (by omega)) ?_
          rw [hps]
          refine ⟨rfl, ?_⟩
          show zDr a G B ln 3 (ym_rp (zy_so B ln) (zy_wo B ln) (zy_to B ln) (ylf ord B ln) tk nl od pi cd)
          unfold ym_rp
          rw [if_neg (c91 h0), if_neg (by omega)]
          have hlf : ylf ord B ln tk = Sum.inr (zy_to B ln tk, (if its = -1 then 0 else its), (if dg = 1 then wv else 0)) := by
            unfold ylf
            by_cases hi1 : its = -1
            · rw [if_pos (by omega), if_pos (by rw [← hso, ← hwv]; omega), if_pos hi1, if_pos (by omega), hwv]
            · have hdn : ¬ dg = 1 := by omega
              rw [if_neg (by omega), if_neg (fun z => ?_), if_neg hi1, if_neg hdn, hits]
              obtain ⟨z1, z2⟩ := z
              rcases hwG20 with ⟨y1, y2⟩ | ⟨y1, y2⟩
              · omega
              · rw [y2] at z1
                cases z1
          rw [hlf]
          exact ⟨rfl, hg1⟩
        · refine zp_load (pc := 115) hx hb (zd_X12_readPart (115, .aload_n 0, 1, 0, []) (List.mem_of_getElem? (i := 60) rfl)) rfl (j := 2) rfl ?_
          refine zp_getf (n := 0) (pc := 116) hx hb hE hw (zd_X12_readPart (116, .getfield 240, 3, 0, []) (List.mem_of_getElem? (i := 61) rfl)) (j := 37) rfl rfl rfl hp g19 ?_
          refine zp_if (pc := 119) (tgt := 155) hx hb (zd_X12_readPart (119, .ifCond .ne 36, 3, 0, []) (List.mem_of_getElem? (i := 62) rfl)) rfl (fun (hcq26 : ¬ 0 = 0) => ?_) (fun (hcq26 : ¬ (¬ 0 = 0)) => ?_)
          · exfalso
            omega
          · refine zp_load (pc := 122) hx hb (zd_X12_readPart (122, .aload_n 0, 1, 0, []) (List.mem_of_getElem? (i := 63) rfl)) rfl (j := 2) rfl ?_
            refine zp_getf (n := ((nc : Int) + 1)) (pc := 123) hx hb hE hw (zd_X12_readPart (123, .getfield 279, 3, 0, []) (List.mem_of_getElem? (i := 64) rfl)) (j := 41) rfl rfl rfl hp g23 ?_
            refine zp_const (pc := 126) hx hb (zd_X12_readPart (126, .iconst 1, 1, 0, []) (List.mem_of_getElem? (i := 65) rfl)) rfl rfl ?_
            refine zp_sub (n := (nc : Int)) (pc := 127) hx hb (zd_X12_readPart (127, .isub, 1, 0, []) (List.mem_of_getElem? (i := 66) rfl)) (by omega) (zp_r0 (by omega) (by omega)) ?_
            refine zp_store (L' := [(3, 0, (nc : Int)), (2, 0, dg), (1, 0, its), (0, 2, (a : Int))]) (pc := 128) hx hb hnL (zd_X12_readPart (128, .istore_n 3, 1, 0, []) (List.mem_of_getElem? (i := 67) rfl)) rfl rfl rfl ?_
            refine zp_load (pc := 129) hx hb (zd_X12_readPart (129, .aload_n 0, 1, 0, []) (List.mem_of_getElem? (i := 68) rfl)) rfl (j := 3) rfl ?_
            refine zp_getf (n := (c25 : Int)) (pc := 130) hx hb hE hw (zd_X12_readPart (130, .getfield 48, 3, 0, []) (List.mem_of_getElem? (i := 69) rfl)) (j := 43) rfl rfl rfl hp hc25 ?_
            refine zp_load (pc := 133) hx hb (zd_X12_readPart (133, .iload_n 3, 1, 0, []) (List.mem_of_getElem? (i := 70) rfl)) rfl (j := 0) rfl ?_
            refine zp_load (pc := 134) hx hb (zd_X12_readPart (134, .aload_n 0, 1, 0, []) (List.mem_of_getElem? (i := 71) rfl)) rfl (j := 3) rfl ?_
            refine zp_const (pc := 135) hx hb (zd_X12_readPart (135, .lconst 0, 1, 0, []) (List.mem_of_getElem? (i := 72) rfl)) rfl rfl ?_
            refine zp_load (pc := 136) hx hb (zd_X12_readPart (136, .iload_n 1, 1, 0, []) (List.mem_of_getElem? (i := 73) rfl)) rfl (j := 2) rfl ?_
            refine zp_const (pc := 137) hx hb (zd_X12_readPart (137, .bipush 6, 2, 0, []) (List.mem_of_getElem? (i := 74) rfl)) rfl rfl ?_
            refine zp_icmp (pc := 139) (tgt := 148) hx hb (zd_X12_readPart (139, .if_icmp .ne 9, 3, 0, []) (List.mem_of_getElem? (i := 75) rfl)) rfl (fun (hcq27 : ¬ its = 6) => ?_) (fun (hcq27 : ¬ (¬ its = 6)) => ?_)
            · refine zp_ldc2 (pc := 148) hx hb hE (zd_X12_readPart (148, .ldc2_w 199, 3, 0, []) (List.mem_of_getElem? (i := 78) rfl)) (j := 84) rfl ?_
              have hot : ord = true := by
                rcases hwG20 with ⟨y1, y2⟩ | ⟨y1, y2⟩
                · exact y2
                · exfalso; omega
              refine zp_call (pc := 151) (how := 0) (idx := 335) (mi := 228) (S := [(0, (nc : Int)), (2, (c25 : Int))]) hx hb hE hw heff hrm (zY_nu hW B ln (zy_to B ln tk) (nl + 1) od pi (yu cd.1 cd.2.2 (if its = -1 then 0 else its), yu cd.2.1 cd.2.2 (if dg = 1 then wv else 0), cd.2.2 + 1)) rfl (j := 30) rfl rfl (by decide +kernel) (zd_X12_readPart (151, .invokevirtual 335, 3, 0, []) (List.mem_of_getElem? (i := 79) rfl)) [(a : Int), 0, 9] rfl ⟨zp_o2 hp, zp_o1 ⟨by decide, by decide⟩, zp_o1 ⟨by decide, by decide⟩, trivial⟩ (Nat.le_of_ble_eq_true rfl) hg1 (fun al hal rnn Pn Gn hextn hfrn hokn hcsn hpsin => ?_)
              obtain rfl := List.mem_singleton.mp hal
              have hrn := zp_int (hokn _ rfl).1
              obtain ⟨rfl, htn⟩ := hpsin
              obtain ⟨htn1, htn2⟩ := htn
              have n12 : Gn a 12 = (c12 : Int) := (zp_nf hfrn hp rfl).trans hc12
              have n24 : Gn a 24 = (c24 : Int) := (zp_nf hfrn hp rfl).trans hc24
              have n25 : Gn a 25 = (c25 : Int) := (zp_nf hfrn hp rfl).trans hc25
              have n27 : Gn a 27 = (c27 : Int) := (zp_nf hfrn hp rfl).trans hc27
              have n28 : Gn a 28 = (c28 : Int) := (zp_nf hfrn hp rfl).trans hc28
              refine zp_iast (j := nc) (pc := 154) hx hb hw heff (zd_X12_readPart (154, .iastore, 1, 0, []) (List.mem_of_getElem? (i := 80) rfl)) (show zp_ia 1 69 = some (400, 0, 0, (-2147483648), 2147483647) from rfl) hr25 (by omega) (by omega) (zp_o0 (by omega) (by omega) (by omega) (by omega)) rfl ?_
              refine zp_const (pc := 155) hx hb (zd_X12_readPart (155, .iconst 3, 1, 0, []) (List.mem_of_getElem? (i := 81) rfl)) rfl rfl ?_
              refine zp_iret (pc := 156) (n := 3) hx hb hE hQ hU5 rfl (by decide) (zd_X12_readPart (156, .ireturn, 1, 0, []) (List.mem_of_getElem? (i := 82) rfl)) (j := 0) rfl (zp_o0 (by omega) (by omega) (by omega) (by omega)) ?_
              rw [hps]
              refine ⟨rfl, ?_⟩
              show zDr a (zp_set Gn c25 (2000 + nc) rnn) B ln 3 (ym_rp (zy_so B ln) (zy_wo B ln) (zy_to B ln) (ylf ord B ln) tk nl od pi cd)
              unfold ym_rp
              rw [if_neg (c91 h0), if_neg (by omega)]
              have hDb : zDb a Gn c12 c24 c25 c27 c28 := ⟨⟨n12, n24, n25, n27, n28⟩, ⟨zp_pne hr24 hp (by decide), zp_pne hr25 hp (by decide), zp_pne hr27 hp (by decide), zp_pne hr28 hp (by decide)⟩, ⟨zp_pne hr12 hr24 (by decide), zp_pne hr12 hr25 (by decide), zp_pne hr12 hr27 (by decide), zp_pne hr12 hr28 (by decide)⟩, zp_pne hr24 hr25 (by decide), zp_pne hr24 hr27 (by decide), zp_pne hr24 hr28 (by decide), zp_pne hr25 hr27 (by decide), zp_pne hr25 hr28 (by decide), zp_pne hr27 hr28 (by decide)⟩
              have h6 : 6 ≤ ylw ord B ln tk := by omega
              have hlim : (if ylw ord B ln tk = 6 then (5 : Int) else 9) = 9 := by
                first | exact if_pos (by omega) | exact if_neg (by omega)
              by_cases hok2 : zy_so B ln (zy_to B ln tk) = 2 ∧ 0 ≤ zy_wo B ln (zy_to B ln tk) ∧ zy_wo B ln (zy_to B ln tk) ≤ 9
              · have hlf : ylf ord B ln tk = Sum.inr (zy_to B ln (zy_to B ln tk), ylw ord B ln tk, zy_wo B ln (zy_to B ln tk)) := by
                  unfold ylf
                  rw [if_neg (by omega), if_pos ⟨hot, h6⟩, hlim, if_pos hok2]
                rw [hlf]
                obtain ⟨y1, y2⟩ := htn2 hok2
                have y2 : rnn = zy_wo B ln (zy_to B ln tk) := y2 (show (-2147483648 : Int) ≤ 0 by decide) (show (9 : Int) ≤ 2147483647 by decide)
                have y3 := zD_w25 (v := rnn) y1 hDb (n := nc)
                rw [y2] at y3 ⊢
                have e1 : (if its = -1 then 0 else its) = ylw ord B ln tk := by rw [if_neg (by omega), hits]
                rw [e1] at y3
                refine ⟨rfl, ?_⟩
                show zD a _ 0 B ln _ _ _ _ (yu cd.1 cd.2.2 (ylw ord B ln tk), yu cd.2.1 cd.2.2 (zy_wo B ln (zy_to B ln tk)), cd.2.2 + 1)
                have e2 : yu (yu cd.2.1 cd.2.2 (if dg = 1 then wv else 0)) nc (zy_wo B ln (zy_to B ln tk)) = yu cd.2.1 cd.2.2 (zy_wo B ln (zy_to B ln tk)) := by
                  rw [hnc]
                  exact yu_yu
                rw [← e2]
                exact y3
              · have hlf : ylf ord B ln tk = Sum.inl (zy_to B ln tk) := by
                  unfold ylf
                  rw [if_neg (by omega), if_pos ⟨hot, h6⟩, hlim, if_neg hok2]
                rw [hlf]
                obtain ⟨y1, y2⟩ := htn1 hok2
                have y3 := zD_w25 (v := rnn) y1 hDb (n := nc)
                have hj9 := zDj_leaf (F := zy_fr B ln tk) (o := (if its = -1 then 0 else its)) (t := (if dg = 1 then wv else 0)) hI.1 (Nat.le_refl _)
                exact ⟨⟨_, _, _, _, _, y3, zDj_le hj9 (by have h1 := (zy_nx (B := B) dt).2.2 hsn; have h2 := zy_fr_le (B := B) (zy_nx (B := B) dt).1; omega)⟩, (zp_set_ne (Or.inl (zp_pne hp hr25 (by decide)))).trans y2⟩
            · refine zp_ldc2 (pc := 142) hx hb hE (zd_X12_readPart (142, .ldc2_w 224, 3, 0, []) (List.mem_of_getElem? (i := 76) rfl)) (j := 88) rfl ?_
              refine zp_goto (tgt := 151) (pc := 145) hx hb (zd_X12_readPart (145, .goto 6, 3, 0, []) (List.mem_of_getElem? (i := 77) rfl)) rfl ?_
              have hot : ord = true := by
                rcases hwG20 with ⟨y1, y2⟩ | ⟨y1, y2⟩
                · exact y2
                · exfalso; omega
              refine zp_call (pc := 151) (how := 0) (idx := 335) (mi := 228) (S := [(0, (nc : Int)), (2, (c25 : Int))]) hx hb hE hw heff hrm (zY_nu hW B ln (zy_to B ln tk) (nl + 1) od pi (yu cd.1 cd.2.2 (if its = -1 then 0 else its), yu cd.2.1 cd.2.2 (if dg = 1 then wv else 0), cd.2.2 + 1)) rfl (j := 30) rfl rfl (by decide +kernel) (zd_X12_readPart (151, .invokevirtual 335, 3, 0, []) (List.mem_of_getElem? (i := 79) rfl)) [(a : Int), 0, 5] rfl ⟨zp_o2 hp, zp_o1 ⟨by decide, by decide⟩, zp_o1 ⟨by decide, by decide⟩, trivial⟩ (Nat.le_of_ble_eq_true rfl) hg1 (fun al hal rnn Pn Gn hextn hfrn hokn hcsn hpsin => ?_)
              obtain rfl := List.mem_singleton.mp hal
              have hrn := zp_int (hokn _ rfl).1
              obtain ⟨rfl, htn⟩ := hpsin
              obtain ⟨htn1, htn2⟩ := htn
              have n12 : Gn a 12 = (c12 : Int) := (zp_nf hfrn hp rfl).trans hc12
              have n24 : Gn a 24 = (c24 : Int) := (zp_nf hfrn hp rfl).trans hc24
              have n25 : Gn a 25 = (c25 : Int) := (zp_nf hfrn hp rfl).trans hc25
              have n27 : Gn a 27 = (c27 : Int) := (zp_nf hfrn hp rfl).trans hc27
              have n28 : Gn a 28 = (c28 : Int) := (zp_nf hfrn hp rfl).trans hc28
              refine zp_iast (j := nc) (pc := 154) hx hb hw heff (zd_X12_readPart (154, .iastore, 1, 0, []) (List.mem_of_getElem? (i := 80) rfl)) (show zp_ia 1 69 = some (400, 0, 0, (-2147483648), 2147483647) from rfl) hr25 (by omega) (by omega) (zp_o0 (by omega) (by omega) (by omega) (by omega)) rfl ?_
              refine zp_const (pc := 155) hx hb (zd_X12_readPart (155, .iconst 3, 1, 0, []) (List.mem_of_getElem? (i := 81) rfl)) rfl rfl ?_
              refine zp_iret (pc := 156) (n := 3) hx hb hE hQ hU5 rfl (by decide) (zd_X12_readPart (156, .ireturn, 1, 0, []) (List.mem_of_getElem? (i := 82) rfl)) (j := 0) rfl (zp_o0 (by omega) (by omega) (by omega) (by omega)) ?_
              rw [hps]
              refine ⟨rfl, ?_⟩
              show zDr a (zp_set Gn c25 (2000 + nc) rnn) B ln 3 (ym_rp (zy_so B ln) (zy_wo B ln) (zy_to B ln) (ylf ord B ln) tk nl od pi cd)
              unfold ym_rp
              rw [if_neg (c91 h0), if_neg (by omega)]
              have hDb : zDb a Gn c12 c24 c25 c27 c28 := ⟨⟨n12, n24, n25, n27, n28⟩, ⟨zp_pne hr24 hp (by decide), zp_pne hr25 hp (by decide), zp_pne hr27 hp (by decide), zp_pne hr28 hp (by decide)⟩, ⟨zp_pne hr12 hr24 (by decide), zp_pne hr12 hr25 (by decide), zp_pne hr12 hr27 (by decide), zp_pne hr12 hr28 (by decide)⟩, zp_pne hr24 hr25 (by decide), zp_pne hr24 hr27 (by decide), zp_pne hr24 hr28 (by decide), zp_pne hr25 hr27 (by decide), zp_pne hr25 hr28 (by decide), zp_pne hr27 hr28 (by decide)⟩
              have h6 : 6 ≤ ylw ord B ln tk := by omega
              have hlim : (if ylw ord B ln tk = 6 then (5 : Int) else 9) = 5 := by
                first | exact if_pos (by omega) | exact if_neg (by omega)
              by_cases hok2 : zy_so B ln (zy_to B ln tk) = 2 ∧ 0 ≤ zy_wo B ln (zy_to B ln tk) ∧ zy_wo B ln (zy_to B ln tk) ≤ 5
              · have hlf : ylf ord B ln tk = Sum.inr (zy_to B ln (zy_to B ln tk), ylw ord B ln tk, zy_wo B ln (zy_to B ln tk)) := by
                  unfold ylf
                  rw [if_neg (by omega), if_pos ⟨hot, h6⟩, hlim, if_pos hok2]
                rw [hlf]
                obtain ⟨y1, y2⟩ := htn2 hok2
                have y2 : rnn = zy_wo B ln (zy_to B ln tk) := y2 (show (-2147483648 : Int) ≤ 0 by decide) (show (5 : Int) ≤ 2147483647 by decide)
                have y3 := zD_w25 (v := rnn) y1 hDb (n := nc)
                rw [y2] at y3 ⊢
                have e1 : (if its = -1 then 0 else its) = ylw ord B ln tk := by rw [if_neg (by omega), hits]
                rw [e1] at y3
                refine ⟨rfl, ?_⟩
                show zD a _ 0 B ln _ _ _ _ (yu cd.1 cd.2.2 (ylw ord B ln tk), yu cd.2.1 cd.2.2 (zy_wo B ln (zy_to B ln tk)), cd.2.2 + 1)
                have e2 : yu (yu cd.2.1 cd.2.2 (if dg = 1 then wv else 0)) nc (zy_wo B ln (zy_to B ln tk)) = yu cd.2.1 cd.2.2 (zy_wo B ln (zy_to B ln tk)) := by
                  rw [hnc]
                  exact yu_yu
                rw [← e2]
                exact y3
              · have hlf : ylf ord B ln tk = Sum.inl (zy_to B ln tk) := by
                  unfold ylf
                  rw [if_neg (by omega), if_pos ⟨hot, h6⟩, hlim, if_neg hok2]
                rw [hlf]
                obtain ⟨y1, y2⟩ := htn1 hok2
                have y3 := zD_w25 (v := rnn) y1 hDb (n := nc)
                have hj9 := zDj_leaf (F := zy_fr B ln tk) (o := (if its = -1 then 0 else its)) (t := (if dg = 1 then wv else 0)) hI.1 (Nat.le_refl _)
                exact ⟨⟨_, _, _, _, _, y3, zDj_le hj9 (by have h1 := (zy_nx (B := B) dt).2.2 hsn; have h2 := zy_fr_le (B := B) (zy_nx (B := B) dt).1; omega)⟩, (zp_set_ne (Or.inl (zp_pne hp hr25 (by decide)))).trans y2⟩
  have h61 : ∀ (its dg : Int), ¬ (so = 3 ∧ wv = 91) → its = ylw ord B ln tk → (dg = 0 ∨ dg = 1) → (dg = 1 ↔ so = 2 ∧ wv ≤ 1000) → zp_J p l e R s m args below meth c Q w u [] 61 [(2, 0, dg), (1, 0, its), (0, 2, (a : Int))] [] u.1 (zp_n u.2.1) := by
    intro its dg h0 hits hdg01 hdg
    have hw2 : so = 2 → 0 ≤ wv := fun z => by
      rw [hwv]
      exact (zy_wo_2 dt (by omega)).1
    refine zp_load (pc := 61) hx hb (zd_X12_readPart (61, .aload_n 0, 1, 0, []) (List.mem_of_getElem? (i := 31) rfl)) rfl (j := 2) rfl ?_
    refine zp_load (pc := 62) hx hb (zd_X12_readPart (62, .iload_n 1, 1, 0, []) (List.mem_of_getElem? (i := 32) rfl)) rfl (j := 1) rfl ?_
    refine zp_const (pc := 63) hx hb (zd_X12_readPart (63, .iconst (-1), 1, 0, []) (List.mem_of_getElem? (i := 33) rfl)) rfl rfl ?_
    refine zp_icmp (pc := 64) (tgt := 71) hx hb (zd_X12_readPart (64, .if_icmp .ne 7, 3, 0, []) (List.mem_of_getElem? (i := 34) rfl)) rfl (fun (hcq28 : ¬ its = (-1)) => ?_) (fun (hcq28 : ¬ (¬ its = (-1))) => ?_)
    · refine zp_const (pc := 71) hx hb (zd_X12_readPart (71, .iconst 1, 1, 0, []) (List.mem_of_getElem? (i := 37) rfl)) rfl rfl ?_
      refine zp_goto (tgt := 76) (pc := 72) hx hb (zd_X12_readPart (72, .goto 4, 3, 0, []) (List.mem_of_getElem? (i := 38) rfl)) rfl ?_
      refine zp_load (pc := 76) hx hb (zd_X12_readPart (76, .iload_n 1, 1, 0, []) (List.mem_of_getElem? (i := 40) rfl)) rfl (j := 1) rfl ?_
      refine zp_const (pc := 77) hx hb (zd_X12_readPart (77, .iconst (-1), 1, 0, []) (List.mem_of_getElem? (i := 41) rfl)) rfl rfl ?_
      refine zp_icmp (pc := 78) (tgt := 85) hx hb (zd_X12_readPart (78, .if_icmp .ne 7, 3, 0, []) (List.mem_of_getElem? (i := 42) rfl)) rfl (fun (hcq29 : ¬ its = (-1)) => ?_) (fun (hcq29 : ¬ (¬ its = (-1))) => ?_)
      · refine zp_load (pc := 85) hx hb (zd_X12_readPart (85, .iload_n 1, 1, 0, []) (List.mem_of_getElem? (i := 45) rfl)) rfl (j := 1) rfl ?_
        refine zp_load (pc := 86) hx hb (zd_X12_readPart (86, .iload_n 2, 1, 0, []) (List.mem_of_getElem? (i := 46) rfl)) rfl (j := 0) rfl ?_
        refine zp_if (pc := 87) (tgt := 98) hx hb (zd_X12_readPart (87, .ifCond .eq 11, 3, 0, []) (List.mem_of_getElem? (i := 47) rfl)) rfl (fun (hcq30 : dg = 0) => ?_) (fun (hcq30 : ¬ (dg = 0)) => ?_)
        · refine zp_const (pc := 98) hx hb (zd_X12_readPart (98, .iconst 0, 1, 0, []) (List.mem_of_getElem? (i := 52) rfl)) rfl rfl ?_
          have ha2 : its = (if its = -1 then 0 else its) := by first | exact (if_pos (by omega)).symm | exact (if_neg (by omega)).symm
          have ha3 : 0 = (if dg = 1 then wv else 0) := by first | exact (if_neg (by omega)).symm | (rw [if_pos (by omega)]; first | exact hx3 | omega)
          have hc4 : (1 : Int) = 1 → cd.2.2 < 400 := fun z => (hlt (by rw [← hso]; omega)).2.1
          refine zp_call (pc := 99) (how := 0) (idx := 331) (mi := 226) (S := []) hx hb hE hw heff hrm (zY_lf hW B ln tk nl od pi cd) rfl (j := 28) rfl rfl (by decide +kernel) (zd_X12_readPart (99, .invokevirtual 331, 3, 0, []) (List.mem_of_getElem? (i := 53) rfl)) [(a : Int), 1, its, 0] rfl ⟨zp_o2 hp, zp_o0 (by omega) (by omega) (by omega) (by omega), zp_o0 (by omega) (by omega) (by omega) (by omega), zp_o0 (by omega) (by omega) (by omega) (by omega), trivial⟩ (Nat.le_of_ble_eq_true rfl) ⟨hD, hc4, by omega⟩ (fun al hal rnl Pl Gl hextl hfrl hokl hcsl hpsil => ?_)
          obtain rfl := List.mem_singleton.mp hal
          obtain ⟨rfl, htl⟩ := hpsil
          have htl : (¬ ((1 : Int) = 1 ∧ nl < 50) → zD a Gl 1 B ln tk nl od pi cd ∧ Gl a 18 = (zy_fr B ln tk : Int)) ∧ ((1 : Int) = 1 ∧ nl < 50 → zD a Gl 0 B ln (zy_to B ln tk) (nl + 1) od pi (yu cd.1 cd.2.2 its, yu cd.2.1 cd.2.2 0, cd.2.2 + 1)) := htl
          refine h102 its dg Gl h0 hits hdg (zDw_fr hw0 hp hfrl rfl) ?_
          by_cases hok2 : (1 : Int) = 1 ∧ nl < 50
          · exact Or.inr ⟨by rw [← ha2, ← ha3]; exact htl.2 hok2, hok2.2, by omega⟩
          · exact Or.inl ⟨(htl.1 hok2).1, (htl.1 hok2).2, by omega⟩
        · refine zp_load (pc := 90) hx hb (zd_X12_readPart (90, .aload_n 0, 1, 0, []) (List.mem_of_getElem? (i := 48) rfl)) rfl (j := 2) rfl ?_
          refine zp_getf (n := wv) (pc := 91) hx hb hE hw (zd_X12_readPart (91, .getfield 250, 3, 0, []) (List.mem_of_getElem? (i := 49) rfl)) (j := 35) rfl rfl rfl hp d17 ?_
          refine zp_l2i (pc := 94) hx hb (zd_X12_readPart (94, .l2i, 1, 0, []) (List.mem_of_getElem? (i := 50) rfl)) (fun x31 r_x31 e_x31 => ?_)
          have i_x31 := zp_rg0 r_x31
          refine zp_goto (tgt := 99) (pc := 95) hx hb (zd_X12_readPart (95, .goto 4, 3, 0, []) (List.mem_of_getElem? (i := 51) rfl)) rfl ?_
          have ha2 : its = (if its = -1 then 0 else its) := by first | exact (if_pos (by omega)).symm | exact (if_neg (by omega)).symm
          have hx3 : x31 = wv := e_x31 ⟨by omega, by omega⟩
          have ha3 : x31 = (if dg = 1 then wv else 0) := by first | exact (if_neg (by omega)).symm | (rw [if_pos (by omega)]; first | exact hx3 | omega)
          have hc4 : (1 : Int) = 1 → cd.2.2 < 400 := fun z => (hlt (by rw [← hso]; omega)).2.1
          refine zp_call (pc := 99) (how := 0) (idx := 331) (mi := 226) (S := []) hx hb hE hw heff hrm (zY_lf hW B ln tk nl od pi cd) rfl (j := 28) rfl rfl (by decide +kernel) (zd_X12_readPart (99, .invokevirtual 331, 3, 0, []) (List.mem_of_getElem? (i := 53) rfl)) [(a : Int), 1, its, x31] rfl ⟨zp_o2 hp, zp_o0 (by omega) (by omega) (by omega) (by omega), zp_o0 (by omega) (by omega) (by omega) (by omega), zp_o0 (by omega) (by omega) (by omega) (by omega), trivial⟩ (Nat.le_of_ble_eq_true rfl) ⟨hD, hc4, by omega⟩ (fun al hal rnl Pl Gl hextl hfrl hokl hcsl hpsil => ?_)
          obtain rfl := List.mem_singleton.mp hal
          obtain ⟨rfl, htl⟩ := hpsil
          have htl : (¬ ((1 : Int) = 1 ∧ nl < 50) → zD a Gl 1 B ln tk nl od pi cd ∧ Gl a 18 = (zy_fr B ln tk : Int)) ∧ ((1 : Int) = 1 ∧ nl < 50 → zD a Gl 0 B ln (zy_to B ln tk) (nl + 1) od pi (yu cd.1 cd.2.2 its, yu cd.2.1 cd.2.2 x31, cd.2.2 + 1)) := htl
          refine h102 its dg Gl h0 hits hdg (zDw_fr hw0 hp hfrl rfl) ?_
          by_cases hok2 : (1 : Int) = 1 ∧ nl < 50
          · exact Or.inr ⟨by rw [← ha2, ← ha3]; exact htl.2 hok2, hok2.2, by omega⟩
          · exact Or.inl ⟨(htl.1 hok2).1, (htl.1 hok2).2, by omega⟩
      · refine zp_const (pc := 81) hx hb (zd_X12_readPart (81, .iconst 0, 1, 0, []) (List.mem_of_getElem? (i := 43) rfl)) rfl rfl ?_
        refine zp_goto (tgt := 86) (pc := 82) hx hb (zd_X12_readPart (82, .goto 4, 3, 0, []) (List.mem_of_getElem? (i := 44) rfl)) rfl ?_
        refine zp_load (pc := 86) hx hb (zd_X12_readPart (86, .iload_n 2, 1, 0, []) (List.mem_of_getElem? (i := 46) rfl)) rfl (j := 0) rfl ?_
        refine zp_if (pc := 87) (tgt := 98) hx hb (zd_X12_readPart (87, .ifCond .eq 11, 3, 0, []) (List.mem_of_getElem? (i := 47) rfl)) rfl (fun (hcq32 : dg = 0) => ?_) (fun (hcq32 : ¬ (dg = 0)) => ?_)
        · refine zp_const (pc := 98) hx hb (zd_X12_readPart (98, .iconst 0, 1, 0, []) (List.mem_of_getElem? (i := 52) rfl)) rfl rfl ?_
          have ha2 : 0 = (if its = -1 then 0 else its) := by first | exact (if_pos (by omega)).symm | exact (if_neg (by omega)).symm
          have ha3 : 0 = (if dg = 1 then wv else 0) := by first | exact (if_neg (by omega)).symm | (rw [if_pos (by omega)]; first | exact hx3 | omega)
          have hc4 : (1 : Int) = 1 → cd.2.2 < 400 := fun z => (hlt (by rw [← hso]; omega)).2.1
          refine zp_call (pc := 99) (how := 0) (idx := 331) (mi := 226) (S := []) hx hb hE hw heff hrm (zY_lf hW B ln tk nl od pi cd) rfl (j := 28) rfl rfl (by decide +kernel) (zd_X12_readPart (99, .invokevirtual 331, 3, 0, []) (List.mem_of_getElem? (i := 53) rfl)) [(a : Int), 1, 0, 0] rfl ⟨zp_o2 hp, zp_o0 (by omega) (by omega) (by omega) (by omega), zp_o0 (by omega) (by omega) (by omega) (by omega), zp_o0 (by omega) (by omega) (by omega) (by omega), trivial⟩ (Nat.le_of_ble_eq_true rfl) ⟨hD, hc4, by omega⟩ (fun al hal rnl Pl Gl hextl hfrl hokl hcsl hpsil => ?_)
          obtain rfl := List.mem_singleton.mp hal
          obtain ⟨rfl, htl⟩ := hpsil
          have htl : (¬ ((1 : Int) = 1 ∧ nl < 50) → zD a Gl 1 B ln tk nl od pi cd ∧ Gl a 18 = (zy_fr B ln tk : Int)) ∧ ((1 : Int) = 1 ∧ nl < 50 → zD a Gl 0 B ln (zy_to B ln tk) (nl + 1) od pi (yu cd.1 cd.2.2 0, yu cd.2.1 cd.2.2 0, cd.2.2 + 1)) := htl
          refine h102 its dg Gl h0 hits hdg (zDw_fr hw0 hp hfrl rfl) ?_
          by_cases hok2 : (1 : Int) = 1 ∧ nl < 50
          · exact Or.inr ⟨by rw [← ha2, ← ha3]; exact htl.2 hok2, hok2.2, by omega⟩
          · exact Or.inl ⟨(htl.1 hok2).1, (htl.1 hok2).2, by omega⟩
        · refine zp_load (pc := 90) hx hb (zd_X12_readPart (90, .aload_n 0, 1, 0, []) (List.mem_of_getElem? (i := 48) rfl)) rfl (j := 2) rfl ?_
          refine zp_getf (n := wv) (pc := 91) hx hb hE hw (zd_X12_readPart (91, .getfield 250, 3, 0, []) (List.mem_of_getElem? (i := 49) rfl)) (j := 35) rfl rfl rfl hp d17 ?_
          refine zp_l2i (pc := 94) hx hb (zd_X12_readPart (94, .l2i, 1, 0, []) (List.mem_of_getElem? (i := 50) rfl)) (fun x33 r_x33 e_x33 => ?_)
          have i_x33 := zp_rg0 r_x33
          refine zp_goto (tgt := 99) (pc := 95) hx hb (zd_X12_readPart (95, .goto 4, 3, 0, []) (List.mem_of_getElem? (i := 51) rfl)) rfl ?_
          have ha2 : 0 = (if its = -1 then 0 else its) := by first | exact (if_pos (by omega)).symm | exact (if_neg (by omega)).symm
          have hx3 : x33 = wv := e_x33 ⟨by omega, by omega⟩
          have ha3 : x33 = (if dg = 1 then wv else 0) := by first | exact (if_neg (by omega)).symm | (rw [if_pos (by omega)]; first | exact hx3 | omega)
          have hc4 : (1 : Int) = 1 → cd.2.2 < 400 := fun z => (hlt (by rw [← hso]; omega)).2.1
          refine zp_call (pc := 99) (how := 0) (idx := 331) (mi := 226) (S := []) hx hb hE hw heff hrm (zY_lf hW B ln tk nl od pi cd) rfl (j := 28) rfl rfl (by decide +kernel) (zd_X12_readPart (99, .invokevirtual 331, 3, 0, []) (List.mem_of_getElem? (i := 53) rfl)) [(a : Int), 1, 0, x33] rfl ⟨zp_o2 hp, zp_o0 (by omega) (by omega) (by omega) (by omega), zp_o0 (by omega) (by omega) (by omega) (by omega), zp_o0 (by omega) (by omega) (by omega) (by omega), trivial⟩ (Nat.le_of_ble_eq_true rfl) ⟨hD, hc4, by omega⟩ (fun al hal rnl Pl Gl hextl hfrl hokl hcsl hpsil => ?_)
          obtain rfl := List.mem_singleton.mp hal
          obtain ⟨rfl, htl⟩ := hpsil
          have htl : (¬ ((1 : Int) = 1 ∧ nl < 50) → zD a Gl 1 B ln tk nl od pi cd ∧ Gl a 18 = (zy_fr B ln tk : Int)) ∧ ((1 : Int) = 1 ∧ nl < 50 → zD a Gl 0 B ln (zy_to B ln tk) (nl + 1) od pi (yu cd.1 cd.2.2 0, yu cd.2.1 cd.2.2 x33, cd.2.2 + 1)) := htl
          refine h102 its dg Gl h0 hits hdg (zDw_fr hw0 hp hfrl rfl) ?_
          by_cases hok2 : (1 : Int) = 1 ∧ nl < 50
          · exact Or.inr ⟨by rw [← ha2, ← ha3]; exact htl.2 hok2, hok2.2, by omega⟩
          · exact Or.inl ⟨(htl.1 hok2).1, (htl.1 hok2).2, by omega⟩
    · refine zp_load (pc := 67) hx hb (zd_X12_readPart (67, .iload_n 2, 1, 0, []) (List.mem_of_getElem? (i := 35) rfl)) rfl (j := 0) rfl ?_
      refine zp_if (pc := 68) (tgt := 75) hx hb (zd_X12_readPart (68, .ifCond .eq 7, 3, 0, []) (List.mem_of_getElem? (i := 36) rfl)) rfl (fun (hcq34 : dg = 0) => ?_) (fun (hcq34 : ¬ (dg = 0)) => ?_)
      · refine zp_const (pc := 75) hx hb (zd_X12_readPart (75, .iconst 0, 1, 0, []) (List.mem_of_getElem? (i := 39) rfl)) rfl rfl ?_
        refine zp_load (pc := 76) hx hb (zd_X12_readPart (76, .iload_n 1, 1, 0, []) (List.mem_of_getElem? (i := 40) rfl)) rfl (j := 1) rfl ?_
        refine zp_const (pc := 77) hx hb (zd_X12_readPart (77, .iconst (-1), 1, 0, []) (List.mem_of_getElem? (i := 41) rfl)) rfl rfl ?_
        refine zp_icmp (pc := 78) (tgt := 85) hx hb (zd_X12_readPart (78, .if_icmp .ne 7, 3, 0, []) (List.mem_of_getElem? (i := 42) rfl)) rfl (fun (hcq35 : ¬ its = (-1)) => ?_) (fun (hcq35 : ¬ (¬ its = (-1))) => ?_)
        · refine zp_load (pc := 85) hx hb (zd_X12_readPart (85, .iload_n 1, 1, 0, []) (List.mem_of_getElem? (i := 45) rfl)) rfl (j := 1) rfl ?_
          refine zp_load (pc := 86) hx hb (zd_X12_readPart (86, .iload_n 2, 1, 0, []) (List.mem_of_getElem? (i := 46) rfl)) rfl (j := 0) rfl ?_
          refine zp_if (pc := 87) (tgt := 98) hx hb (zd_X12_readPart (87, .ifCond .eq 11, 3, 0, []) (List.mem_of_getElem? (i := 47) rfl)) rfl (fun (hcq36 : dg = 0) => ?_) (fun (hcq36 : ¬ (dg = 0)) => ?_)
          · refine zp_const (pc := 98) hx hb (zd_X12_readPart (98, .iconst 0, 1, 0, []) (List.mem_of_getElem? (i := 52) rfl)) rfl rfl ?_
            have ha2 : its = (if its = -1 then 0 else its) := by first | exact (if_pos (by omega)).symm | exact (if_neg (by omega)).symm
            have ha3 : 0 = (if dg = 1 then wv else 0) := by first | exact (if_neg (by omega)).symm | (rw [if_pos (by omega)]; first | exact hx3 | omega)
            have hc4 : (0 : Int) = 1 → cd.2.2 < 400 := fun z => (hlt (by rw [← hso]; omega)).2.1
            refine zp_call (pc := 99) (how := 0) (idx := 331) (mi := 226) (S := []) hx hb hE hw heff hrm (zY_lf hW B ln tk nl od pi cd) rfl (j := 28) rfl rfl (by decide +kernel) (zd_X12_readPart (99, .invokevirtual 331, 3, 0, []) (List.mem_of_getElem? (i := 53) rfl)) [(a : Int), 0, its, 0] rfl ⟨zp_o2 hp, zp_o0 (by omega) (by omega) (by omega) (by omega), zp_o0 (by omega) (by omega) (by omega) (by omega), zp_o0 (by omega) (by omega) (by omega) (by omega), trivial⟩ (Nat.le_of_ble_eq_true rfl) ⟨hD, hc4, by omega⟩ (fun al hal rnl Pl Gl hextl hfrl hokl hcsl hpsil => ?_)
            obtain rfl := List.mem_singleton.mp hal
            obtain ⟨rfl, htl⟩ := hpsil
            have htl : (¬ ((0 : Int) = 1 ∧ nl < 50) → zD a Gl 1 B ln tk nl od pi cd ∧ Gl a 18 = (zy_fr B ln tk : Int)) ∧ ((0 : Int) = 1 ∧ nl < 50 → zD a Gl 0 B ln (zy_to B ln tk) (nl + 1) od pi (yu cd.1 cd.2.2 its, yu cd.2.1 cd.2.2 0, cd.2.2 + 1)) := htl
            refine h102 its dg Gl h0 hits hdg (zDw_fr hw0 hp hfrl rfl) ?_
            by_cases hok2 : (0 : Int) = 1 ∧ nl < 50
            · exact Or.inr ⟨by rw [← ha2, ← ha3]; exact htl.2 hok2, hok2.2, by omega⟩
            · exact Or.inl ⟨(htl.1 hok2).1, (htl.1 hok2).2, by omega⟩
          · refine zp_load (pc := 90) hx hb (zd_X12_readPart (90, .aload_n 0, 1, 0, []) (List.mem_of_getElem? (i := 48) rfl)) rfl (j := 2) rfl ?_
            refine zp_getf (n := wv) (pc := 91) hx hb hE hw (zd_X12_readPart (91, .getfield 250, 3, 0, []) (List.mem_of_getElem? (i := 49) rfl)) (j := 35) rfl rfl rfl hp d17 ?_
            refine zp_l2i (pc := 94) hx hb (zd_X12_readPart (94, .l2i, 1, 0, []) (List.mem_of_getElem? (i := 50) rfl)) (fun x37 r_x37 e_x37 => ?_)
            have i_x37 := zp_rg0 r_x37
            refine zp_goto (tgt := 99) (pc := 95) hx hb (zd_X12_readPart (95, .goto 4, 3, 0, []) (List.mem_of_getElem? (i := 51) rfl)) rfl ?_
            have ha2 : its = (if its = -1 then 0 else its) := by first | exact (if_pos (by omega)).symm | exact (if_neg (by omega)).symm
            have hx3 : x37 = wv := e_x37 ⟨by omega, by omega⟩
            have ha3 : x37 = (if dg = 1 then wv else 0) := by first | exact (if_neg (by omega)).symm | (rw [if_pos (by omega)]; first | exact hx3 | omega)
            have hc4 : (0 : Int) = 1 → cd.2.2 < 400 := fun z => (hlt (by rw [← hso]; omega)).2.1
            refine zp_call (pc := 99) (how := 0) (idx := 331) (mi := 226) (S := []) hx hb hE hw heff hrm (zY_lf hW B ln tk nl od pi cd) rfl (j := 28) rfl rfl (by decide +kernel) (zd_X12_readPart (99, .invokevirtual 331, 3, 0, []) (List.mem_of_getElem? (i := 53) rfl)) [(a : Int), 0, its, x37] rfl ⟨zp_o2 hp, zp_o0 (by omega) (by omega) (by omega) (by omega), zp_o0 (by omega) (by omega) (by omega) (by omega), zp_o0 (by omega) (by omega) (by omega) (by omega), trivial⟩ (Nat.le_of_ble_eq_true rfl) ⟨hD, hc4, by omega⟩ (fun al hal rnl Pl Gl hextl hfrl hokl hcsl hpsil => ?_)
            obtain rfl := List.mem_singleton.mp hal
            obtain ⟨rfl, htl⟩ := hpsil
            have htl : (¬ ((0 : Int) = 1 ∧ nl < 50) → zD a Gl 1 B ln tk nl od pi cd ∧ Gl a 18 = (zy_fr B ln tk : Int)) ∧ ((0 : Int) = 1 ∧ nl < 50 → zD a Gl 0 B ln (zy_to B ln tk) (nl + 1) od pi (yu cd.1 cd.2.2 its, yu cd.2.1 cd.2.2 x37, cd.2.2 + 1)) := htl
            refine h102 its dg Gl h0 hits hdg (zDw_fr hw0 hp hfrl rfl) ?_
            by_cases hok2 : (0 : Int) = 1 ∧ nl < 50
            · exact Or.inr ⟨by rw [← ha2, ← ha3]; exact htl.2 hok2, hok2.2, by omega⟩
            · exact Or.inl ⟨(htl.1 hok2).1, (htl.1 hok2).2, by omega⟩
        · refine zp_const (pc := 81) hx hb (zd_X12_readPart (81, .iconst 0, 1, 0, []) (List.mem_of_getElem? (i := 43) rfl)) rfl rfl ?_
          refine zp_goto (tgt := 86) (pc := 82) hx hb (zd_X12_readPart (82, .goto 4, 3, 0, []) (List.mem_of_getElem? (i := 44) rfl)) rfl ?_
          refine zp_load (pc := 86) hx hb (zd_X12_readPart (86, .iload_n 2, 1, 0, []) (List.mem_of_getElem? (i := 46) rfl)) rfl (j := 0) rfl ?_
          refine zp_if (pc := 87) (tgt := 98) hx hb (zd_X12_readPart (87, .ifCond .eq 11, 3, 0, []) (List.mem_of_getElem? (i := 47) rfl)) rfl (fun (hcq38 : dg = 0) => ?_) (fun (hcq38 : ¬ (dg = 0)) => ?_)
          · refine zp_const (pc := 98) hx hb (zd_X12_readPart (98, .iconst 0, 1, 0, []) (List.mem_of_getElem? (i := 52) rfl)) rfl rfl ?_
            have ha2 : 0 = (if its = -1 then 0 else its) := by first | exact (if_pos (by omega)).symm | exact (if_neg (by omega)).symm
            have ha3 : 0 = (if dg = 1 then wv else 0) := by first | exact (if_neg (by omega)).symm | (rw [if_pos (by omega)]; first | exact hx3 | omega)
            have hc4 : (0 : Int) = 1 → cd.2.2 < 400 := fun z => (hlt (by rw [← hso]; omega)).2.1
            refine zp_call (pc := 99) (how := 0) (idx := 331) (mi := 226) (S := []) hx hb hE hw heff hrm (zY_lf hW B ln tk nl od pi cd) rfl (j := 28) rfl rfl (by decide +kernel) (zd_X12_readPart (99, .invokevirtual 331, 3, 0, []) (List.mem_of_getElem? (i := 53) rfl)) [(a : Int), 0, 0, 0] rfl ⟨zp_o2 hp, zp_o0 (by omega) (by omega) (by omega) (by omega), zp_o0 (by omega) (by omega) (by omega) (by omega), zp_o0 (by omega) (by omega) (by omega) (by omega), trivial⟩ (Nat.le_of_ble_eq_true rfl) ⟨hD, hc4, by omega⟩ (fun al hal rnl Pl Gl hextl hfrl hokl hcsl hpsil => ?_)
            obtain rfl := List.mem_singleton.mp hal
            obtain ⟨rfl, htl⟩ := hpsil
            have htl : (¬ ((0 : Int) = 1 ∧ nl < 50) → zD a Gl 1 B ln tk nl od pi cd ∧ Gl a 18 = (zy_fr B ln tk : Int)) ∧ ((0 : Int) = 1 ∧ nl < 50 → zD a Gl 0 B ln (zy_to B ln tk) (nl + 1) od pi (yu cd.1 cd.2.2 0, yu cd.2.1 cd.2.2 0, cd.2.2 + 1)) := htl
            refine h102 its dg Gl h0 hits hdg (zDw_fr hw0 hp hfrl rfl) ?_
            by_cases hok2 : (0 : Int) = 1 ∧ nl < 50
            · exact Or.inr ⟨by rw [← ha2, ← ha3]; exact htl.2 hok2, hok2.2, by omega⟩
            · exact Or.inl ⟨(htl.1 hok2).1, (htl.1 hok2).2, by omega⟩
          · refine zp_load (pc := 90) hx hb (zd_X12_readPart (90, .aload_n 0, 1, 0, []) (List.mem_of_getElem? (i := 48) rfl)) rfl (j := 2) rfl ?_
            refine zp_getf (n := wv) (pc := 91) hx hb hE hw (zd_X12_readPart (91, .getfield 250, 3, 0, []) (List.mem_of_getElem? (i := 49) rfl)) (j := 35) rfl rfl rfl hp d17 ?_
            refine zp_l2i (pc := 94) hx hb (zd_X12_readPart (94, .l2i, 1, 0, []) (List.mem_of_getElem? (i := 50) rfl)) (fun x39 r_x39 e_x39 => ?_)
            have i_x39 := zp_rg0 r_x39
            refine zp_goto (tgt := 99) (pc := 95) hx hb (zd_X12_readPart (95, .goto 4, 3, 0, []) (List.mem_of_getElem? (i := 51) rfl)) rfl ?_
            have ha2 : 0 = (if its = -1 then 0 else its) := by first | exact (if_pos (by omega)).symm | exact (if_neg (by omega)).symm
            have hx3 : x39 = wv := e_x39 ⟨by omega, by omega⟩
            have ha3 : x39 = (if dg = 1 then wv else 0) := by first | exact (if_neg (by omega)).symm | (rw [if_pos (by omega)]; first | exact hx3 | omega)
            have hc4 : (0 : Int) = 1 → cd.2.2 < 400 := fun z => (hlt (by rw [← hso]; omega)).2.1
            refine zp_call (pc := 99) (how := 0) (idx := 331) (mi := 226) (S := []) hx hb hE hw heff hrm (zY_lf hW B ln tk nl od pi cd) rfl (j := 28) rfl rfl (by decide +kernel) (zd_X12_readPart (99, .invokevirtual 331, 3, 0, []) (List.mem_of_getElem? (i := 53) rfl)) [(a : Int), 0, 0, x39] rfl ⟨zp_o2 hp, zp_o0 (by omega) (by omega) (by omega) (by omega), zp_o0 (by omega) (by omega) (by omega) (by omega), zp_o0 (by omega) (by omega) (by omega) (by omega), trivial⟩ (Nat.le_of_ble_eq_true rfl) ⟨hD, hc4, by omega⟩ (fun al hal rnl Pl Gl hextl hfrl hokl hcsl hpsil => ?_)
            obtain rfl := List.mem_singleton.mp hal
            obtain ⟨rfl, htl⟩ := hpsil
            have htl : (¬ ((0 : Int) = 1 ∧ nl < 50) → zD a Gl 1 B ln tk nl od pi cd ∧ Gl a 18 = (zy_fr B ln tk : Int)) ∧ ((0 : Int) = 1 ∧ nl < 50 → zD a Gl 0 B ln (zy_to B ln tk) (nl + 1) od pi (yu cd.1 cd.2.2 0, yu cd.2.1 cd.2.2 x39, cd.2.2 + 1)) := htl
            refine h102 its dg Gl h0 hits hdg (zDw_fr hw0 hp hfrl rfl) ?_
            by_cases hok2 : (0 : Int) = 1 ∧ nl < 50
            · exact Or.inr ⟨by rw [← ha2, ← ha3]; exact htl.2 hok2, hok2.2, by omega⟩
            · exact Or.inl ⟨(htl.1 hok2).1, (htl.1 hok2).2, by omega⟩
      · refine zp_const (pc := 71) hx hb (zd_X12_readPart (71, .iconst 1, 1, 0, []) (List.mem_of_getElem? (i := 37) rfl)) rfl rfl ?_
        refine zp_goto (tgt := 76) (pc := 72) hx hb (zd_X12_readPart (72, .goto 4, 3, 0, []) (List.mem_of_getElem? (i := 38) rfl)) rfl ?_
        refine zp_load (pc := 76) hx hb (zd_X12_readPart (76, .iload_n 1, 1, 0, []) (List.mem_of_getElem? (i := 40) rfl)) rfl (j := 1) rfl ?_
        refine zp_const (pc := 77) hx hb (zd_X12_readPart (77, .iconst (-1), 1, 0, []) (List.mem_of_getElem? (i := 41) rfl)) rfl rfl ?_
        refine zp_icmp (pc := 78) (tgt := 85) hx hb (zd_X12_readPart (78, .if_icmp .ne 7, 3, 0, []) (List.mem_of_getElem? (i := 42) rfl)) rfl (fun (hcq40 : ¬ its = (-1)) => ?_) (fun (hcq40 : ¬ (¬ its = (-1))) => ?_)
        · refine zp_load (pc := 85) hx hb (zd_X12_readPart (85, .iload_n 1, 1, 0, []) (List.mem_of_getElem? (i := 45) rfl)) rfl (j := 1) rfl ?_
          refine zp_load (pc := 86) hx hb (zd_X12_readPart (86, .iload_n 2, 1, 0, []) (List.mem_of_getElem? (i := 46) rfl)) rfl (j := 0) rfl ?_
          refine zp_if (pc := 87) (tgt := 98) hx hb (zd_X12_readPart (87, .ifCond .eq 11, 3, 0, []) (List.mem_of_getElem? (i := 47) rfl)) rfl (fun (hcq41 : dg = 0) => ?_) (fun (hcq41 : ¬ (dg = 0)) => ?_)
          · refine zp_const (pc := 98) hx hb (zd_X12_readPart (98, .iconst 0, 1, 0, []) (List.mem_of_getElem? (i := 52) rfl)) rfl rfl ?_
            have ha2 : its = (if its = -1 then 0 else its) := by first | exact (if_pos (by omega)).symm | exact (if_neg (by omega)).symm
            have ha3 : 0 = (if dg = 1 then wv else 0) := by first | exact (if_neg (by omega)).symm | (rw [if_pos (by omega)]; first | exact hx3 | omega)
            have hc4 : (1 : Int) = 1 → cd.2.2 < 400 := fun z => (hlt (by rw [← hso]; omega)).2.1
            refine zp_call (pc := 99) (how := 0) (idx := 331) (mi := 226) (S := []) hx hb hE hw heff hrm (zY_lf hW B ln tk nl od pi cd) rfl (j := 28) rfl rfl (by decide +kernel) (zd_X12_readPart (99, .invokevirtual 331, 3, 0, []) (List.mem_of_getElem? (i := 53) rfl)) [(a : Int), 1, its, 0] rfl ⟨zp_o2 hp, zp_o0 (by omega) (by omega) (by omega) (by omega), zp_o0 (by omega) (by omega) (by omega) (by omega), zp_o0 (by omega) (by omega) (by omega) (by omega), trivial⟩ (Nat.le_of_ble_eq_true rfl) ⟨hD, hc4, by omega⟩ (fun al hal rnl Pl Gl hextl hfrl hokl hcsl hpsil => ?_)
            obtain rfl := List.mem_singleton.mp hal
            obtain ⟨rfl, htl⟩ := hpsil
            have htl : (¬ ((1 : Int) = 1 ∧ nl < 50) → zD a Gl 1 B ln tk nl od pi cd ∧ Gl a 18 = (zy_fr B ln tk : Int)) ∧ ((1 : Int) = 1 ∧ nl < 50 → zD a Gl 0 B ln (zy_to B ln tk) (nl + 1) od pi (yu cd.1 cd.2.2 its, yu cd.2.1 cd.2.2 0, cd.2.2 + 1)) := htl
            refine h102 its dg Gl h0 hits hdg (zDw_fr hw0 hp hfrl rfl) ?_
            by_cases hok2 : (1 : Int) = 1 ∧ nl < 50
            · exact Or.inr ⟨by rw [← ha2, ← ha3]; exact htl.2 hok2, hok2.2, by omega⟩
            · exact Or.inl ⟨(htl.1 hok2).1, (htl.1 hok2).2, by omega⟩
          · refine zp_load (pc := 90) hx hb (zd_X12_readPart (90, .aload_n 0, 1, 0, []) (List.mem_of_getElem? (i := 48) rfl)) rfl (j := 2) rfl ?_
            refine zp_getf (n := wv) (pc := 91) hx hb hE hw (zd_X12_readPart (91, .getfield 250, 3, 0, []) (List.mem_of_getElem? (i := 49) rfl)) (j := 35) rfl rfl rfl hp d17 ?_
            refine zp_l2i (pc := 94) hx hb (zd_X12_readPart (94, .l2i, 1, 0, []) (List.mem_of_getElem? (i := 50) rfl)) (fun x42 r_x42 e_x42 => ?_)
            have i_x42 := zp_rg0 r_x42
            refine zp_goto (tgt := 99) (pc := 95) hx hb (zd_X12_readPart (95, .goto 4, 3, 0, []) (List.mem_of_getElem? (i := 51) rfl)) rfl ?_
            have ha2 : its = (if its = -1 then 0 else its) := by first | exact (if_pos (by omega)).symm | exact (if_neg (by omega)).symm
            have hx3 : x42 = wv := e_x42 ⟨by omega, by omega⟩
            have ha3 : x42 = (if dg = 1 then wv else 0) := by first | exact (if_neg (by omega)).symm | (rw [if_pos (by omega)]; first | exact hx3 | omega)
            have hc4 : (1 : Int) = 1 → cd.2.2 < 400 := fun z => (hlt (by rw [← hso]; omega)).2.1
            refine zp_call (pc := 99) (how := 0) (idx := 331) (mi := 226) (S := []) hx hb hE hw heff hrm (zY_lf hW B ln tk nl od pi cd) rfl (j := 28) rfl rfl (by decide +kernel) (zd_X12_readPart (99, .invokevirtual 331, 3, 0, []) (List.mem_of_getElem? (i := 53) rfl)) [(a : Int), 1, its, x42] rfl ⟨zp_o2 hp, zp_o0 (by omega) (by omega) (by omega) (by omega), zp_o0 (by omega) (by omega) (by omega) (by omega), zp_o0 (by omega) (by omega) (by omega) (by omega), trivial⟩ (Nat.le_of_ble_eq_true rfl) ⟨hD, hc4, by omega⟩ (fun al hal rnl Pl Gl hextl hfrl hokl hcsl hpsil => ?_)
            obtain rfl := List.mem_singleton.mp hal
            obtain ⟨rfl, htl⟩ := hpsil
            have htl : (¬ ((1 : Int) = 1 ∧ nl < 50) → zD a Gl 1 B ln tk nl od pi cd ∧ Gl a 18 = (zy_fr B ln tk : Int)) ∧ ((1 : Int) = 1 ∧ nl < 50 → zD a Gl 0 B ln (zy_to B ln tk) (nl + 1) od pi (yu cd.1 cd.2.2 its, yu cd.2.1 cd.2.2 x42, cd.2.2 + 1)) := htl
            refine h102 its dg Gl h0 hits hdg (zDw_fr hw0 hp hfrl rfl) ?_
            by_cases hok2 : (1 : Int) = 1 ∧ nl < 50
            · exact Or.inr ⟨by rw [← ha2, ← ha3]; exact htl.2 hok2, hok2.2, by omega⟩
            · exact Or.inl ⟨(htl.1 hok2).1, (htl.1 hok2).2, by omega⟩
        · refine zp_const (pc := 81) hx hb (zd_X12_readPart (81, .iconst 0, 1, 0, []) (List.mem_of_getElem? (i := 43) rfl)) rfl rfl ?_
          refine zp_goto (tgt := 86) (pc := 82) hx hb (zd_X12_readPart (82, .goto 4, 3, 0, []) (List.mem_of_getElem? (i := 44) rfl)) rfl ?_
          refine zp_load (pc := 86) hx hb (zd_X12_readPart (86, .iload_n 2, 1, 0, []) (List.mem_of_getElem? (i := 46) rfl)) rfl (j := 0) rfl ?_
          refine zp_if (pc := 87) (tgt := 98) hx hb (zd_X12_readPart (87, .ifCond .eq 11, 3, 0, []) (List.mem_of_getElem? (i := 47) rfl)) rfl (fun (hcq43 : dg = 0) => ?_) (fun (hcq43 : ¬ (dg = 0)) => ?_)
          · refine zp_const (pc := 98) hx hb (zd_X12_readPart (98, .iconst 0, 1, 0, []) (List.mem_of_getElem? (i := 52) rfl)) rfl rfl ?_
            have ha2 : 0 = (if its = -1 then 0 else its) := by first | exact (if_pos (by omega)).symm | exact (if_neg (by omega)).symm
            have ha3 : 0 = (if dg = 1 then wv else 0) := by first | exact (if_neg (by omega)).symm | (rw [if_pos (by omega)]; first | exact hx3 | omega)
            have hc4 : (1 : Int) = 1 → cd.2.2 < 400 := fun z => (hlt (by rw [← hso]; omega)).2.1
            refine zp_call (pc := 99) (how := 0) (idx := 331) (mi := 226) (S := []) hx hb hE hw heff hrm (zY_lf hW B ln tk nl od pi cd) rfl (j := 28) rfl rfl (by decide +kernel) (zd_X12_readPart (99, .invokevirtual 331, 3, 0, []) (List.mem_of_getElem? (i := 53) rfl)) [(a : Int), 1, 0, 0] rfl ⟨zp_o2 hp, zp_o0 (by omega) (by omega) (by omega) (by omega), zp_o0 (by omega) (by omega) (by omega) (by omega), zp_o0 (by omega) (by omega) (by omega) (by omega), trivial⟩ (Nat.le_of_ble_eq_true rfl) ⟨hD, hc4, by omega⟩ (fun al hal rnl Pl Gl hextl hfrl hokl hcsl hpsil => ?_)
            obtain rfl := List.mem_singleton.mp hal
            obtain ⟨rfl, htl⟩ := hpsil
            have htl : (¬ ((1 : Int) = 1 ∧ nl < 50) → zD a Gl 1 B ln tk nl od pi cd ∧ Gl a 18 = (zy_fr B ln tk : Int)) ∧ ((1 : Int) = 1 ∧ nl < 50 → zD a Gl 0 B ln (zy_to B ln tk) (nl + 1) od pi (yu cd.1 cd.2.2 0, yu cd.2.1 cd.2.2 0, cd.2.2 + 1)) := htl
            refine h102 its dg Gl h0 hits hdg (zDw_fr hw0 hp hfrl rfl) ?_
            by_cases hok2 : (1 : Int) = 1 ∧ nl < 50
            · exact Or.inr ⟨by rw [← ha2, ← ha3]; exact htl.2 hok2, hok2.2, by omega⟩
            · exact Or.inl ⟨(htl.1 hok2).1, (htl.1 hok2).2, by omega⟩
          · refine zp_load (pc := 90) hx hb (zd_X12_readPart (90, .aload_n 0, 1, 0, []) (List.mem_of_getElem? (i := 48) rfl)) rfl (j := 2) rfl ?_
            refine zp_getf (n := wv) (pc := 91) hx hb hE hw (zd_X12_readPart (91, .getfield 250, 3, 0, []) (List.mem_of_getElem? (i := 49) rfl)) (j := 35) rfl rfl rfl hp d17 ?_
            refine zp_l2i (pc := 94) hx hb (zd_X12_readPart (94, .l2i, 1, 0, []) (List.mem_of_getElem? (i := 50) rfl)) (fun x44 r_x44 e_x44 => ?_)
            have i_x44 := zp_rg0 r_x44
            refine zp_goto (tgt := 99) (pc := 95) hx hb (zd_X12_readPart (95, .goto 4, 3, 0, []) (List.mem_of_getElem? (i := 51) rfl)) rfl ?_
            have ha2 : 0 = (if its = -1 then 0 else its) := by first | exact (if_pos (by omega)).symm | exact (if_neg (by omega)).symm
            have hx3 : x44 = wv := e_x44 ⟨by omega, by omega⟩
            have ha3 : x44 = (if dg = 1 then wv else 0) := by first | exact (if_neg (by omega)).symm | (rw [if_pos (by omega)]; first | exact hx3 | omega)
            have hc4 : (1 : Int) = 1 → cd.2.2 < 400 := fun z => (hlt (by rw [← hso]; omega)).2.1
            refine zp_call (pc := 99) (how := 0) (idx := 331) (mi := 226) (S := []) hx hb hE hw heff hrm (zY_lf hW B ln tk nl od pi cd) rfl (j := 28) rfl rfl (by decide +kernel) (zd_X12_readPart (99, .invokevirtual 331, 3, 0, []) (List.mem_of_getElem? (i := 53) rfl)) [(a : Int), 1, 0, x44] rfl ⟨zp_o2 hp, zp_o0 (by omega) (by omega) (by omega) (by omega), zp_o0 (by omega) (by omega) (by omega) (by omega), zp_o0 (by omega) (by omega) (by omega) (by omega), trivial⟩ (Nat.le_of_ble_eq_true rfl) ⟨hD, hc4, by omega⟩ (fun al hal rnl Pl Gl hextl hfrl hokl hcsl hpsil => ?_)
            obtain rfl := List.mem_singleton.mp hal
            obtain ⟨rfl, htl⟩ := hpsil
            have htl : (¬ ((1 : Int) = 1 ∧ nl < 50) → zD a Gl 1 B ln tk nl od pi cd ∧ Gl a 18 = (zy_fr B ln tk : Int)) ∧ ((1 : Int) = 1 ∧ nl < 50 → zD a Gl 0 B ln (zy_to B ln tk) (nl + 1) od pi (yu cd.1 cd.2.2 0, yu cd.2.1 cd.2.2 x44, cd.2.2 + 1)) := htl
            refine h102 its dg Gl h0 hits hdg (zDw_fr hw0 hp hfrl rfl) ?_
            by_cases hok2 : (1 : Int) = 1 ∧ nl < 50
            · exact Or.inr ⟨by rw [← ha2, ← ha3]; exact htl.2 hok2, hok2.2, by omega⟩
            · exact Or.inl ⟨(htl.1 hok2).1, (htl.1 hok2).2, by omega⟩
  have h35 : ∀ (its : Int), ¬ (so = 3 ∧ wv = 91) → its = ylw ord B ln tk → zp_J p l e R s m args below meth c Q w u [] 35 [(0, 2, (a : Int))] [(0, its)] u.1 (zp_n u.2.1) := by
    clear h102
    intro its h0 hits
    refine zp_store (L' := [(1, 0, its), (0, 2, (a : Int))]) (pc := 35) hx hb hnL (zd_X12_readPart (35, .istore_n 1, 1, 0, []) (List.mem_of_getElem? (i := 17) rfl)) rfl rfl rfl ?_
    refine zp_load (pc := 36) hx hb (zd_X12_readPart (36, .aload_n 0, 1, 0, []) (List.mem_of_getElem? (i := 18) rfl)) rfl (j := 1) rfl ?_
    refine zp_getf (n := (so : Int)) (pc := 37) hx hb hE hw (zd_X12_readPart (37, .getfield 260, 3, 0, []) (List.mem_of_getElem? (i := 19) rfl)) (j := 34) rfl rfl rfl hp d16 ?_
    refine zp_const (pc := 40) hx hb (zd_X12_readPart (40, .iconst 2, 1, 0, []) (List.mem_of_getElem? (i := 20) rfl)) rfl rfl ?_
    refine zp_icmp (pc := 41) (tgt := 59) hx hb (zd_X12_readPart (41, .if_icmp .ne 18, 3, 0, []) (List.mem_of_getElem? (i := 21) rfl)) rfl (fun (hcq45 : ¬ (so : Int) = 2) => ?_) (fun (hcq45 : ¬ (¬ (so : Int) = 2)) => ?_)
    · refine zp_const (pc := 59) hx hb (zd_X12_readPart (59, .iconst 0, 1, 0, []) (List.mem_of_getElem? (i := 29) rfl)) rfl rfl ?_
      refine zp_store (L' := [(2, 0, 0), (1, 0, its), (0, 2, (a : Int))]) (pc := 60) hx hb hnL (zd_X12_readPart (60, .istore_n 2, 1, 0, []) (List.mem_of_getElem? (i := 30) rfl)) rfl rfl rfl ?_
      exact h61 its 0 h0 hits (by omega) (by omega)
    · refine zp_load (pc := 44) hx hb (zd_X12_readPart (44, .aload_n 0, 1, 0, []) (List.mem_of_getElem? (i := 22) rfl)) rfl (j := 1) rfl ?_
      refine zp_getf (n := wv) (pc := 45) hx hb hE hw (zd_X12_readPart (45, .getfield 250, 3, 0, []) (List.mem_of_getElem? (i := 23) rfl)) (j := 35) rfl rfl rfl hp d17 ?_
      refine zp_ldc2 (pc := 48) hx hb hE (zd_X12_readPart (48, .ldc2_w 329, 3, 0, []) (List.mem_of_getElem? (i := 24) rfl)) (j := 97) rfl ?_
      refine zp_lcmp (pc := 51) (tgt := 59) hx hb (zd_X12_readPart (51, .lcmp, 1, 0, []) (List.mem_of_getElem? (i := 25) rfl)) (zd_X12_readPart (52, .ifCond .gt 7, 3, 0, []) (List.mem_of_getElem? (i := 26) rfl)) rfl (fun (hcq46 : 1000 < wv) => ?_) (fun (hcq46 : ¬ (1000 < wv)) => ?_)
      · refine zp_const (pc := 59) hx hb (zd_X12_readPart (59, .iconst 0, 1, 0, []) (List.mem_of_getElem? (i := 29) rfl)) rfl rfl ?_
        refine zp_store (L' := [(2, 0, 0), (1, 0, its), (0, 2, (a : Int))]) (pc := 60) hx hb hnL (zd_X12_readPart (60, .istore_n 2, 1, 0, []) (List.mem_of_getElem? (i := 30) rfl)) rfl rfl rfl ?_
        exact h61 its 0 h0 hits (by omega) (by omega)
      · refine zp_const (pc := 55) hx hb (zd_X12_readPart (55, .iconst 1, 1, 0, []) (List.mem_of_getElem? (i := 27) rfl)) rfl rfl ?_
        refine zp_goto (tgt := 60) (pc := 56) hx hb (zd_X12_readPart (56, .goto 4, 3, 0, []) (List.mem_of_getElem? (i := 28) rfl)) rfl ?_
        refine zp_store (L' := [(2, 0, 1), (1, 0, its), (0, 2, (a : Int))]) (pc := 60) hx hb hnL (zd_X12_readPart (60, .istore_n 2, 1, 0, []) (List.mem_of_getElem? (i := 30) rfl)) rfl rfl rfl ?_
        exact h61 its 1 h0 hits (by omega) (by omega)
  refine zp_load (pc := 0) hx hb (zd_X12_readPart (0, .aload_n 0, 1, 0, []) (List.mem_of_getElem? (i := 0) rfl)) rfl (j := 0) rfl ?_
  refine zp_const (pc := 1) hx hb (zd_X12_readPart (1, .bipush 91, 2, 0, []) (List.mem_of_getElem? (i := 1) rfl)) rfl rfl ?_
  refine zp_call (pc := 3) (how := 0) (idx := 313) (mi := 221) (S := []) hx hb hE hw heff hrm (zY_si hW) rfl (j := 23) rfl rfl (by decide +kernel) (zd_X12_readPart (3, .invokevirtual 313, 3, 0, []) (List.mem_of_getElem? (i := 2) rfl)) [(a : Int), 91] rfl ⟨zp_o2 hp, zp_o0 (by decide) (by decide) (by decide) (by decide), trivial⟩ (Nat.le_of_ble_eq_true rfl) trivial (fun al hal rns Ps Gs hexts hfrs hoks hcss hpsis => ?_)
  obtain rfl := List.mem_singleton.mp hal
  have hrs := zp_int (hoks _ rfl).1
  obtain ⟨hPes, hGes, hts⟩ := hpsis
  rw [hPes, hGes]
  have hts : rns = 1 ↔ zp_n u.2.1 a 16 = 3 ∧ zp_n u.2.1 a 17 = 91 := hts
  rw [d16, d17] at hts
  refine zp_if (pc := 6) (tgt := 17) hx hb (zd_X12_readPart (6, .ifCond .eq 11, 3, 0, []) (List.mem_of_getElem? (i := 3) rfl)) rfl (fun (hcq47 : rns = 0) => ?_) (fun (hcq47 : ¬ (rns = 0)) => ?_)
  · refine zp_load (pc := 17) hx hb (zd_X12_readPart (17, .aload_n 0, 1, 0, []) (List.mem_of_getElem? (i := 9) rfl)) rfl (j := 0) rfl ?_
    refine zp_getf (n := ((zp_n u.2.1) a 20)) (pc := 18) hx hb hE hw (zd_X12_readPart (18, .getfield 319, 3, 0, []) (List.mem_of_getElem? (i := 10) rfl)) (j := 38) rfl rfl rfl hp rfl ?_
    refine zp_if (pc := 21) (tgt := 31) hx hb (zd_X12_readPart (21, .ifCond .eq 10, 3, 0, []) (List.mem_of_getElem? (i := 11) rfl)) rfl (fun (hcq48 : ((zp_n u.2.1) a 20) = 0) => ?_) (fun (hcq48 : ¬ (((zp_n u.2.1) a 20) = 0)) => ?_)
    · refine zp_load (pc := 31) hx hb (zd_X12_readPart (31, .aload_n 0, 1, 0, []) (List.mem_of_getElem? (i := 15) rfl)) rfl (j := 0) rfl ?_
      refine zp_call (pc := 32) (how := 0) (idx := 326) (mi := 225) (S := []) hx hb hE hw heff hrm (zY_pt hW) rfl (j := 27) rfl rfl (by decide +kernel) (zd_X12_readPart (32, .invokevirtual 326, 3, 0, []) (List.mem_of_getElem? (i := 16) rfl)) [(a : Int)] rfl ⟨zp_o2 hp, trivial⟩ (Nat.le_of_ble_eq_true rfl) (zDw_31 hw0) (fun al hal rnt Pt Gt hextt hfrt hokt hcst hpsit => ?_)
      obtain rfl := List.mem_singleton.mp hal
      have hrt := zp_int (hokt _ rfl).1
      obtain ⟨hPet, hGet, htt⟩ := hpsit
      rw [hPet, hGet]
      have htt : rnt = if zp_n u.2.1 a 16 = 1 then ych ywd 1 (zp_n u.2.1 a 17) else -1 := htt
      rw [d16, d17] at htt
      have hot : ord = false := by
        rcases hw20 with ⟨y1, y2⟩ | ⟨y1, y2⟩
        · exfalso; omega
        · exact y2
      have hyl : rnt = ylw ord B ln tk := by
        rw [htt, hot]
        unfold ylw
        rw [← hso, ← hwv]
        by_cases z : so = 1
        · rw [if_pos (by omega), if_pos z]
          rfl
        · rw [if_neg (by omega), if_neg z]
      exact h35 rnt (by omega) hyl
    · refine zp_load (pc := 24) hx hb (zd_X12_readPart (24, .aload_n 0, 1, 0, []) (List.mem_of_getElem? (i := 12) rfl)) rfl (j := 0) rfl ?_
      refine zp_call (pc := 25) (how := 0) (idx := 322) (mi := 224) (S := []) hx hb hE hw heff hrm (zY_ot hW) rfl (j := 26) rfl rfl (by decide +kernel) (zd_X12_readPart (25, .invokevirtual 322, 3, 0, []) (List.mem_of_getElem? (i := 13) rfl)) [(a : Int)] rfl ⟨zp_o2 hp, trivial⟩ (Nat.le_of_ble_eq_true rfl) (zDw_32 hw0) (fun al hal rnt Pt Gt hextt hfrt hokt hcst hpsit => ?_)
      obtain rfl := List.mem_singleton.mp hal
      have hrt := zp_int (hokt _ rfl).1
      obtain ⟨hPet, hGet, htt⟩ := hpsit
      rw [hPet, hGet]
      have htt : rnt = if zp_n u.2.1 a 16 = 1 then ych ywo 1 (zp_n u.2.1 a 17) else -1 := htt
      rw [d16, d17] at htt
      have hot : ord = true := by
        rcases hw20 with ⟨y1, y2⟩ | ⟨y1, y2⟩
        · exact y2
        · exfalso; omega
      have hyl : rnt = ylw ord B ln tk := by
        rw [htt, hot]
        unfold ylw
        rw [← hso, ← hwv]
        by_cases z : so = 1
        · rw [if_pos (by omega), if_pos z]
          rfl
        · rw [if_neg (by omega), if_neg z]
      refine zp_goto (tgt := 35) (pc := 28) hx hb (zd_X12_readPart (28, .goto 7, 3, 0, []) (List.mem_of_getElem? (i := 14) rfl)) rfl ?_
      exact h35 rnt (by omega) hyl
  · refine zp_load (pc := 9) hx hb (zd_X12_readPart (9, .aload_n 0, 1, 0, []) (List.mem_of_getElem? (i := 4) rfl)) rfl (j := 0) rfl ?_
    refine zp_const (pc := 10) hx hb (zd_X12_readPart (10, .bipush 32, 2, 0, []) (List.mem_of_getElem? (i := 5) rfl)) rfl rfl ?_
    have hs3 : zy_so B ln tk ≠ 0 := by rw [← hso]; omega
    refine zp_call (pc := 12) (how := 0) (idx := 316) (mi := 222) (S := []) hx hb hE hw heff hrm (zY_ob hW B ln tk nl od pi cd) rfl (j := 24) rfl rfl (by decide +kernel) (zd_X12_readPart (12, .invokevirtual 316, 3, 0, []) (List.mem_of_getElem? (i := 6) rfl)) [(a : Int), 32] rfl ⟨zp_o2 hp, zp_o0 (by decide) (by decide) (by decide) (by decide), trivial⟩ (Nat.le_of_ble_eq_true rfl) ⟨hD, (hlt hs3).1⟩ (fun al hal rno Po Go hexto hfro hoko hcso hpsio => ?_)
    obtain rfl := List.mem_singleton.mp hal
    obtain ⟨rfl, hto⟩ := hpsio
    refine zp_const (pc := 15) hx hb (zd_X12_readPart (15, .iconst 1, 1, 0, []) (List.mem_of_getElem? (i := 7) rfl)) rfl rfl ?_
    refine zp_iret (pc := 16) (n := 1) hx hb hE hQ hU5 rfl (by decide) (zd_X12_readPart (16, .ireturn, 1, 0, []) (List.mem_of_getElem? (i := 8) rfl)) (j := 0) rfl (zp_o0 (by omega) (by omega) (by omega) (by omega)) ?_
    rw [hps]
    refine ⟨rfl, ?_⟩
    show zDr a Go B ln 1 (ym_rp (zy_so B ln) (zy_wo B ln) (zy_to B ln) (ylf ord B ln) tk nl od pi cd)
    unfold ym_rp
    rw [if_pos (yr_s_i.mpr ⟨by rw [← hso]; omega, by rw [← hwv]; omega⟩)]
    by_cases h8 : 8 ≤ od
    · rw [if_pos h8]
      obtain ⟨y1, y2⟩ := hto.1 h8
      exact ⟨⟨_, _, _, _, _, y1, zDj_le (F := zy_fr B ln tk) hI.1 (by have := zy_fr_le (B := B) dt; omega)⟩, y2⟩
    · rw [if_neg h8]
      exact ⟨rfl, hto.2 (by omega)⟩
noncomputable def zφD_rl (ord : Bool) (B : Nat → Int) (ln tk nl od : Nat) (pi : List (Int × Int)) (cd : yC) : (Nat → Option Nat) → (Nat → Nat → Int) → List Int → Prop := fun P G ps => zD (zp_0 ps) G 0 B ln tk nl od pi cd ∧ zDI B ln (0, tk, nl, od, pi, cd) ∧ zDw P ord (zp_0 ps) G
noncomputable def zψD_rl (ord : Bool) (B : Nat → Int) (ln tk nl od : Nat) (pi : List (Int × Int)) (cd : yC) : (Nat → Option Nat) → (Nat → Nat → Int) → List Int → (Nat → Option Nat) → (Nat → Nat → Int) → Int → Prop := fun P G ps P' G' rn => P' = P ∧ zDr (zp_0 ps) G' B ln rn (ym_rl (zy_so B ln) (zy_wo B ln) (zy_to B ln) (ylf ord B ln) tk nl od pi cd)
set_option maxHeartbeats 8000000 in
theorem zY_rl {l : Launch} {w : zk_W} (hW : zh_W w) (ord : Bool) (B : Nat → Int) (ln tk nl od : Nat) (pi : List (Int × Int)) (cd : yC) : zk_metX l w zt_dv zt_TB zK_rl (zp_A (zφD_rl ord B ln tk nl od pi cd)) (zp_B (zψD_rl ord B ln tk nl od pi cd)) ∧ zk_cok w zt_TB zK_rl := by
  refine zp_meth hW (pl := 1716) rfl (by decide +kernel) (fun p e R s m args below meth c Q u hx hb hE hQ hU5 heff hnL hok hφ => ?_)
  have hw := hW.1
  obtain ⟨p0, hps, k0⟩ := zp_ps1 hok
  obtain ⟨a, rfl, hp⟩ := zp_this k0
  have hrm : zk_Kr (zk_ev (zp_E zK_rl)) = zk_Kr zK_rl := rfl
  rw [hps] at hφ ⊢
  have hφ : zD a (zp_n u.2.1) 0 B ln tk nl od pi cd ∧ zDI B ln (0, tk, nl, od, pi, cd) ∧ zDw u.1 ord a (zp_n u.2.1) := hφ
  obtain ⟨hD, hI, hw0⟩ := hφ
  have hD2 := hD
  obtain ⟨⟨d13, dl, dt, d12, dB⟩, ⟨d14, d15, d16, d17⟩, ⟨d19, d18⟩, ⟨d23, d24, d25⟩, d26, ⟨d29, dp⟩, d30⟩ := hD2
  have hlt := fun z => zDI_lt hI dl z
  show zp_J p l e R s m args below meth c Q w u [] 0 [(0, 2, (a : Int))] [] u.1 (zp_n u.2.1)
  obtain ⟨so, hso⟩ : ∃ x : Nat, x = zy_so B ln tk := ⟨_, rfl⟩
  rw [← hso] at d16
  obtain ⟨wv, hwv⟩ : ∃ x : Int, x = zy_wo B ln tk := ⟨_, rfl⟩
  rw [← hwv] at d17
  refine zp_load (pc := 0) hx hb (zd_X12_readPlain (0, .aload_n 0, 1, 0, []) (List.mem_of_getElem? (i := 0) rfl)) rfl (j := 0) rfl ?_
  refine zp_ldc2 (pc := 1) hx hb hE (zd_X12_readPlain (1, .ldc2_w 339, 3, 0, []) (List.mem_of_getElem? (i := 1) rfl)) (j := 96) rfl ?_
  refine zp_call (pc := 4) (how := 0) (idx := 300) (mi := 216) (S := []) hx hb hE hw heff hrm (zY_wo hW) rfl (j := 18) rfl rfl (by decide +kernel) (zd_X12_readPlain (4, .invokevirtual 300, 3, 0, []) (List.mem_of_getElem? (i := 2) rfl)) [(a : Int), 14836] rfl ⟨zp_o2 hp, zp_o1 ⟨by decide, by decide⟩, trivial⟩ (Nat.le_of_ble_eq_true rfl) trivial (fun al hal rnw Pw Gw hextw hfrw hokw hcsw hpsiw => ?_)
  obtain rfl := List.mem_singleton.mp hal
  have hrw := zp_int (hokw _ rfl).1
  obtain ⟨hPew, hGew, htw⟩ := hpsiw
  rw [hPew, hGew]
  have htw : rnw = 1 ↔ zp_n u.2.1 a 16 = 1 ∧ zp_n u.2.1 a 17 = 14836 := htw
  rw [d16, d17] at htw
  refine zp_if (pc := 7) (tgt := 23) hx hb (zd_X12_readPlain (7, .ifCond .eq 16, 3, 0, []) (List.mem_of_getElem? (i := 3) rfl)) rfl (fun (hcq49 : rnw = 0) => ?_) (fun (hcq49 : ¬ (rnw = 0)) => ?_)
  · refine zp_load (pc := 23) hx hb (zd_X12_readPlain (23, .aload_n 0, 1, 0, []) (List.mem_of_getElem? (i := 12) rfl)) rfl (j := 0) rfl ?_
    refine zp_const (pc := 24) hx hb (zd_X12_readPlain (24, .bipush 40, 2, 0, []) (List.mem_of_getElem? (i := 13) rfl)) rfl rfl ?_
    refine zp_call (pc := 26) (how := 0) (idx := 313) (mi := 221) (S := []) hx hb hE hw heff hrm (zY_si hW) rfl (j := 23) rfl rfl (by decide +kernel) (zd_X12_readPlain (26, .invokevirtual 313, 3, 0, []) (List.mem_of_getElem? (i := 14) rfl)) [(a : Int), 40] rfl ⟨zp_o2 hp, zp_o0 (by decide) (by decide) (by decide) (by decide), trivial⟩ (Nat.le_of_ble_eq_true rfl) trivial (fun al hal rns Ps Gs hexts hfrs hoks hcss hpsis => ?_)
    obtain rfl := List.mem_singleton.mp hal
    have hrs := zp_int (hoks _ rfl).1
    obtain ⟨hPes, hGes, hts⟩ := hpsis
    rw [hPes, hGes]
    have hts : rns = 1 ↔ zp_n u.2.1 a 16 = 3 ∧ zp_n u.2.1 a 17 = 40 := hts
    rw [d16, d17] at hts
    refine zp_if (pc := 29) (tgt := 40) hx hb (zd_X12_readPlain (29, .ifCond .eq 11, 3, 0, []) (List.mem_of_getElem? (i := 15) rfl)) rfl (fun (hcq50 : rns = 0) => ?_) (fun (hcq50 : ¬ (rns = 0)) => ?_)
    · refine zp_load (pc := 40) hx hb (zd_X12_readPlain (40, .aload_n 0, 1, 0, []) (List.mem_of_getElem? (i := 21) rfl)) rfl (j := 0) rfl ?_
      refine zp_call (pc := 41) (how := 0) (idx := 341) (mi := 223) (S := []) hx hb hE hw heff hrm (zY_rp hW ord B ln tk nl od pi cd) rfl (j := 25) rfl rfl (by decide +kernel) (zd_X12_readPlain (41, .invokevirtual 341, 3, 0, []) (List.mem_of_getElem? (i := 22) rfl)) [(a : Int)] rfl ⟨zp_o2 hp, trivial⟩ (Nat.le_of_ble_eq_true rfl) ⟨hD, ⟨0, hI⟩, hw0⟩ (fun al hal rnr Pr Gr hextr hfrr hokr hcsr hpsir => ?_)
      obtain rfl := List.mem_singleton.mp hal
      have hrr := zp_int (hokr _ rfl).1
      obtain ⟨rfl, htr⟩ := hpsir
      refine zp_iret (pc := 44) (n := rnr) hx hb hE hQ hU5 rfl (by decide) (zd_X12_readPlain (44, .ireturn, 1, 0, []) (List.mem_of_getElem? (i := 23) rfl)) (j := 0) rfl (zp_o0 (by omega) (by omega) (by omega) (by omega)) ?_
      rw [hps]
      refine ⟨rfl, ?_⟩
      show zDr a Gr B ln rnr (ym_rl (zy_so B ln) (zy_wo B ln) (zy_to B ln) (ylf ord B ln) tk nl od pi cd)
      have c0 : ¬ yr_w (zy_so B ln) (zy_wo B ln) 14836 tk = true := fun z => by have := yr_w_i.mp z; omega
      unfold ym_rl
      rw [if_neg c0, if_neg (fun z => by have := yr_s_i.mp z; omega)]
      exact htr
    · refine zp_load (pc := 32) hx hb (zd_X12_readPlain (32, .aload_n 0, 1, 0, []) (List.mem_of_getElem? (i := 16) rfl)) rfl (j := 0) rfl ?_
      refine zp_const (pc := 33) hx hb (zd_X12_readPlain (33, .bipush 31, 2, 0, []) (List.mem_of_getElem? (i := 17) rfl)) rfl rfl ?_
      have hs3 : zy_so B ln tk ≠ 0 := by rw [← hso]; omega
      refine zp_call (pc := 35) (how := 0) (idx := 316) (mi := 222) (S := []) hx hb hE hw heff hrm (zY_ob hW B ln tk nl od pi cd) rfl (j := 24) rfl rfl (by decide +kernel) (zd_X12_readPlain (35, .invokevirtual 316, 3, 0, []) (List.mem_of_getElem? (i := 18) rfl)) [(a : Int), 31] rfl ⟨zp_o2 hp, zp_o0 (by decide) (by decide) (by decide) (by decide), trivial⟩ (Nat.le_of_ble_eq_true rfl) ⟨hD, (hlt hs3).1⟩ (fun al hal rno Po Go hexto hfro hoko hcso hpsio => ?_)
      obtain rfl := List.mem_singleton.mp hal
      obtain ⟨rfl, hto⟩ := hpsio
      refine zp_const (pc := 38) hx hb (zd_X12_readPlain (38, .iconst 0, 1, 0, []) (List.mem_of_getElem? (i := 19) rfl)) rfl rfl ?_
      refine zp_iret (pc := 39) (n := 0) hx hb hE hQ hU5 rfl (by decide) (zd_X12_readPlain (39, .ireturn, 1, 0, []) (List.mem_of_getElem? (i := 20) rfl)) (j := 0) rfl (zp_o0 (by omega) (by omega) (by omega) (by omega)) ?_
      rw [hps]
      refine ⟨rfl, ?_⟩
      show zDr a Go B ln 0 (ym_rl (zy_so B ln) (zy_wo B ln) (zy_to B ln) (ylf ord B ln) tk nl od pi cd)
      have c0 : ¬ yr_w (zy_so B ln) (zy_wo B ln) 14836 tk = true := fun z => by have := yr_w_i.mp z; omega
      unfold ym_rl
      rw [if_neg c0, if_pos (yr_s_i.mpr ⟨by omega, by omega⟩)]
      by_cases h8 : 8 ≤ od
      · rw [if_pos h8]
        obtain ⟨y1, y2⟩ := hto.1 h8
        exact ⟨⟨_, _, _, _, _, y1, zDj_le (F := zy_fr B ln tk) hI.1 (by have := zy_fr_le (B := B) dt; omega)⟩, y2⟩
      · rw [if_neg h8]
        exact ⟨rfl, hto.2 (by omega)⟩
  · refine zp_load (pc := 10) hx hb (zd_X12_readPlain (10, .aload_n 0, 1, 0, []) (List.mem_of_getElem? (i := 4) rfl)) rfl (j := 0) rfl ?_
    refine zp_const (pc := 11) hx hb (zd_X12_readPlain (11, .bipush 28, 2, 0, []) (List.mem_of_getElem? (i := 5) rfl)) rfl rfl ?_
    refine zp_const (pc := 13) hx hb (zd_X12_readPlain (13, .iconst 0, 1, 0, []) (List.mem_of_getElem? (i := 6) rfl)) rfl rfl ?_
    have hs3 : zy_so B ln tk ≠ 0 := by rw [← hso]; omega
    refine zp_call (pc := 14) (how := 0) (idx := 307) (mi := 220) (S := []) hx hb hE hw heff hrm (zY_pu hW 0 B ln tk nl od pi cd) rfl (j := 22) rfl rfl (by decide +kernel) (zd_X12_readPlain (14, .invokevirtual 307, 3, 0, []) (List.mem_of_getElem? (i := 7) rfl)) [(a : Int), 28, 0] rfl ⟨zp_o2 hp, zp_o0 (by decide) (by decide) (by decide) (by decide), zp_o0 (by decide) (by decide) (by decide) (by decide), trivial⟩ (Nat.le_of_ble_eq_true rfl) ⟨hD, (hlt hs3).1⟩ (fun al hal rnp Pp Gp hextp hfrp hokp hcsp hpsip => ?_)
    obtain rfl := List.mem_singleton.mp hal
    obtain ⟨rfl, htp⟩ := hpsip
    refine zp_load (pc := 17) hx hb (zd_X12_readPlain (17, .aload_n 0, 1, 0, []) (List.mem_of_getElem? (i := 8) rfl)) rfl (j := 0) rfl ?_
    refine zp_call (pc := 18) (how := 0) (idx := 244) (mi := 212) (S := []) hx hb hE hw heff hrm (zY_nx hW B ln (zy_to B ln tk)) rfl (j := 14) rfl rfl (by decide +kernel) (zd_X12_readPlain (18, .invokevirtual 244, 3, 0, []) (List.mem_of_getElem? (i := 9) rfl)) [(a : Int)] rfl ⟨zp_o2 hp, trivial⟩ (Nat.le_of_ble_eq_true rfl) (zD_y htp) (fun al hal rnn Pn Gn hextn hfrn hokn hcsn hpsin => ?_)
    obtain rfl := List.mem_singleton.mp hal
    obtain ⟨rfl, htn⟩ := hpsin
    have htn := zD_nx htp htn
    refine zp_const (pc := 21) hx hb (zd_X12_readPlain (21, .iconst 0, 1, 0, []) (List.mem_of_getElem? (i := 10) rfl)) rfl rfl ?_
    refine zp_iret (pc := 22) (n := 0) hx hb hE hQ hU5 rfl (by decide) (zd_X12_readPlain (22, .ireturn, 1, 0, []) (List.mem_of_getElem? (i := 11) rfl)) (j := 0) rfl (zp_o0 (by omega) (by omega) (by omega) (by omega)) ?_
    rw [hps]
    refine ⟨rfl, ?_⟩
    show zDr a Gn B ln 0 (ym_rl (zy_so B ln) (zy_wo B ln) (zy_to B ln) (ylf ord B ln) tk nl od pi cd)
    unfold ym_rl
    rw [if_pos (yr_w_i.mpr ⟨by omega, by omega⟩)]
    exact ⟨rfl, htn⟩
theorem zs_i0 {r : Int} {A : Prop} (h : r = 1 ↔ A) (z : r = 0) : ¬ A := fun a => by
  have h1 := h.mpr a
  rw [z] at h1
  exact absurd h1 (by decide)
theorem zs_i1 {r : Int} {A : Prop} (h : r = 1 ↔ A) (b : 0 ≤ r ∧ r ≤ 1) (z : ¬ (r = 0)) : A := h.mp (by omega)
noncomputable def zφD_bs (ord : Bool) (B : Nat → Int) (ln tk nl od : Nat) (pi : List (Int × Int)) (cd : yC) : (Nat → Option Nat) → (Nat → Nat → Int) → List Int → Prop := fun P G ps => zD (zp_0 ps) G 0 B ln tk nl od pi cd ∧ zDI B ln (3, tk, nl, od, pi, cd) ∧ zDw P ord (zp_0 ps) G
noncomputable def zψD_bs (ord : Bool) (B : Nat → Int) (ln tk nl od : Nat) (pi : List (Int × Int)) (cd : yC) : (Nat → Option Nat) → (Nat → Nat → Int) → List Int → (Nat → Option Nat) → (Nat → Nat → Int) → Int → Prop := fun P G ps P' G' rn => P' = P ∧ zDr (zp_0 ps) G' B ln rn (ym_bs (zy_so B ln) (zy_wo B ln) (zy_to B ln) (decide (ps.getD 1 0 = 1)) tk nl od pi cd)
set_option maxHeartbeats 8000000 in
theorem zY_bs {l : Launch} {w : zk_W} (hW : zh_W w) (ord : Bool) (B : Nat → Int) (ln tk nl od : Nat) (pi : List (Int × Int)) (cd : yC) : zk_metX l w zt_dv zt_TB zK_bs (zp_A (zφD_bs ord B ln tk nl od pi cd)) (zp_B (zψD_bs ord B ln tk nl od pi cd)) ∧ zk_cok w zt_TB zK_bs := by
  refine zp_meth hW (pl := 1758) rfl (by decide +kernel) (fun p e R s m args below meth c Q u hx hb hE hQ hU5 heff hnL hok hφ => ?_)
  have hw := hW.1
  obtain ⟨p0, p1, hps, k0, k1⟩ := zp_ps2 hok
  obtain ⟨a, rfl, hp⟩ := zp_this k0
  have hrm : zk_Kr (zk_ev (zp_E zK_bs)) = zk_Kr zK_bs := rfl
  rw [hps] at hφ ⊢
  have hi1 := zp_int k1
  have hφ : zD a (zp_n u.2.1) 0 B ln tk nl od pi cd ∧ zDI B ln (3, tk, nl, od, pi, cd) ∧ zDw u.1 ord a (zp_n u.2.1) := hφ
  obtain ⟨hD, hI, hw0⟩ := hφ
  have hD2 := hD
  obtain ⟨⟨d13, dl, dt, d12, dB⟩, ⟨d14, d15, d16, d17⟩, ⟨d19, d18⟩, ⟨d23, d24, d25⟩, d26, ⟨d29, dp⟩, d30⟩ := hD2
  have hlt := fun z => zDI_lt hI dl z
  show zp_J p l e R s m args below meth c Q w u [] 0 [(0, 2, (a : Int)), (1, 0, p1)] [] u.1 (zp_n u.2.1)
  obtain ⟨so, hso⟩ : ∃ x : Nat, x = zy_so B ln tk := ⟨_, rfl⟩
  rw [← hso] at d16
  obtain ⟨wv, hwv⟩ : ∃ x : Int, x = zy_wo B ln tk := ⟨_, rfl⟩
  rw [← hwv] at d17
  have hj4 : zDj 400 pi cd := zDj_le hI.1 (by have := zy_fr_le (B := B) dt; show zy_fr B ln tk ≤ 400; omega)
  have cs : ∀ x : Int, ym_jo (zy_so B ln) (zy_wo B ln) tk = x → x = -1 → ym_bs (zy_so B ln) (zy_wo B ln) (zy_to B ln) (decide (p1 = 1)) tk nl od pi cd = if ym_in pi = 32 then (if yr_s (zy_so B ln) (zy_wo B ln) 93 tk = true then Sum.inr (3, zy_to B ln tk, nl, od - 1, (ym_se 5 pi cd).1.tail, (ym_se 5 pi cd).2) else Sum.inl tk) else if ym_in pi = -1 ∧ decide (p1 = 1) = false then Sum.inr (4, tk, nl, od, pi, cd) else if ym_cd pi = true then Sum.inr (2, tk, nl, od, pi, cd) else if yr_cm (zy_so B ln) (zy_wo B ln) tk = -1 then Sum.inl tk else Sum.inr (1, zy_to B ln tk, nl, od, (yr_cm (zy_so B ln) (zy_wo B ln) tk, 0) :: (ym_se 5 pi cd).1, (ym_se 5 pi cd).2) := fun x h1 h2 => by
    unfold ym_bs
    rw [if_neg (fun z => z (h1.trans h2))]
  have h72 : ∀ (op : Int), op = ym_jo (zy_so B ln) (zy_wo B ln) tk → zp_J p l e R s m args below meth c Q w u [] 72 [(2, 0, op), (0, 2, (a : Int)), (1, 0, p1)] [] u.1 (zp_n u.2.1) := by
    intro op hop
    have hjr := ym_jo_eq (so := zy_so B ln) (wo := zy_wo B ln) (p := tk)
    rw [← hop] at hjr
    have hor : op = -1 ∨ (20 ≤ op ∧ op ≤ 24) := by rw [hjr]; repeat' split; all_goals first | omega | (right; omega)
    clear hjr
    refine zp_load (pc := 72) hx hb (zd_X12_behindSum (72, .iload_n 2, 1, 0, []) (List.mem_of_getElem? (i := 32) rfl)) rfl (j := 0) rfl ?_
    refine zp_const (pc := 73) hx hb (zd_X12_behindSum (73, .iconst (-1), 1, 0, []) (List.mem_of_getElem? (i := 33) rfl)) rfl rfl ?_
    refine zp_icmp (pc := 74) (tgt := 97) hx hb (zd_X12_behindSum (74, .if_icmp .eq 23, 3, 0, []) (List.mem_of_getElem? (i := 34) rfl)) rfl (fun (hcq51 : op = (-1)) => ?_) (fun (hcq51 : ¬ (op = (-1))) => ?_)
    · refine zp_load (pc := 97) hx hb (zd_X12_behindSum (97, .aload_n 0, 1, 0, []) (List.mem_of_getElem? (i := 47) rfl)) rfl (j := 1) rfl ?_
      refine zp_call (pc := 98) (how := 0) (idx := 347) (mi := 232) (S := []) hx hb hE hw heff hrm (zY_nn hW pi) rfl (j := 34) rfl rfl (by decide +kernel) (zd_X12_behindSum (98, .invokevirtual 347, 3, 0, []) (List.mem_of_getElem? (i := 48) rfl)) [(a : Int)] rfl ⟨zp_o2 hp, trivial⟩ (Nat.le_of_ble_eq_true rfl) ⟨dp, d29, fun e he => (hI.1.2.2 e he).2.1⟩ (fun al hal rni Pi Gi hexti hfri hoki hcsi hpsii => ?_)
      obtain rfl := List.mem_singleton.mp hal
      have hri := zp_int (hoki _ rfl).1
      obtain ⟨hPei, hGei, hti⟩ := hpsii
      rw [hPei, hGei]
      replace hti : rni = ym_in pi := hti
      refine zp_store (L' := [(3, 0, rni), (2, 0, op), (0, 2, (a : Int)), (1, 0, p1)]) (pc := 101) hx hb hnL (zd_X12_behindSum (101, .istore_n 3, 1, 0, []) (List.mem_of_getElem? (i := 49) rfl)) rfl rfl rfl ?_
      refine zp_load (pc := 102) hx hb (zd_X12_behindSum (102, .iload_n 3, 1, 0, []) (List.mem_of_getElem? (i := 50) rfl)) rfl (j := 0) rfl ?_
      refine zp_const (pc := 103) hx hb (zd_X12_behindSum (103, .bipush 32, 2, 0, []) (List.mem_of_getElem? (i := 51) rfl)) rfl rfl ?_
      refine zp_icmp (pc := 105) (tgt := 152) hx hb (zd_X12_behindSum (105, .if_icmp .ne 47, 3, 0, []) (List.mem_of_getElem? (i := 52) rfl)) rfl (fun (hcq52 : ¬ rni = 32) => ?_) (fun (hcq52 : ¬ (¬ rni = 32)) => ?_)
      · refine zp_load (pc := 152) hx hb (zd_X12_behindSum (152, .iload_n 3, 1, 0, []) (List.mem_of_getElem? (i := 78) rfl)) rfl (j := 0) rfl ?_
        refine zp_const (pc := 153) hx hb (zd_X12_behindSum (153, .iconst (-1), 1, 0, []) (List.mem_of_getElem? (i := 79) rfl)) rfl rfl ?_
        refine zp_icmp (pc := 154) (tgt := 163) hx hb (zd_X12_behindSum (154, .if_icmp .ne 9, 3, 0, []) (List.mem_of_getElem? (i := 80) rfl)) rfl (fun (hcq53 : ¬ rni = (-1)) => ?_) (fun (hcq53 : ¬ (¬ rni = (-1))) => ?_)
        · refine zp_load (pc := 163) hx hb (zd_X12_behindSum (163, .aload_n 0, 1, 0, []) (List.mem_of_getElem? (i := 85) rfl)) rfl (j := 2) rfl ?_
          refine zp_call (pc := 164) (how := 0) (idx := 350) (mi := 233) (S := []) hx hb hE hw heff hrm (zY_ic hW pi) rfl (j := 35) rfl rfl (by decide +kernel) (zd_X12_behindSum (164, .invokevirtual 350, 3, 0, []) (List.mem_of_getElem? (i := 86) rfl)) [(a : Int)] rfl ⟨zp_o2 hp, trivial⟩ (Nat.le_of_ble_eq_true rfl) ⟨dp, d29⟩ (fun al hal rnc Pc Gc hextc hfrc hokc hcsc hpsic => ?_)
          obtain rfl := List.mem_singleton.mp hal
          have hrc := zp_int (hokc _ rfl).1
          obtain ⟨hPec, hGec, htc⟩ := hpsic
          rw [hPec, hGec]
          replace htc : rnc = 1 ↔ ym_cd pi = true := htc
          refine zp_if (pc := 167) (tgt := 172) hx hb (zd_X12_behindSum (167, .ifCond .eq 5, 3, 0, []) (List.mem_of_getElem? (i := 87) rfl)) rfl (fun (hcq54 : rnc = 0) => ?_) (fun (hcq54 : ¬ (rnc = 0)) => ?_)
          · replace htc := zs_i0 htc hcq54
            refine zp_load (pc := 172) hx hb (zd_X12_behindSum (172, .aload_n 0, 1, 0, []) (List.mem_of_getElem? (i := 90) rfl)) rfl (j := 2) rfl ?_
            refine zp_const (pc := 173) hx hb (zd_X12_behindSum (173, .bipush 60, 2, 0, []) (List.mem_of_getElem? (i := 91) rfl)) rfl rfl ?_
            refine zp_call (pc := 175) (how := 0) (idx := 313) (mi := 221) (S := []) hx hb hE hw heff hrm (zY_si hW) rfl (j := 23) rfl rfl (by decide +kernel) (zd_X12_behindSum (175, .invokevirtual 313, 3, 0, []) (List.mem_of_getElem? (i := 92) rfl)) [(a : Int), 60] rfl ⟨zp_o2 hp, zp_o0 (by decide) (by decide) (by decide) (by decide), trivial⟩ (Nat.le_of_ble_eq_true rfl) trivial (fun al hal rnx Px Gx hextx hfrx hokx hcsx hpsix => ?_)
            obtain rfl := List.mem_singleton.mp hal
            have hrx := zp_int (hokx _ rfl).1
            obtain ⟨hPex, hGex, htx⟩ := hpsix
            rw [hPex, hGex]
            replace htx : rnx = 1 ↔ zp_n u.2.1 a 16 = 3 ∧ zp_n u.2.1 a 17 = 60 := htx
            rw [d16, d17] at htx
            refine zp_if (pc := 178) (tgt := 186) hx hb (zd_X12_behindSum (178, .ifCond .eq 8, 3, 0, []) (List.mem_of_getElem? (i := 93) rfl)) rfl (fun (hcq55 : rnx = 0) => ?_) (fun (hcq55 : ¬ (rnx = 0)) => ?_)
            · replace htx := zs_i0 htx hcq55
              refine zp_load (pc := 186) hx hb (zd_X12_behindSum (186, .aload_n 0, 1, 0, []) (List.mem_of_getElem? (i := 96) rfl)) rfl (j := 2) rfl ?_
              refine zp_const (pc := 187) hx hb (zd_X12_behindSum (187, .bipush 62, 2, 0, []) (List.mem_of_getElem? (i := 97) rfl)) rfl rfl ?_
              refine zp_call (pc := 189) (how := 0) (idx := 313) (mi := 221) (S := []) hx hb hE hw heff hrm (zY_si hW) rfl (j := 23) rfl rfl (by decide +kernel) (zd_X12_behindSum (189, .invokevirtual 313, 3, 0, []) (List.mem_of_getElem? (i := 98) rfl)) [(a : Int), 62] rfl ⟨zp_o2 hp, zp_o0 (by decide) (by decide) (by decide) (by decide), trivial⟩ (Nat.le_of_ble_eq_true rfl) trivial (fun al hal rny Py Gy hexty hfry hoky hcsy hpsiy => ?_)
              obtain rfl := List.mem_singleton.mp hal
              have hry := zp_int (hoky _ rfl).1
              obtain ⟨hPey, hGey, hty⟩ := hpsiy
              rw [hPey, hGey]
              replace hty : rny = 1 ↔ zp_n u.2.1 a 16 = 3 ∧ zp_n u.2.1 a 17 = 62 := hty
              rw [d16, d17] at hty
              refine zp_if (pc := 192) (tgt := 200) hx hb (zd_X12_behindSum (192, .ifCond .eq 8, 3, 0, []) (List.mem_of_getElem? (i := 99) rfl)) rfl (fun (hcq56 : rny = 0) => ?_) (fun (hcq56 : ¬ (rny = 0)) => ?_)
              · replace hty := zs_i0 hty hcq56
                refine zp_const (pc := 200) hx hb (zd_X12_behindSum (200, .bipush 27, 2, 0, []) (List.mem_of_getElem? (i := 102) rfl)) rfl rfl ?_
                refine zp_store (L' := [(2, 0, 27), (3, 0, rni), (0, 2, (a : Int)), (1, 0, p1)]) (pc := 202) hx hb hnL (zd_X12_behindSum (202, .istore_n 2, 1, 0, []) (List.mem_of_getElem? (i := 103) rfl)) rfl rfl rfl ?_
                refine zp_load (pc := 203) hx hb (zd_X12_behindSum (203, .aload_n 0, 1, 0, []) (List.mem_of_getElem? (i := 104) rfl)) rfl (j := 2) rfl ?_
                refine zp_load (pc := 204) hx hb (zd_X12_behindSum (204, .iload_n 2, 1, 0, []) (List.mem_of_getElem? (i := 105) rfl)) rfl (j := 0) rfl ?_
                refine zp_const (pc := 205) hx hb (zd_X12_behindSum (205, .bipush 27, 2, 0, []) (List.mem_of_getElem? (i := 106) rfl)) rfl rfl ?_
                refine zp_icmp (pc := 207) (tgt := 219) hx hb (zd_X12_behindSum (207, .if_icmp .ne 12, 3, 0, []) (List.mem_of_getElem? (i := 107) rfl)) rfl (fun (hcq57 : ¬ 27 = 27) => ?_) (fun (hcq57 : ¬ (¬ 27 = 27)) => ?_)
                · exfalso
                  omega
                · refine zp_load (pc := 210) hx hb (zd_X12_behindSum (210, .aload_n 0, 1, 0, []) (List.mem_of_getElem? (i := 108) rfl)) rfl (j := 2) rfl ?_
                  refine zp_const (pc := 211) hx hb (zd_X12_behindSum (211, .bipush 61, 2, 0, []) (List.mem_of_getElem? (i := 109) rfl)) rfl rfl ?_
                  refine zp_call (pc := 213) (how := 0) (idx := 313) (mi := 221) (S := [(2, (a : Int))]) hx hb hE hw heff hrm (zY_si hW) rfl (j := 23) rfl rfl (by decide +kernel) (zd_X12_behindSum (213, .invokevirtual 313, 3, 0, []) (List.mem_of_getElem? (i := 110) rfl)) [(a : Int), 61] rfl ⟨zp_o2 hp, zp_o0 (by decide) (by decide) (by decide) (by decide), trivial⟩ (Nat.le_of_ble_eq_true rfl) trivial (fun al hal rnz Pz Gz hextz hfrz hokz hcsz hpsiz => ?_)
                  obtain rfl := List.mem_singleton.mp hal
                  have hrz := zp_int (hokz _ rfl).1
                  obtain ⟨hPez, hGez, htz⟩ := hpsiz
                  rw [hPez, hGez]
                  replace htz : rnz = 1 ↔ zp_n u.2.1 a 16 = 3 ∧ zp_n u.2.1 a 17 = 61 := htz
                  rw [d16, d17] at htz
                  refine zp_if (pc := 216) (tgt := 223) hx hb (zd_X12_behindSum (216, .ifCond .eq 7, 3, 0, []) (List.mem_of_getElem? (i := 111) rfl)) rfl (fun (hcq58 : rnz = 0) => ?_) (fun (hcq58 : ¬ (rnz = 0)) => ?_)
                  · replace htz := zs_i0 htz hcq58
                    refine zp_const (pc := 223) hx hb (zd_X12_behindSum (223, .iconst 0, 1, 0, []) (List.mem_of_getElem? (i := 114) rfl)) rfl rfl ?_
                    refine zp_call (pc := 224) (how := 0) (idx := 275) (mi := 217) (S := []) hx hb hE hw heff hrm (zY_mu hW B ln tk nl od pi cd) rfl (j := 19) rfl rfl (by decide +kernel) (zd_X12_behindSum (224, .invokevirtual 275, 3, 0, []) (List.mem_of_getElem? (i := 115) rfl)) [(a : Int), 0] rfl ⟨zp_o2 hp, zp_o0 (by omega) (by omega) (by omega) (by omega), trivial⟩ (Nat.le_of_ble_eq_true rfl) hD (fun al hal rnm Pm Gm hextm hfrm hokm hcsm hpsim => ?_)
                    obtain rfl := List.mem_singleton.mp hal
                    obtain ⟨rfl, htm⟩ := hpsim
                    replace htm : ((0 : Int) ≠ 1 → zD a Gm 1 B ln tk nl od pi cd ∧ Gm a 18 = (zy_fr B ln tk : Int)) ∧ ((0 : Int) = 1 → zD a Gm 0 B ln (zy_to B ln tk) nl od pi cd) := htm
                    by_cases hmz : (0 : Int) = 1
                    · replace htm := htm.2 hmz
                      have htm2 := htm
                      obtain ⟨⟨m13, ml, mt, m12, mB⟩, ⟨m14, m15, m16, m17⟩, ⟨m19, m18⟩, ⟨m23, m24, m25⟩, m26, ⟨m29, mp⟩, m30⟩ := htm2
                      refine zp_load (pc := 227) hx hb (zd_X12_behindSum (227, .aload_n 0, 1, 0, []) (List.mem_of_getElem? (i := 116) rfl)) rfl (j := 2) rfl ?_
                      refine zp_getf (n := 0) (pc := 228) hx hb hE hw (zd_X12_behindSum (228, .getfield 240, 3, 0, []) (List.mem_of_getElem? (i := 117) rfl)) (j := 37) rfl rfl rfl hp m19 ?_
                      refine zp_if (pc := 231) (tgt := 245) hx hb (zd_X12_behindSum (231, .ifCond .ne 14, 3, 0, []) (List.mem_of_getElem? (i := 118) rfl)) rfl (fun (hcq59 : ¬ 0 = 0) => ?_) (fun (hcq59 : ¬ (¬ 0 = 0)) => ?_)
                      · exfalso
                        omega
                      · refine zp_load (pc := 234) hx hb (zd_X12_behindSum (234, .aload_n 0, 1, 0, []) (List.mem_of_getElem? (i := 119) rfl)) rfl (j := 2) rfl ?_
                        refine zp_const (pc := 235) hx hb (zd_X12_behindSum (235, .iconst 5, 1, 0, []) (List.mem_of_getElem? (i := 120) rfl)) rfl rfl ?_
                        refine zp_call (pc := 236) (how := 0) (idx := 344) (mi := 231) (S := []) hx hb hE hw heff hrm (zY_se hW 0 B ln (zy_to B ln tk) nl od pi cd) rfl (j := 33) rfl rfl (by decide +kernel) (zd_X12_behindSum (236, .invokevirtual 344, 3, 0, []) (List.mem_of_getElem? (i := 121) rfl)) [(a : Int), 5] rfl ⟨zp_o2 hp, zp_o0 (by decide) (by decide) (by decide) (by decide), trivial⟩ (Nat.le_of_ble_eq_true rfl) ⟨htm, hj4⟩ (fun al hal rns Ps Gs hexts hfrs hoks hcss hpsis => ?_)
                        obtain rfl := List.mem_singleton.mp hal
                        obtain ⟨rfl, hts⟩ := hpsis
                        replace hts : zD a Gs 0 B ln (zy_to B ln tk) nl od (ym_se 5 pi cd).1 (ym_se 5 pi cd).2 := hts
                        refine zp_load (pc := 239) hx hb (zd_X12_behindSum (239, .aload_n 0, 1, 0, []) (List.mem_of_getElem? (i := 122) rfl)) rfl (j := 2) rfl ?_
                        refine zp_load (pc := 240) hx hb (zd_X12_behindSum (240, .iload_n 2, 1, 0, []) (List.mem_of_getElem? (i := 123) rfl)) rfl (j := 0) rfl ?_
                        refine zp_const (pc := 241) hx hb (zd_X12_behindSum (241, .iconst 0, 1, 0, []) (List.mem_of_getElem? (i := 124) rfl)) rfl rfl ?_
                        have hjs := zDj_se (least := 5) hj4
                        have hjs2 := zDj_se (least := 5) hI.1
                        have hjs2 : zDj (zy_fr B ln tk) (ym_se 5 pi cd).1 (ym_se 5 pi cd).2 := hjs2
                        have hpl := hjs2.2.1
                        have hs3 : zy_so B ln tk ≠ 0 := by rw [← hso]; omega
                        have hft := (zy_to_le (B := B) dt).2.2 hs3
                        have hft2 := (zy_to_le (B := B) dt).2.1
                        refine zp_call (pc := 242) (how := 0) (idx := 307) (mi := 220) (S := []) hx hb hE hw heff hrm (zY_pu hW 0 B ln (zy_to B ln tk) nl od (ym_se 5 pi cd).1 (ym_se 5 pi cd).2) rfl (j := 22) rfl rfl (by decide +kernel) (zd_X12_behindSum (242, .invokevirtual 307, 3, 0, []) (List.mem_of_getElem? (i := 125) rfl)) [(a : Int), 27, 0] rfl ⟨zp_o2 hp, zp_o0 (by omega) (by omega) (by omega) (by omega), zp_o0 (by decide) (by decide) (by decide) (by decide), trivial⟩ (Nat.le_of_ble_eq_true rfl) ⟨hts, by omega⟩ (fun al hal rnp Pp Gp hextp hfrp hokp hcsp hpsip => ?_)
                        obtain rfl := List.mem_singleton.mp hal
                        obtain ⟨rfl, htp⟩ := hpsip
                        refine zp_const (pc := 245) hx hb (zd_X12_behindSum (245, .iconst 1, 1, 0, []) (List.mem_of_getElem? (i := 126) rfl)) rfl rfl ?_
                        refine zp_iret (pc := 246) (n := 1) hx hb hE hQ hU5 rfl (by decide) (zd_X12_behindSum (246, .ireturn, 1, 0, []) (List.mem_of_getElem? (i := 127) rfl)) (j := 0) rfl (zp_o0 (by omega) (by omega) (by omega) (by omega)) ?_
                        rw [hps]
                        refine ⟨rfl, ?_⟩
                        show zDr a Gp B ln 1 (ym_bs (zy_so B ln) (zy_wo B ln) (zy_to B ln) (decide (p1 = 1)) tk nl od pi cd)
                        rw [cs op hop.symm (by omega)]
                        have hcm : yr_cm (zy_so B ln) (zy_wo B ln) tk = 27 := by
                          rw [yr_cm_eq]
                          repeat' split
                          all_goals omega
                        rw [hcm, if_neg (by omega), if_neg (fun z => ?_), if_neg (fun z => ?_), if_neg (by decide)]
                        · exact ⟨rfl, htp⟩
                        · exact htc z
                        · obtain ⟨z1, z2⟩ := z
                          have z2 := of_decide_eq_false z2
                          omega
                    · replace htm := htm.1 hmz
                      have htm2 := htm.1
                      obtain ⟨⟨m13, ml, mt, m12, mB⟩, ⟨m14, m15, m16, m17⟩, ⟨m19, m18⟩, ⟨m23, m24, m25⟩, m26, ⟨m29, mp⟩, m30⟩ := htm2
                      refine zp_load (pc := 227) hx hb (zd_X12_behindSum (227, .aload_n 0, 1, 0, []) (List.mem_of_getElem? (i := 116) rfl)) rfl (j := 2) rfl ?_
                      refine zp_getf (n := 1) (pc := 228) hx hb hE hw (zd_X12_behindSum (228, .getfield 240, 3, 0, []) (List.mem_of_getElem? (i := 117) rfl)) (j := 37) rfl rfl rfl hp m19 ?_
                      refine zp_if (pc := 231) (tgt := 245) hx hb (zd_X12_behindSum (231, .ifCond .ne 14, 3, 0, []) (List.mem_of_getElem? (i := 118) rfl)) rfl (fun (hcq60 : ¬ 1 = 0) => ?_) (fun (hcq60 : ¬ (¬ 1 = 0)) => ?_)
                      · refine zp_const (pc := 245) hx hb (zd_X12_behindSum (245, .iconst 1, 1, 0, []) (List.mem_of_getElem? (i := 126) rfl)) rfl rfl ?_
                        refine zp_iret (pc := 246) (n := 1) hx hb hE hQ hU5 rfl (by decide) (zd_X12_behindSum (246, .ireturn, 1, 0, []) (List.mem_of_getElem? (i := 127) rfl)) (j := 0) rfl (zp_o0 (by omega) (by omega) (by omega) (by omega)) ?_
                        rw [hps]
                        refine ⟨rfl, ?_⟩
                        show zDr a Gm B ln 1 (ym_bs (zy_so B ln) (zy_wo B ln) (zy_to B ln) (decide (p1 = 1)) tk nl od pi cd)
                        rw [cs op hop.symm (by omega)]
                        rw [if_neg (by omega), if_neg (fun z => ?_), if_neg (fun z => ?_), if_pos ?_]
                        · exact ⟨⟨_, _, _, _, _, htm.1, zDj_le (F := zy_fr B ln tk) hI.1 (by have := zy_fr_le (B := B) dt; omega)⟩, htm.2⟩
                        · rw [yr_cm_eq]
                          repeat' split
                          all_goals omega
                        · exact htc z
                        · obtain ⟨z1, z2⟩ := z
                          have z2 := of_decide_eq_false z2
                          omega
                      · exfalso
                        omega
                  · replace htz := zs_i1 htz hrz hcq58
                    refine zp_const (pc := 219) hx hb (zd_X12_behindSum (219, .iconst 1, 1, 0, []) (List.mem_of_getElem? (i := 112) rfl)) rfl rfl ?_
                    refine zp_goto (tgt := 224) (pc := 220) hx hb (zd_X12_behindSum (220, .goto 4, 3, 0, []) (List.mem_of_getElem? (i := 113) rfl)) rfl ?_
                    refine zp_call (pc := 224) (how := 0) (idx := 275) (mi := 217) (S := []) hx hb hE hw heff hrm (zY_mu hW B ln tk nl od pi cd) rfl (j := 19) rfl rfl (by decide +kernel) (zd_X12_behindSum (224, .invokevirtual 275, 3, 0, []) (List.mem_of_getElem? (i := 115) rfl)) [(a : Int), 1] rfl ⟨zp_o2 hp, zp_o0 (by omega) (by omega) (by omega) (by omega), trivial⟩ (Nat.le_of_ble_eq_true rfl) hD (fun al hal rnm Pm Gm hextm hfrm hokm hcsm hpsim => ?_)
                    obtain rfl := List.mem_singleton.mp hal
                    obtain ⟨rfl, htm⟩ := hpsim
                    replace htm : ((1 : Int) ≠ 1 → zD a Gm 1 B ln tk nl od pi cd ∧ Gm a 18 = (zy_fr B ln tk : Int)) ∧ ((1 : Int) = 1 → zD a Gm 0 B ln (zy_to B ln tk) nl od pi cd) := htm
                    by_cases hmz : (1 : Int) = 1
                    · replace htm := htm.2 hmz
                      have htm2 := htm
                      obtain ⟨⟨m13, ml, mt, m12, mB⟩, ⟨m14, m15, m16, m17⟩, ⟨m19, m18⟩, ⟨m23, m24, m25⟩, m26, ⟨m29, mp⟩, m30⟩ := htm2
                      refine zp_load (pc := 227) hx hb (zd_X12_behindSum (227, .aload_n 0, 1, 0, []) (List.mem_of_getElem? (i := 116) rfl)) rfl (j := 2) rfl ?_
                      refine zp_getf (n := 0) (pc := 228) hx hb hE hw (zd_X12_behindSum (228, .getfield 240, 3, 0, []) (List.mem_of_getElem? (i := 117) rfl)) (j := 37) rfl rfl rfl hp m19 ?_
                      refine zp_if (pc := 231) (tgt := 245) hx hb (zd_X12_behindSum (231, .ifCond .ne 14, 3, 0, []) (List.mem_of_getElem? (i := 118) rfl)) rfl (fun (hcq61 : ¬ 0 = 0) => ?_) (fun (hcq61 : ¬ (¬ 0 = 0)) => ?_)
                      · exfalso
                        omega
                      · refine zp_load (pc := 234) hx hb (zd_X12_behindSum (234, .aload_n 0, 1, 0, []) (List.mem_of_getElem? (i := 119) rfl)) rfl (j := 2) rfl ?_
                        refine zp_const (pc := 235) hx hb (zd_X12_behindSum (235, .iconst 5, 1, 0, []) (List.mem_of_getElem? (i := 120) rfl)) rfl rfl ?_
                        refine zp_call (pc := 236) (how := 0) (idx := 344) (mi := 231) (S := []) hx hb hE hw heff hrm (zY_se hW 0 B ln (zy_to B ln tk) nl od pi cd) rfl (j := 33) rfl rfl (by decide +kernel) (zd_X12_behindSum (236, .invokevirtual 344, 3, 0, []) (List.mem_of_getElem? (i := 121) rfl)) [(a : Int), 5] rfl ⟨zp_o2 hp, zp_o0 (by decide) (by decide) (by decide) (by decide), trivial⟩ (Nat.le_of_ble_eq_true rfl) ⟨htm, hj4⟩ (fun al hal rns Ps Gs hexts hfrs hoks hcss hpsis => ?_)
                        obtain rfl := List.mem_singleton.mp hal
                        obtain ⟨rfl, hts⟩ := hpsis
                        replace hts : zD a Gs 0 B ln (zy_to B ln tk) nl od (ym_se 5 pi cd).1 (ym_se 5 pi cd).2 := hts
                        refine zp_load (pc := 239) hx hb (zd_X12_behindSum (239, .aload_n 0, 1, 0, []) (List.mem_of_getElem? (i := 122) rfl)) rfl (j := 2) rfl ?_
                        refine zp_load (pc := 240) hx hb (zd_X12_behindSum (240, .iload_n 2, 1, 0, []) (List.mem_of_getElem? (i := 123) rfl)) rfl (j := 0) rfl ?_
                        refine zp_const (pc := 241) hx hb (zd_X12_behindSum (241, .iconst 0, 1, 0, []) (List.mem_of_getElem? (i := 124) rfl)) rfl rfl ?_
                        have hjs := zDj_se (least := 5) hj4
                        have hjs2 := zDj_se (least := 5) hI.1
                        have hjs2 : zDj (zy_fr B ln tk) (ym_se 5 pi cd).1 (ym_se 5 pi cd).2 := hjs2
                        have hpl := hjs2.2.1
                        have hs3 : zy_so B ln tk ≠ 0 := by rw [← hso]; omega
                        have hft := (zy_to_le (B := B) dt).2.2 hs3
                        have hft2 := (zy_to_le (B := B) dt).2.1
                        refine zp_call (pc := 242) (how := 0) (idx := 307) (mi := 220) (S := []) hx hb hE hw heff hrm (zY_pu hW 0 B ln (zy_to B ln tk) nl od (ym_se 5 pi cd).1 (ym_se 5 pi cd).2) rfl (j := 22) rfl rfl (by decide +kernel) (zd_X12_behindSum (242, .invokevirtual 307, 3, 0, []) (List.mem_of_getElem? (i := 125) rfl)) [(a : Int), 27, 0] rfl ⟨zp_o2 hp, zp_o0 (by omega) (by omega) (by omega) (by omega), zp_o0 (by decide) (by decide) (by decide) (by decide), trivial⟩ (Nat.le_of_ble_eq_true rfl) ⟨hts, by omega⟩ (fun al hal rnp Pp Gp hextp hfrp hokp hcsp hpsip => ?_)
                        obtain rfl := List.mem_singleton.mp hal
                        obtain ⟨rfl, htp⟩ := hpsip
                        refine zp_const (pc := 245) hx hb (zd_X12_behindSum (245, .iconst 1, 1, 0, []) (List.mem_of_getElem? (i := 126) rfl)) rfl rfl ?_
                        refine zp_iret (pc := 246) (n := 1) hx hb hE hQ hU5 rfl (by decide) (zd_X12_behindSum (246, .ireturn, 1, 0, []) (List.mem_of_getElem? (i := 127) rfl)) (j := 0) rfl (zp_o0 (by omega) (by omega) (by omega) (by omega)) ?_
                        rw [hps]
                        refine ⟨rfl, ?_⟩
                        show zDr a Gp B ln 1 (ym_bs (zy_so B ln) (zy_wo B ln) (zy_to B ln) (decide (p1 = 1)) tk nl od pi cd)
                        rw [cs op hop.symm (by omega)]
                        have hcm : yr_cm (zy_so B ln) (zy_wo B ln) tk = 27 := by
                          rw [yr_cm_eq]
                          repeat' split
                          all_goals omega
                        rw [hcm, if_neg (by omega), if_neg (fun z => ?_), if_neg (fun z => ?_), if_neg (by decide)]
                        · exact ⟨rfl, htp⟩
                        · exact htc z
                        · obtain ⟨z1, z2⟩ := z
                          have z2 := of_decide_eq_false z2
                          omega
                    · replace htm := htm.1 hmz
                      have htm2 := htm.1
                      obtain ⟨⟨m13, ml, mt, m12, mB⟩, ⟨m14, m15, m16, m17⟩, ⟨m19, m18⟩, ⟨m23, m24, m25⟩, m26, ⟨m29, mp⟩, m30⟩ := htm2
                      refine zp_load (pc := 227) hx hb (zd_X12_behindSum (227, .aload_n 0, 1, 0, []) (List.mem_of_getElem? (i := 116) rfl)) rfl (j := 2) rfl ?_
                      refine zp_getf (n := 1) (pc := 228) hx hb hE hw (zd_X12_behindSum (228, .getfield 240, 3, 0, []) (List.mem_of_getElem? (i := 117) rfl)) (j := 37) rfl rfl rfl hp m19 ?_
                      refine zp_if (pc := 231) (tgt := 245) hx hb (zd_X12_behindSum (231, .ifCond .ne 14, 3, 0, []) (List.mem_of_getElem? (i := 118) rfl)) rfl (fun (hcq62 : ¬ 1 = 0) => ?_) (fun (hcq62 : ¬ (¬ 1 = 0)) => ?_)
                      · refine zp_const (pc := 245) hx hb (zd_X12_behindSum (245, .iconst 1, 1, 0, []) (List.mem_of_getElem? (i := 126) rfl)) rfl rfl ?_
                        refine zp_iret (pc := 246) (n := 1) hx hb hE hQ hU5 rfl (by decide) (zd_X12_behindSum (246, .ireturn, 1, 0, []) (List.mem_of_getElem? (i := 127) rfl)) (j := 0) rfl (zp_o0 (by omega) (by omega) (by omega) (by omega)) ?_
                        rw [hps]
                        refine ⟨rfl, ?_⟩
                        show zDr a Gm B ln 1 (ym_bs (zy_so B ln) (zy_wo B ln) (zy_to B ln) (decide (p1 = 1)) tk nl od pi cd)
                        rw [cs op hop.symm (by omega)]
                        rw [if_neg (by omega), if_neg (fun z => ?_), if_neg (fun z => ?_), if_pos ?_]
                        · exact ⟨⟨_, _, _, _, _, htm.1, zDj_le (F := zy_fr B ln tk) hI.1 (by have := zy_fr_le (B := B) dt; omega)⟩, htm.2⟩
                        · rw [yr_cm_eq]
                          repeat' split
                          all_goals omega
                        · exact htc z
                        · obtain ⟨z1, z2⟩ := z
                          have z2 := of_decide_eq_false z2
                          omega
                      · exfalso
                        omega
              · replace hty := zs_i1 hty hry hcq56
                refine zp_const (pc := 195) hx hb (zd_X12_behindSum (195, .bipush 26, 2, 0, []) (List.mem_of_getElem? (i := 100) rfl)) rfl rfl ?_
                refine zp_goto (tgt := 202) (pc := 197) hx hb (zd_X12_behindSum (197, .goto 5, 3, 0, []) (List.mem_of_getElem? (i := 101) rfl)) rfl ?_
                refine zp_store (L' := [(2, 0, 26), (3, 0, rni), (0, 2, (a : Int)), (1, 0, p1)]) (pc := 202) hx hb hnL (zd_X12_behindSum (202, .istore_n 2, 1, 0, []) (List.mem_of_getElem? (i := 103) rfl)) rfl rfl rfl ?_
                refine zp_load (pc := 203) hx hb (zd_X12_behindSum (203, .aload_n 0, 1, 0, []) (List.mem_of_getElem? (i := 104) rfl)) rfl (j := 2) rfl ?_
                refine zp_load (pc := 204) hx hb (zd_X12_behindSum (204, .iload_n 2, 1, 0, []) (List.mem_of_getElem? (i := 105) rfl)) rfl (j := 0) rfl ?_
                refine zp_const (pc := 205) hx hb (zd_X12_behindSum (205, .bipush 27, 2, 0, []) (List.mem_of_getElem? (i := 106) rfl)) rfl rfl ?_
                refine zp_icmp (pc := 207) (tgt := 219) hx hb (zd_X12_behindSum (207, .if_icmp .ne 12, 3, 0, []) (List.mem_of_getElem? (i := 107) rfl)) rfl (fun (hcq63 : ¬ 26 = 27) => ?_) (fun (hcq63 : ¬ (¬ 26 = 27)) => ?_)
                · refine zp_const (pc := 219) hx hb (zd_X12_behindSum (219, .iconst 1, 1, 0, []) (List.mem_of_getElem? (i := 112) rfl)) rfl rfl ?_
                  refine zp_goto (tgt := 224) (pc := 220) hx hb (zd_X12_behindSum (220, .goto 4, 3, 0, []) (List.mem_of_getElem? (i := 113) rfl)) rfl ?_
                  refine zp_call (pc := 224) (how := 0) (idx := 275) (mi := 217) (S := []) hx hb hE hw heff hrm (zY_mu hW B ln tk nl od pi cd) rfl (j := 19) rfl rfl (by decide +kernel) (zd_X12_behindSum (224, .invokevirtual 275, 3, 0, []) (List.mem_of_getElem? (i := 115) rfl)) [(a : Int), 1] rfl ⟨zp_o2 hp, zp_o0 (by omega) (by omega) (by omega) (by omega), trivial⟩ (Nat.le_of_ble_eq_true rfl) hD (fun al hal rnm Pm Gm hextm hfrm hokm hcsm hpsim => ?_)
                  obtain rfl := List.mem_singleton.mp hal
                  obtain ⟨rfl, htm⟩ := hpsim
                  replace htm : ((1 : Int) ≠ 1 → zD a Gm 1 B ln tk nl od pi cd ∧ Gm a 18 = (zy_fr B ln tk : Int)) ∧ ((1 : Int) = 1 → zD a Gm 0 B ln (zy_to B ln tk) nl od pi cd) := htm
                  by_cases hmz : (1 : Int) = 1
                  · replace htm := htm.2 hmz
                    have htm2 := htm
                    obtain ⟨⟨m13, ml, mt, m12, mB⟩, ⟨m14, m15, m16, m17⟩, ⟨m19, m18⟩, ⟨m23, m24, m25⟩, m26, ⟨m29, mp⟩, m30⟩ := htm2
                    refine zp_load (pc := 227) hx hb (zd_X12_behindSum (227, .aload_n 0, 1, 0, []) (List.mem_of_getElem? (i := 116) rfl)) rfl (j := 2) rfl ?_
                    refine zp_getf (n := 0) (pc := 228) hx hb hE hw (zd_X12_behindSum (228, .getfield 240, 3, 0, []) (List.mem_of_getElem? (i := 117) rfl)) (j := 37) rfl rfl rfl hp m19 ?_
                    refine zp_if (pc := 231) (tgt := 245) hx hb (zd_X12_behindSum (231, .ifCond .ne 14, 3, 0, []) (List.mem_of_getElem? (i := 118) rfl)) rfl (fun (hcq64 : ¬ 0 = 0) => ?_) (fun (hcq64 : ¬ (¬ 0 = 0)) => ?_)
                    · exfalso
                      omega
                    · refine zp_load (pc := 234) hx hb (zd_X12_behindSum (234, .aload_n 0, 1, 0, []) (List.mem_of_getElem? (i := 119) rfl)) rfl (j := 2) rfl ?_
                      refine zp_const (pc := 235) hx hb (zd_X12_behindSum (235, .iconst 5, 1, 0, []) (List.mem_of_getElem? (i := 120) rfl)) rfl rfl ?_
                      refine zp_call (pc := 236) (how := 0) (idx := 344) (mi := 231) (S := []) hx hb hE hw heff hrm (zY_se hW 0 B ln (zy_to B ln tk) nl od pi cd) rfl (j := 33) rfl rfl (by decide +kernel) (zd_X12_behindSum (236, .invokevirtual 344, 3, 0, []) (List.mem_of_getElem? (i := 121) rfl)) [(a : Int), 5] rfl ⟨zp_o2 hp, zp_o0 (by decide) (by decide) (by decide) (by decide), trivial⟩ (Nat.le_of_ble_eq_true rfl) ⟨htm, hj4⟩ (fun al hal rns Ps Gs hexts hfrs hoks hcss hpsis => ?_)
                      obtain rfl := List.mem_singleton.mp hal
                      obtain ⟨rfl, hts⟩ := hpsis
                      replace hts : zD a Gs 0 B ln (zy_to B ln tk) nl od (ym_se 5 pi cd).1 (ym_se 5 pi cd).2 := hts
                      refine zp_load (pc := 239) hx hb (zd_X12_behindSum (239, .aload_n 0, 1, 0, []) (List.mem_of_getElem? (i := 122) rfl)) rfl (j := 2) rfl ?_
                      refine zp_load (pc := 240) hx hb (zd_X12_behindSum (240, .iload_n 2, 1, 0, []) (List.mem_of_getElem? (i := 123) rfl)) rfl (j := 0) rfl ?_
                      refine zp_const (pc := 241) hx hb (zd_X12_behindSum (241, .iconst 0, 1, 0, []) (List.mem_of_getElem? (i := 124) rfl)) rfl rfl ?_
                      have hjs := zDj_se (least := 5) hj4
                      have hjs2 := zDj_se (least := 5) hI.1
                      have hjs2 : zDj (zy_fr B ln tk) (ym_se 5 pi cd).1 (ym_se 5 pi cd).2 := hjs2
                      have hpl := hjs2.2.1
                      have hs3 : zy_so B ln tk ≠ 0 := by rw [← hso]; omega
                      have hft := (zy_to_le (B := B) dt).2.2 hs3
                      have hft2 := (zy_to_le (B := B) dt).2.1
                      refine zp_call (pc := 242) (how := 0) (idx := 307) (mi := 220) (S := []) hx hb hE hw heff hrm (zY_pu hW 0 B ln (zy_to B ln tk) nl od (ym_se 5 pi cd).1 (ym_se 5 pi cd).2) rfl (j := 22) rfl rfl (by decide +kernel) (zd_X12_behindSum (242, .invokevirtual 307, 3, 0, []) (List.mem_of_getElem? (i := 125) rfl)) [(a : Int), 26, 0] rfl ⟨zp_o2 hp, zp_o0 (by omega) (by omega) (by omega) (by omega), zp_o0 (by decide) (by decide) (by decide) (by decide), trivial⟩ (Nat.le_of_ble_eq_true rfl) ⟨hts, by omega⟩ (fun al hal rnp Pp Gp hextp hfrp hokp hcsp hpsip => ?_)
                      obtain rfl := List.mem_singleton.mp hal
                      obtain ⟨rfl, htp⟩ := hpsip
                      refine zp_const (pc := 245) hx hb (zd_X12_behindSum (245, .iconst 1, 1, 0, []) (List.mem_of_getElem? (i := 126) rfl)) rfl rfl ?_
                      refine zp_iret (pc := 246) (n := 1) hx hb hE hQ hU5 rfl (by decide) (zd_X12_behindSum (246, .ireturn, 1, 0, []) (List.mem_of_getElem? (i := 127) rfl)) (j := 0) rfl (zp_o0 (by omega) (by omega) (by omega) (by omega)) ?_
                      rw [hps]
                      refine ⟨rfl, ?_⟩
                      show zDr a Gp B ln 1 (ym_bs (zy_so B ln) (zy_wo B ln) (zy_to B ln) (decide (p1 = 1)) tk nl od pi cd)
                      rw [cs op hop.symm (by omega)]
                      have hcm : yr_cm (zy_so B ln) (zy_wo B ln) tk = 26 := by
                        rw [yr_cm_eq]
                        repeat' split
                        all_goals omega
                      rw [hcm, if_neg (by omega), if_neg (fun z => ?_), if_neg (fun z => ?_), if_neg (by decide)]
                      · exact ⟨rfl, htp⟩
                      · exact htc z
                      · obtain ⟨z1, z2⟩ := z
                        have z2 := of_decide_eq_false z2
                        omega
                  · replace htm := htm.1 hmz
                    have htm2 := htm.1
                    obtain ⟨⟨m13, ml, mt, m12, mB⟩, ⟨m14, m15, m16, m17⟩, ⟨m19, m18⟩, ⟨m23, m24, m25⟩, m26, ⟨m29, mp⟩, m30⟩ := htm2
                    refine zp_load (pc := 227) hx hb (zd_X12_behindSum (227, .aload_n 0, 1, 0, []) (List.mem_of_getElem? (i := 116) rfl)) rfl (j := 2) rfl ?_
                    refine zp_getf (n := 1) (pc := 228) hx hb hE hw (zd_X12_behindSum (228, .getfield 240, 3, 0, []) (List.mem_of_getElem? (i := 117) rfl)) (j := 37) rfl rfl rfl hp m19 ?_
                    refine zp_if (pc := 231) (tgt := 245) hx hb (zd_X12_behindSum (231, .ifCond .ne 14, 3, 0, []) (List.mem_of_getElem? (i := 118) rfl)) rfl (fun (hcq65 : ¬ 1 = 0) => ?_) (fun (hcq65 : ¬ (¬ 1 = 0)) => ?_)
                    · refine zp_const (pc := 245) hx hb (zd_X12_behindSum (245, .iconst 1, 1, 0, []) (List.mem_of_getElem? (i := 126) rfl)) rfl rfl ?_
                      refine zp_iret (pc := 246) (n := 1) hx hb hE hQ hU5 rfl (by decide) (zd_X12_behindSum (246, .ireturn, 1, 0, []) (List.mem_of_getElem? (i := 127) rfl)) (j := 0) rfl (zp_o0 (by omega) (by omega) (by omega) (by omega)) ?_
                      rw [hps]
                      refine ⟨rfl, ?_⟩
                      show zDr a Gm B ln 1 (ym_bs (zy_so B ln) (zy_wo B ln) (zy_to B ln) (decide (p1 = 1)) tk nl od pi cd)
                      rw [cs op hop.symm (by omega)]
                      rw [if_neg (by omega), if_neg (fun z => ?_), if_neg (fun z => ?_), if_pos ?_]
                      · exact ⟨⟨_, _, _, _, _, htm.1, zDj_le (F := zy_fr B ln tk) hI.1 (by have := zy_fr_le (B := B) dt; omega)⟩, htm.2⟩
                      · rw [yr_cm_eq]
                        repeat' split
                        all_goals omega
                      · exact htc z
                      · obtain ⟨z1, z2⟩ := z
                        have z2 := of_decide_eq_false z2
                        omega
                    · exfalso
                      omega
                · exfalso
                  omega
            · replace htx := zs_i1 htx hrx hcq55
              refine zp_const (pc := 181) hx hb (zd_X12_behindSum (181, .bipush 25, 2, 0, []) (List.mem_of_getElem? (i := 94) rfl)) rfl rfl ?_
              refine zp_goto (tgt := 202) (pc := 183) hx hb (zd_X12_behindSum (183, .goto 19, 3, 0, []) (List.mem_of_getElem? (i := 95) rfl)) rfl ?_
              refine zp_store (L' := [(2, 0, 25), (3, 0, rni), (0, 2, (a : Int)), (1, 0, p1)]) (pc := 202) hx hb hnL (zd_X12_behindSum (202, .istore_n 2, 1, 0, []) (List.mem_of_getElem? (i := 103) rfl)) rfl rfl rfl ?_
              refine zp_load (pc := 203) hx hb (zd_X12_behindSum (203, .aload_n 0, 1, 0, []) (List.mem_of_getElem? (i := 104) rfl)) rfl (j := 2) rfl ?_
              refine zp_load (pc := 204) hx hb (zd_X12_behindSum (204, .iload_n 2, 1, 0, []) (List.mem_of_getElem? (i := 105) rfl)) rfl (j := 0) rfl ?_
              refine zp_const (pc := 205) hx hb (zd_X12_behindSum (205, .bipush 27, 2, 0, []) (List.mem_of_getElem? (i := 106) rfl)) rfl rfl ?_
              refine zp_icmp (pc := 207) (tgt := 219) hx hb (zd_X12_behindSum (207, .if_icmp .ne 12, 3, 0, []) (List.mem_of_getElem? (i := 107) rfl)) rfl (fun (hcq66 : ¬ 25 = 27) => ?_) (fun (hcq66 : ¬ (¬ 25 = 27)) => ?_)
              · refine zp_const (pc := 219) hx hb (zd_X12_behindSum (219, .iconst 1, 1, 0, []) (List.mem_of_getElem? (i := 112) rfl)) rfl rfl ?_
                refine zp_goto (tgt := 224) (pc := 220) hx hb (zd_X12_behindSum (220, .goto 4, 3, 0, []) (List.mem_of_getElem? (i := 113) rfl)) rfl ?_
                refine zp_call (pc := 224) (how := 0) (idx := 275) (mi := 217) (S := []) hx hb hE hw heff hrm (zY_mu hW B ln tk nl od pi cd) rfl (j := 19) rfl rfl (by decide +kernel) (zd_X12_behindSum (224, .invokevirtual 275, 3, 0, []) (List.mem_of_getElem? (i := 115) rfl)) [(a : Int), 1] rfl ⟨zp_o2 hp, zp_o0 (by omega) (by omega) (by omega) (by omega), trivial⟩ (Nat.le_of_ble_eq_true rfl) hD (fun al hal rnm Pm Gm hextm hfrm hokm hcsm hpsim => ?_)
                obtain rfl := List.mem_singleton.mp hal
                obtain ⟨rfl, htm⟩ := hpsim
                replace htm : ((1 : Int) ≠ 1 → zD a Gm 1 B ln tk nl od pi cd ∧ Gm a 18 = (zy_fr B ln tk : Int)) ∧ ((1 : Int) = 1 → zD a Gm 0 B ln (zy_to B ln tk) nl od pi cd) := htm
                by_cases hmz : (1 : Int) = 1
                · replace htm := htm.2 hmz
                  have htm2 := htm
                  obtain ⟨⟨m13, ml, mt, m12, mB⟩, ⟨m14, m15, m16, m17⟩, ⟨m19, m18⟩, ⟨m23, m24, m25⟩, m26, ⟨m29, mp⟩, m30⟩ := htm2
                  refine zp_load (pc := 227) hx hb (zd_X12_behindSum (227, .aload_n 0, 1, 0, []) (List.mem_of_getElem? (i := 116) rfl)) rfl (j := 2) rfl ?_
                  refine zp_getf (n := 0) (pc := 228) hx hb hE hw (zd_X12_behindSum (228, .getfield 240, 3, 0, []) (List.mem_of_getElem? (i := 117) rfl)) (j := 37) rfl rfl rfl hp m19 ?_
                  refine zp_if (pc := 231) (tgt := 245) hx hb (zd_X12_behindSum (231, .ifCond .ne 14, 3, 0, []) (List.mem_of_getElem? (i := 118) rfl)) rfl (fun (hcq67 : ¬ 0 = 0) => ?_) (fun (hcq67 : ¬ (¬ 0 = 0)) => ?_)
                  · exfalso
                    omega
                  · refine zp_load (pc := 234) hx hb (zd_X12_behindSum (234, .aload_n 0, 1, 0, []) (List.mem_of_getElem? (i := 119) rfl)) rfl (j := 2) rfl ?_
                    refine zp_const (pc := 235) hx hb (zd_X12_behindSum (235, .iconst 5, 1, 0, []) (List.mem_of_getElem? (i := 120) rfl)) rfl rfl ?_
                    refine zp_call (pc := 236) (how := 0) (idx := 344) (mi := 231) (S := []) hx hb hE hw heff hrm (zY_se hW 0 B ln (zy_to B ln tk) nl od pi cd) rfl (j := 33) rfl rfl (by decide +kernel) (zd_X12_behindSum (236, .invokevirtual 344, 3, 0, []) (List.mem_of_getElem? (i := 121) rfl)) [(a : Int), 5] rfl ⟨zp_o2 hp, zp_o0 (by decide) (by decide) (by decide) (by decide), trivial⟩ (Nat.le_of_ble_eq_true rfl) ⟨htm, hj4⟩ (fun al hal rns Ps Gs hexts hfrs hoks hcss hpsis => ?_)
                    obtain rfl := List.mem_singleton.mp hal
                    obtain ⟨rfl, hts⟩ := hpsis
                    replace hts : zD a Gs 0 B ln (zy_to B ln tk) nl od (ym_se 5 pi cd).1 (ym_se 5 pi cd).2 := hts
                    refine zp_load (pc := 239) hx hb (zd_X12_behindSum (239, .aload_n 0, 1, 0, []) (List.mem_of_getElem? (i := 122) rfl)) rfl (j := 2) rfl ?_
                    refine zp_load (pc := 240) hx hb (zd_X12_behindSum (240, .iload_n 2, 1, 0, []) (List.mem_of_getElem? (i := 123) rfl)) rfl (j := 0) rfl ?_
                    refine zp_const (pc := 241) hx hb (zd_X12_behindSum (241, .iconst 0, 1, 0, []) (List.mem_of_getElem? (i := 124) rfl)) rfl rfl ?_
                    have hjs := zDj_se (least := 5) hj4
                    have hjs2 := zDj_se (least := 5) hI.1
                    have hjs2 : zDj (zy_fr B ln tk) (ym_se 5 pi cd).1 (ym_se 5 pi cd).2 := hjs2
                    have hpl := hjs2.2.1
                    have hs3 : zy_so B ln tk ≠ 0 := by rw [← hso]; omega
                    have hft := (zy_to_le (B := B) dt).2.2 hs3
                    have hft2 := (zy_to_le (B := B) dt).2.1
                    refine zp_call (pc := 242) (how := 0) (idx := 307) (mi := 220) (S := []) hx hb hE hw heff hrm (zY_pu hW 0 B ln (zy_to B ln tk) nl od (ym_se 5 pi cd).1 (ym_se 5 pi cd).2) rfl (j := 22) rfl rfl (by decide +kernel) (zd_X12_behindSum (242, .invokevirtual 307, 3, 0, []) (List.mem_of_getElem? (i := 125) rfl)) [(a : Int), 25, 0] rfl ⟨zp_o2 hp, zp_o0 (by omega) (by omega) (by omega) (by omega), zp_o0 (by decide) (by decide) (by decide) (by decide), trivial⟩ (Nat.le_of_ble_eq_true rfl) ⟨hts, by omega⟩ (fun al hal rnp Pp Gp hextp hfrp hokp hcsp hpsip => ?_)
                    obtain rfl := List.mem_singleton.mp hal
                    obtain ⟨rfl, htp⟩ := hpsip
                    refine zp_const (pc := 245) hx hb (zd_X12_behindSum (245, .iconst 1, 1, 0, []) (List.mem_of_getElem? (i := 126) rfl)) rfl rfl ?_
                    refine zp_iret (pc := 246) (n := 1) hx hb hE hQ hU5 rfl (by decide) (zd_X12_behindSum (246, .ireturn, 1, 0, []) (List.mem_of_getElem? (i := 127) rfl)) (j := 0) rfl (zp_o0 (by omega) (by omega) (by omega) (by omega)) ?_
                    rw [hps]
                    refine ⟨rfl, ?_⟩
                    show zDr a Gp B ln 1 (ym_bs (zy_so B ln) (zy_wo B ln) (zy_to B ln) (decide (p1 = 1)) tk nl od pi cd)
                    rw [cs op hop.symm (by omega)]
                    have hcm : yr_cm (zy_so B ln) (zy_wo B ln) tk = 25 := by
                      rw [yr_cm_eq]
                      repeat' split
                      all_goals omega
                    rw [hcm, if_neg (by omega), if_neg (fun z => ?_), if_neg (fun z => ?_), if_neg (by decide)]
                    · exact ⟨rfl, htp⟩
                    · exact htc z
                    · obtain ⟨z1, z2⟩ := z
                      have z2 := of_decide_eq_false z2
                      omega
                · replace htm := htm.1 hmz
                  have htm2 := htm.1
                  obtain ⟨⟨m13, ml, mt, m12, mB⟩, ⟨m14, m15, m16, m17⟩, ⟨m19, m18⟩, ⟨m23, m24, m25⟩, m26, ⟨m29, mp⟩, m30⟩ := htm2
                  refine zp_load (pc := 227) hx hb (zd_X12_behindSum (227, .aload_n 0, 1, 0, []) (List.mem_of_getElem? (i := 116) rfl)) rfl (j := 2) rfl ?_
                  refine zp_getf (n := 1) (pc := 228) hx hb hE hw (zd_X12_behindSum (228, .getfield 240, 3, 0, []) (List.mem_of_getElem? (i := 117) rfl)) (j := 37) rfl rfl rfl hp m19 ?_
                  refine zp_if (pc := 231) (tgt := 245) hx hb (zd_X12_behindSum (231, .ifCond .ne 14, 3, 0, []) (List.mem_of_getElem? (i := 118) rfl)) rfl (fun (hcq68 : ¬ 1 = 0) => ?_) (fun (hcq68 : ¬ (¬ 1 = 0)) => ?_)
                  · refine zp_const (pc := 245) hx hb (zd_X12_behindSum (245, .iconst 1, 1, 0, []) (List.mem_of_getElem? (i := 126) rfl)) rfl rfl ?_
                    refine zp_iret (pc := 246) (n := 1) hx hb hE hQ hU5 rfl (by decide) (zd_X12_behindSum (246, .ireturn, 1, 0, []) (List.mem_of_getElem? (i := 127) rfl)) (j := 0) rfl (zp_o0 (by omega) (by omega) (by omega) (by omega)) ?_
                    rw [hps]
                    refine ⟨rfl, ?_⟩
                    show zDr a Gm B ln 1 (ym_bs (zy_so B ln) (zy_wo B ln) (zy_to B ln) (decide (p1 = 1)) tk nl od pi cd)
                    rw [cs op hop.symm (by omega)]
                    rw [if_neg (by omega), if_neg (fun z => ?_), if_neg (fun z => ?_), if_pos ?_]
                    · exact ⟨⟨_, _, _, _, _, htm.1, zDj_le (F := zy_fr B ln tk) hI.1 (by have := zy_fr_le (B := B) dt; omega)⟩, htm.2⟩
                    · rw [yr_cm_eq]
                      repeat' split
                      all_goals omega
                    · exact htc z
                    · obtain ⟨z1, z2⟩ := z
                      have z2 := of_decide_eq_false z2
                      omega
                  · exfalso
                    omega
              · exfalso
                omega
          · replace htc := zs_i1 htc hrc hcq54
            refine zp_const (pc := 170) hx hb (zd_X12_behindSum (170, .iconst 2, 1, 0, []) (List.mem_of_getElem? (i := 88) rfl)) rfl rfl ?_
            refine zp_iret (pc := 171) (n := 2) hx hb hE hQ hU5 rfl (by decide) (zd_X12_behindSum (171, .ireturn, 1, 0, []) (List.mem_of_getElem? (i := 89) rfl)) (j := 0) rfl (zp_o0 (by omega) (by omega) (by omega) (by omega)) ?_
            rw [hps]
            refine ⟨rfl, ?_⟩
            show zDr a (zp_n u.2.1) B ln 2 (ym_bs (zy_so B ln) (zy_wo B ln) (zy_to B ln) (decide (p1 = 1)) tk nl od pi cd)
            rw [cs op hop.symm (by omega)]
            rw [if_neg (by omega), if_neg (fun z => ?_), if_pos htc]
            · exact ⟨rfl, hD⟩
            · obtain ⟨z1, z2⟩ := z
              have z2 := of_decide_eq_false z2
              omega
        · refine zp_load (pc := 157) hx hb (zd_X12_behindSum (157, .iload_n 1, 1, 0, []) (List.mem_of_getElem? (i := 81) rfl)) rfl (j := 3) rfl ?_
          refine zp_if (pc := 158) (tgt := 163) hx hb (zd_X12_behindSum (158, .ifCond .ne 5, 3, 0, []) (List.mem_of_getElem? (i := 82) rfl)) rfl (fun (hcq69 : ¬ p1 = 0) => ?_) (fun (hcq69 : ¬ (¬ p1 = 0)) => ?_)
          · refine zp_load (pc := 163) hx hb (zd_X12_behindSum (163, .aload_n 0, 1, 0, []) (List.mem_of_getElem? (i := 85) rfl)) rfl (j := 2) rfl ?_
            refine zp_call (pc := 164) (how := 0) (idx := 350) (mi := 233) (S := []) hx hb hE hw heff hrm (zY_ic hW pi) rfl (j := 35) rfl rfl (by decide +kernel) (zd_X12_behindSum (164, .invokevirtual 350, 3, 0, []) (List.mem_of_getElem? (i := 86) rfl)) [(a : Int)] rfl ⟨zp_o2 hp, trivial⟩ (Nat.le_of_ble_eq_true rfl) ⟨dp, d29⟩ (fun al hal rnc Pc Gc hextc hfrc hokc hcsc hpsic => ?_)
            obtain rfl := List.mem_singleton.mp hal
            have hrc := zp_int (hokc _ rfl).1
            obtain ⟨hPec, hGec, htc⟩ := hpsic
            rw [hPec, hGec]
            replace htc : rnc = 1 ↔ ym_cd pi = true := htc
            refine zp_if (pc := 167) (tgt := 172) hx hb (zd_X12_behindSum (167, .ifCond .eq 5, 3, 0, []) (List.mem_of_getElem? (i := 87) rfl)) rfl (fun (hcq70 : rnc = 0) => ?_) (fun (hcq70 : ¬ (rnc = 0)) => ?_)
            · replace htc := zs_i0 htc hcq70
              refine zp_load (pc := 172) hx hb (zd_X12_behindSum (172, .aload_n 0, 1, 0, []) (List.mem_of_getElem? (i := 90) rfl)) rfl (j := 2) rfl ?_
              refine zp_const (pc := 173) hx hb (zd_X12_behindSum (173, .bipush 60, 2, 0, []) (List.mem_of_getElem? (i := 91) rfl)) rfl rfl ?_
              refine zp_call (pc := 175) (how := 0) (idx := 313) (mi := 221) (S := []) hx hb hE hw heff hrm (zY_si hW) rfl (j := 23) rfl rfl (by decide +kernel) (zd_X12_behindSum (175, .invokevirtual 313, 3, 0, []) (List.mem_of_getElem? (i := 92) rfl)) [(a : Int), 60] rfl ⟨zp_o2 hp, zp_o0 (by decide) (by decide) (by decide) (by decide), trivial⟩ (Nat.le_of_ble_eq_true rfl) trivial (fun al hal rnx Px Gx hextx hfrx hokx hcsx hpsix => ?_)
              obtain rfl := List.mem_singleton.mp hal
              have hrx := zp_int (hokx _ rfl).1
              obtain ⟨hPex, hGex, htx⟩ := hpsix
              rw [hPex, hGex]
              replace htx : rnx = 1 ↔ zp_n u.2.1 a 16 = 3 ∧ zp_n u.2.1 a 17 = 60 := htx
              rw [d16, d17] at htx
              refine zp_if (pc := 178) (tgt := 186) hx hb (zd_X12_behindSum (178, .ifCond .eq 8, 3, 0, []) (List.mem_of_getElem? (i := 93) rfl)) rfl (fun (hcq71 : rnx = 0) => ?_) (fun (hcq71 : ¬ (rnx = 0)) => ?_)
              · replace htx := zs_i0 htx hcq71
                refine zp_load (pc := 186) hx hb (zd_X12_behindSum (186, .aload_n 0, 1, 0, []) (List.mem_of_getElem? (i := 96) rfl)) rfl (j := 2) rfl ?_
                refine zp_const (pc := 187) hx hb (zd_X12_behindSum (187, .bipush 62, 2, 0, []) (List.mem_of_getElem? (i := 97) rfl)) rfl rfl ?_
                refine zp_call (pc := 189) (how := 0) (idx := 313) (mi := 221) (S := []) hx hb hE hw heff hrm (zY_si hW) rfl (j := 23) rfl rfl (by decide +kernel) (zd_X12_behindSum (189, .invokevirtual 313, 3, 0, []) (List.mem_of_getElem? (i := 98) rfl)) [(a : Int), 62] rfl ⟨zp_o2 hp, zp_o0 (by decide) (by decide) (by decide) (by decide), trivial⟩ (Nat.le_of_ble_eq_true rfl) trivial (fun al hal rny Py Gy hexty hfry hoky hcsy hpsiy => ?_)
                obtain rfl := List.mem_singleton.mp hal
                have hry := zp_int (hoky _ rfl).1
                obtain ⟨hPey, hGey, hty⟩ := hpsiy
                rw [hPey, hGey]
                replace hty : rny = 1 ↔ zp_n u.2.1 a 16 = 3 ∧ zp_n u.2.1 a 17 = 62 := hty
                rw [d16, d17] at hty
                refine zp_if (pc := 192) (tgt := 200) hx hb (zd_X12_behindSum (192, .ifCond .eq 8, 3, 0, []) (List.mem_of_getElem? (i := 99) rfl)) rfl (fun (hcq72 : rny = 0) => ?_) (fun (hcq72 : ¬ (rny = 0)) => ?_)
                · replace hty := zs_i0 hty hcq72
                  refine zp_const (pc := 200) hx hb (zd_X12_behindSum (200, .bipush 27, 2, 0, []) (List.mem_of_getElem? (i := 102) rfl)) rfl rfl ?_
                  refine zp_store (L' := [(2, 0, 27), (3, 0, rni), (0, 2, (a : Int)), (1, 0, p1)]) (pc := 202) hx hb hnL (zd_X12_behindSum (202, .istore_n 2, 1, 0, []) (List.mem_of_getElem? (i := 103) rfl)) rfl rfl rfl ?_
                  refine zp_load (pc := 203) hx hb (zd_X12_behindSum (203, .aload_n 0, 1, 0, []) (List.mem_of_getElem? (i := 104) rfl)) rfl (j := 2) rfl ?_
                  refine zp_load (pc := 204) hx hb (zd_X12_behindSum (204, .iload_n 2, 1, 0, []) (List.mem_of_getElem? (i := 105) rfl)) rfl (j := 0) rfl ?_
                  refine zp_const (pc := 205) hx hb (zd_X12_behindSum (205, .bipush 27, 2, 0, []) (List.mem_of_getElem? (i := 106) rfl)) rfl rfl ?_
                  refine zp_icmp (pc := 207) (tgt := 219) hx hb (zd_X12_behindSum (207, .if_icmp .ne 12, 3, 0, []) (List.mem_of_getElem? (i := 107) rfl)) rfl (fun (hcq73 : ¬ 27 = 27) => ?_) (fun (hcq73 : ¬ (¬ 27 = 27)) => ?_)
                  · exfalso
                    omega
                  · refine zp_load (pc := 210) hx hb (zd_X12_behindSum (210, .aload_n 0, 1, 0, []) (List.mem_of_getElem? (i := 108) rfl)) rfl (j := 2) rfl ?_
                    refine zp_const (pc := 211) hx hb (zd_X12_behindSum (211, .bipush 61, 2, 0, []) (List.mem_of_getElem? (i := 109) rfl)) rfl rfl ?_
                    refine zp_call (pc := 213) (how := 0) (idx := 313) (mi := 221) (S := [(2, (a : Int))]) hx hb hE hw heff hrm (zY_si hW) rfl (j := 23) rfl rfl (by decide +kernel) (zd_X12_behindSum (213, .invokevirtual 313, 3, 0, []) (List.mem_of_getElem? (i := 110) rfl)) [(a : Int), 61] rfl ⟨zp_o2 hp, zp_o0 (by decide) (by decide) (by decide) (by decide), trivial⟩ (Nat.le_of_ble_eq_true rfl) trivial (fun al hal rnz Pz Gz hextz hfrz hokz hcsz hpsiz => ?_)
                    obtain rfl := List.mem_singleton.mp hal
                    have hrz := zp_int (hokz _ rfl).1
                    obtain ⟨hPez, hGez, htz⟩ := hpsiz
                    rw [hPez, hGez]
                    replace htz : rnz = 1 ↔ zp_n u.2.1 a 16 = 3 ∧ zp_n u.2.1 a 17 = 61 := htz
                    rw [d16, d17] at htz
                    refine zp_if (pc := 216) (tgt := 223) hx hb (zd_X12_behindSum (216, .ifCond .eq 7, 3, 0, []) (List.mem_of_getElem? (i := 111) rfl)) rfl (fun (hcq74 : rnz = 0) => ?_) (fun (hcq74 : ¬ (rnz = 0)) => ?_)
                    · replace htz := zs_i0 htz hcq74
                      refine zp_const (pc := 223) hx hb (zd_X12_behindSum (223, .iconst 0, 1, 0, []) (List.mem_of_getElem? (i := 114) rfl)) rfl rfl ?_
                      refine zp_call (pc := 224) (how := 0) (idx := 275) (mi := 217) (S := []) hx hb hE hw heff hrm (zY_mu hW B ln tk nl od pi cd) rfl (j := 19) rfl rfl (by decide +kernel) (zd_X12_behindSum (224, .invokevirtual 275, 3, 0, []) (List.mem_of_getElem? (i := 115) rfl)) [(a : Int), 0] rfl ⟨zp_o2 hp, zp_o0 (by omega) (by omega) (by omega) (by omega), trivial⟩ (Nat.le_of_ble_eq_true rfl) hD (fun al hal rnm Pm Gm hextm hfrm hokm hcsm hpsim => ?_)
                      obtain rfl := List.mem_singleton.mp hal
                      obtain ⟨rfl, htm⟩ := hpsim
                      replace htm : ((0 : Int) ≠ 1 → zD a Gm 1 B ln tk nl od pi cd ∧ Gm a 18 = (zy_fr B ln tk : Int)) ∧ ((0 : Int) = 1 → zD a Gm 0 B ln (zy_to B ln tk) nl od pi cd) := htm
                      by_cases hmz : (0 : Int) = 1
                      · replace htm := htm.2 hmz
                        have htm2 := htm
                        obtain ⟨⟨m13, ml, mt, m12, mB⟩, ⟨m14, m15, m16, m17⟩, ⟨m19, m18⟩, ⟨m23, m24, m25⟩, m26, ⟨m29, mp⟩, m30⟩ := htm2
                        refine zp_load (pc := 227) hx hb (zd_X12_behindSum (227, .aload_n 0, 1, 0, []) (List.mem_of_getElem? (i := 116) rfl)) rfl (j := 2) rfl ?_
                        refine zp_getf (n := 0) (pc := 228) hx hb hE hw (zd_X12_behindSum (228, .getfield 240, 3, 0, []) (List.mem_of_getElem? (i := 117) rfl)) (j := 37) rfl rfl rfl hp m19 ?_
                        refine zp_if (pc := 231) (tgt := 245) hx hb (zd_X12_behindSum (231, .ifCond .ne 14, 3, 0, []) (List.mem_of_getElem? (i := 118) rfl)) rfl (fun (hcq75 : ¬ 0 = 0) => ?_) (fun (hcq75 : ¬ (¬ 0 = 0)) => ?_)
                        · exfalso
                          omega
                        · refine zp_load (pc := 234) hx hb (zd_X12_behindSum (234, .aload_n 0, 1, 0, []) (List.mem_of_getElem? (i := 119) rfl)) rfl (j := 2) rfl ?_
                          refine zp_const (pc := 235) hx hb (zd_X12_behindSum (235, .iconst 5, 1, 0, []) (List.mem_of_getElem? (i := 120) rfl)) rfl rfl ?_
                          refine zp_call (pc := 236) (how := 0) (idx := 344) (mi := 231) (S := []) hx hb hE hw heff hrm (zY_se hW 0 B ln (zy_to B ln tk) nl od pi cd) rfl (j := 33) rfl rfl (by decide +kernel) (zd_X12_behindSum (236, .invokevirtual 344, 3, 0, []) (List.mem_of_getElem? (i := 121) rfl)) [(a : Int), 5] rfl ⟨zp_o2 hp, zp_o0 (by decide) (by decide) (by decide) (by decide), trivial⟩ (Nat.le_of_ble_eq_true rfl) ⟨htm, hj4⟩ (fun al hal rns Ps Gs hexts hfrs hoks hcss hpsis => ?_)
                          obtain rfl := List.mem_singleton.mp hal
                          obtain ⟨rfl, hts⟩ := hpsis
                          replace hts : zD a Gs 0 B ln (zy_to B ln tk) nl od (ym_se 5 pi cd).1 (ym_se 5 pi cd).2 := hts
                          refine zp_load (pc := 239) hx hb (zd_X12_behindSum (239, .aload_n 0, 1, 0, []) (List.mem_of_getElem? (i := 122) rfl)) rfl (j := 2) rfl ?_
                          refine zp_load (pc := 240) hx hb (zd_X12_behindSum (240, .iload_n 2, 1, 0, []) (List.mem_of_getElem? (i := 123) rfl)) rfl (j := 0) rfl ?_
                          refine zp_const (pc := 241) hx hb (zd_X12_behindSum (241, .iconst 0, 1, 0, []) (List.mem_of_getElem? (i := 124) rfl)) rfl rfl ?_
                          have hjs := zDj_se (least := 5) hj4
                          have hjs2 := zDj_se (least := 5) hI.1
                          have hjs2 : zDj (zy_fr B ln tk) (ym_se 5 pi cd).1 (ym_se 5 pi cd).2 := hjs2
                          have hpl := hjs2.2.1
                          have hs3 : zy_so B ln tk ≠ 0 := by rw [← hso]; omega
                          have hft := (zy_to_le (B := B) dt).2.2 hs3
                          have hft2 := (zy_to_le (B := B) dt).2.1
                          refine zp_call (pc := 242) (how := 0) (idx := 307) (mi := 220) (S := []) hx hb hE hw heff hrm (zY_pu hW 0 B ln (zy_to B ln tk) nl od (ym_se 5 pi cd).1 (ym_se 5 pi cd).2) rfl (j := 22) rfl rfl (by decide +kernel) (zd_X12_behindSum (242, .invokevirtual 307, 3, 0, []) (List.mem_of_getElem? (i := 125) rfl)) [(a : Int), 27, 0] rfl ⟨zp_o2 hp, zp_o0 (by omega) (by omega) (by omega) (by omega), zp_o0 (by decide) (by decide) (by decide) (by decide), trivial⟩ (Nat.le_of_ble_eq_true rfl) ⟨hts, by omega⟩ (fun al hal rnp Pp Gp hextp hfrp hokp hcsp hpsip => ?_)
                          obtain rfl := List.mem_singleton.mp hal
                          obtain ⟨rfl, htp⟩ := hpsip
                          refine zp_const (pc := 245) hx hb (zd_X12_behindSum (245, .iconst 1, 1, 0, []) (List.mem_of_getElem? (i := 126) rfl)) rfl rfl ?_
                          refine zp_iret (pc := 246) (n := 1) hx hb hE hQ hU5 rfl (by decide) (zd_X12_behindSum (246, .ireturn, 1, 0, []) (List.mem_of_getElem? (i := 127) rfl)) (j := 0) rfl (zp_o0 (by omega) (by omega) (by omega) (by omega)) ?_
                          rw [hps]
                          refine ⟨rfl, ?_⟩
                          show zDr a Gp B ln 1 (ym_bs (zy_so B ln) (zy_wo B ln) (zy_to B ln) (decide (p1 = 1)) tk nl od pi cd)
                          rw [cs op hop.symm (by omega)]
                          have hcm : yr_cm (zy_so B ln) (zy_wo B ln) tk = 27 := by
                            rw [yr_cm_eq]
                            repeat' split
                            all_goals omega
                          rw [hcm, if_neg (by omega), if_neg (fun z => ?_), if_neg (fun z => ?_), if_neg (by decide)]
                          · exact ⟨rfl, htp⟩
                          · exact htc z
                          · obtain ⟨z1, z2⟩ := z
                            have z2 := of_decide_eq_false z2
                            omega
                      · replace htm := htm.1 hmz
                        have htm2 := htm.1
                        obtain ⟨⟨m13, ml, mt, m12, mB⟩, ⟨m14, m15, m16, m17⟩, ⟨m19, m18⟩, ⟨m23, m24, m25⟩, m26, ⟨m29, mp⟩, m30⟩ := htm2
                        refine zp_load (pc := 227) hx hb (zd_X12_behindSum (227, .aload_n 0, 1, 0, []) (List.mem_of_getElem? (i := 116) rfl)) rfl (j := 2) rfl ?_
                        refine zp_getf (n := 1) (pc := 228) hx hb hE hw (zd_X12_behindSum (228, .getfield 240, 3, 0, []) (List.mem_of_getElem? (i := 117) rfl)) (j := 37) rfl rfl rfl hp m19 ?_
                        refine zp_if (pc := 231) (tgt := 245) hx hb (zd_X12_behindSum (231, .ifCond .ne 14, 3, 0, []) (List.mem_of_getElem? (i := 118) rfl)) rfl (fun (hcq76 : ¬ 1 = 0) => ?_) (fun (hcq76 : ¬ (¬ 1 = 0)) => ?_)
                        · refine zp_const (pc := 245) hx hb (zd_X12_behindSum (245, .iconst 1, 1, 0, []) (List.mem_of_getElem? (i := 126) rfl)) rfl rfl ?_
                          refine zp_iret (pc := 246) (n := 1) hx hb hE hQ hU5 rfl (by decide) (zd_X12_behindSum (246, .ireturn, 1, 0, []) (List.mem_of_getElem? (i := 127) rfl)) (j := 0) rfl (zp_o0 (by omega) (by omega) (by omega) (by omega)) ?_
                          rw [hps]
                          refine ⟨rfl, ?_⟩
                          show zDr a Gm B ln 1 (ym_bs (zy_so B ln) (zy_wo B ln) (zy_to B ln) (decide (p1 = 1)) tk nl od pi cd)
                          rw [cs op hop.symm (by omega)]
                          rw [if_neg (by omega), if_neg (fun z => ?_), if_neg (fun z => ?_), if_pos ?_]
                          · exact ⟨⟨_, _, _, _, _, htm.1, zDj_le (F := zy_fr B ln tk) hI.1 (by have := zy_fr_le (B := B) dt; omega)⟩, htm.2⟩
                          · rw [yr_cm_eq]
                            repeat' split
                            all_goals omega
                          · exact htc z
                          · obtain ⟨z1, z2⟩ := z
                            have z2 := of_decide_eq_false z2
                            omega
                        · exfalso
                          omega
                    · replace htz := zs_i1 htz hrz hcq74
                      refine zp_const (pc := 219) hx hb (zd_X12_behindSum (219, .iconst 1, 1, 0, []) (List.mem_of_getElem? (i := 112) rfl)) rfl rfl ?_
                      refine zp_goto (tgt := 224) (pc := 220) hx hb (zd_X12_behindSum (220, .goto 4, 3, 0, []) (List.mem_of_getElem? (i := 113) rfl)) rfl ?_
                      refine zp_call (pc := 224) (how := 0) (idx := 275) (mi := 217) (S := []) hx hb hE hw heff hrm (zY_mu hW B ln tk nl od pi cd) rfl (j := 19) rfl rfl (by decide +kernel) (zd_X12_behindSum (224, .invokevirtual 275, 3, 0, []) (List.mem_of_getElem? (i := 115) rfl)) [(a : Int), 1] rfl ⟨zp_o2 hp, zp_o0 (by omega) (by omega) (by omega) (by omega), trivial⟩ (Nat.le_of_ble_eq_true rfl) hD (fun al hal rnm Pm Gm hextm hfrm hokm hcsm hpsim => ?_)
                      obtain rfl := List.mem_singleton.mp hal
                      obtain ⟨rfl, htm⟩ := hpsim
                      replace htm : ((1 : Int) ≠ 1 → zD a Gm 1 B ln tk nl od pi cd ∧ Gm a 18 = (zy_fr B ln tk : Int)) ∧ ((1 : Int) = 1 → zD a Gm 0 B ln (zy_to B ln tk) nl od pi cd) := htm
                      by_cases hmz : (1 : Int) = 1
                      · replace htm := htm.2 hmz
                        have htm2 := htm
                        obtain ⟨⟨m13, ml, mt, m12, mB⟩, ⟨m14, m15, m16, m17⟩, ⟨m19, m18⟩, ⟨m23, m24, m25⟩, m26, ⟨m29, mp⟩, m30⟩ := htm2
                        refine zp_load (pc := 227) hx hb (zd_X12_behindSum (227, .aload_n 0, 1, 0, []) (List.mem_of_getElem? (i := 116) rfl)) rfl (j := 2) rfl ?_
                        refine zp_getf (n := 0) (pc := 228) hx hb hE hw (zd_X12_behindSum (228, .getfield 240, 3, 0, []) (List.mem_of_getElem? (i := 117) rfl)) (j := 37) rfl rfl rfl hp m19 ?_
                        refine zp_if (pc := 231) (tgt := 245) hx hb (zd_X12_behindSum (231, .ifCond .ne 14, 3, 0, []) (List.mem_of_getElem? (i := 118) rfl)) rfl (fun (hcq77 : ¬ 0 = 0) => ?_) (fun (hcq77 : ¬ (¬ 0 = 0)) => ?_)
                        · exfalso
                          omega
                        · refine zp_load (pc := 234) hx hb (zd_X12_behindSum (234, .aload_n 0, 1, 0, []) (List.mem_of_getElem? (i := 119) rfl)) rfl (j := 2) rfl ?_
                          refine zp_const (pc := 235) hx hb (zd_X12_behindSum (235, .iconst 5, 1, 0, []) (List.mem_of_getElem? (i := 120) rfl)) rfl rfl ?_
                          refine zp_call (pc := 236) (how := 0) (idx := 344) (mi := 231) (S := []) hx hb hE hw heff hrm (zY_se hW 0 B ln (zy_to B ln tk) nl od pi cd) rfl (j := 33) rfl rfl (by decide +kernel) (zd_X12_behindSum (236, .invokevirtual 344, 3, 0, []) (List.mem_of_getElem? (i := 121) rfl)) [(a : Int), 5] rfl ⟨zp_o2 hp, zp_o0 (by decide) (by decide) (by decide) (by decide), trivial⟩ (Nat.le_of_ble_eq_true rfl) ⟨htm, hj4⟩ (fun al hal rns Ps Gs hexts hfrs hoks hcss hpsis => ?_)
                          obtain rfl := List.mem_singleton.mp hal
                          obtain ⟨rfl, hts⟩ := hpsis
                          replace hts : zD a Gs 0 B ln (zy_to B ln tk) nl od (ym_se 5 pi cd).1 (ym_se 5 pi cd).2 := hts
                          refine zp_load (pc := 239) hx hb (zd_X12_behindSum (239, .aload_n 0, 1, 0, []) (List.mem_of_getElem? (i := 122) rfl)) rfl (j := 2) rfl ?_
                          refine zp_load (pc := 240) hx hb (zd_X12_behindSum (240, .iload_n 2, 1, 0, []) (List.mem_of_getElem? (i := 123) rfl)) rfl (j := 0) rfl ?_
                          refine zp_const (pc := 241) hx hb (zd_X12_behindSum (241, .iconst 0, 1, 0, []) (List.mem_of_getElem? (i := 124) rfl)) rfl rfl ?_
                          have hjs := zDj_se (least := 5) hj4
                          have hjs2 := zDj_se (least := 5) hI.1
                          have hjs2 : zDj (zy_fr B ln tk) (ym_se 5 pi cd).1 (ym_se 5 pi cd).2 := hjs2
                          have hpl := hjs2.2.1
                          have hs3 : zy_so B ln tk ≠ 0 := by rw [← hso]; omega
                          have hft := (zy_to_le (B := B) dt).2.2 hs3
                          have hft2 := (zy_to_le (B := B) dt).2.1
                          refine zp_call (pc := 242) (how := 0) (idx := 307) (mi := 220) (S := []) hx hb hE hw heff hrm (zY_pu hW 0 B ln (zy_to B ln tk) nl od (ym_se 5 pi cd).1 (ym_se 5 pi cd).2) rfl (j := 22) rfl rfl (by decide +kernel) (zd_X12_behindSum (242, .invokevirtual 307, 3, 0, []) (List.mem_of_getElem? (i := 125) rfl)) [(a : Int), 27, 0] rfl ⟨zp_o2 hp, zp_o0 (by omega) (by omega) (by omega) (by omega), zp_o0 (by decide) (by decide) (by decide) (by decide), trivial⟩ (Nat.le_of_ble_eq_true rfl) ⟨hts, by omega⟩ (fun al hal rnp Pp Gp hextp hfrp hokp hcsp hpsip => ?_)
                          obtain rfl := List.mem_singleton.mp hal
                          obtain ⟨rfl, htp⟩ := hpsip
                          refine zp_const (pc := 245) hx hb (zd_X12_behindSum (245, .iconst 1, 1, 0, []) (List.mem_of_getElem? (i := 126) rfl)) rfl rfl ?_
                          refine zp_iret (pc := 246) (n := 1) hx hb hE hQ hU5 rfl (by decide) (zd_X12_behindSum (246, .ireturn, 1, 0, []) (List.mem_of_getElem? (i := 127) rfl)) (j := 0) rfl (zp_o0 (by omega) (by omega) (by omega) (by omega)) ?_
                          rw [hps]
                          refine ⟨rfl, ?_⟩
                          show zDr a Gp B ln 1 (ym_bs (zy_so B ln) (zy_wo B ln) (zy_to B ln) (decide (p1 = 1)) tk nl od pi cd)
                          rw [cs op hop.symm (by omega)]
                          have hcm : yr_cm (zy_so B ln) (zy_wo B ln) tk = 27 := by
                            rw [yr_cm_eq]
                            repeat' split
                            all_goals omega
                          rw [hcm, if_neg (by omega), if_neg (fun z => ?_), if_neg (fun z => ?_), if_neg (by decide)]
                          · exact ⟨rfl, htp⟩
                          · exact htc z
                          · obtain ⟨z1, z2⟩ := z
                            have z2 := of_decide_eq_false z2
                            omega
                      · replace htm := htm.1 hmz
                        have htm2 := htm.1
                        obtain ⟨⟨m13, ml, mt, m12, mB⟩, ⟨m14, m15, m16, m17⟩, ⟨m19, m18⟩, ⟨m23, m24, m25⟩, m26, ⟨m29, mp⟩, m30⟩ := htm2
                        refine zp_load (pc := 227) hx hb (zd_X12_behindSum (227, .aload_n 0, 1, 0, []) (List.mem_of_getElem? (i := 116) rfl)) rfl (j := 2) rfl ?_
                        refine zp_getf (n := 1) (pc := 228) hx hb hE hw (zd_X12_behindSum (228, .getfield 240, 3, 0, []) (List.mem_of_getElem? (i := 117) rfl)) (j := 37) rfl rfl rfl hp m19 ?_
                        refine zp_if (pc := 231) (tgt := 245) hx hb (zd_X12_behindSum (231, .ifCond .ne 14, 3, 0, []) (List.mem_of_getElem? (i := 118) rfl)) rfl (fun (hcq78 : ¬ 1 = 0) => ?_) (fun (hcq78 : ¬ (¬ 1 = 0)) => ?_)
                        · refine zp_const (pc := 245) hx hb (zd_X12_behindSum (245, .iconst 1, 1, 0, []) (List.mem_of_getElem? (i := 126) rfl)) rfl rfl ?_
                          refine zp_iret (pc := 246) (n := 1) hx hb hE hQ hU5 rfl (by decide) (zd_X12_behindSum (246, .ireturn, 1, 0, []) (List.mem_of_getElem? (i := 127) rfl)) (j := 0) rfl (zp_o0 (by omega) (by omega) (by omega) (by omega)) ?_
                          rw [hps]
                          refine ⟨rfl, ?_⟩
                          show zDr a Gm B ln 1 (ym_bs (zy_so B ln) (zy_wo B ln) (zy_to B ln) (decide (p1 = 1)) tk nl od pi cd)
                          rw [cs op hop.symm (by omega)]
                          rw [if_neg (by omega), if_neg (fun z => ?_), if_neg (fun z => ?_), if_pos ?_]
                          · exact ⟨⟨_, _, _, _, _, htm.1, zDj_le (F := zy_fr B ln tk) hI.1 (by have := zy_fr_le (B := B) dt; omega)⟩, htm.2⟩
                          · rw [yr_cm_eq]
                            repeat' split
                            all_goals omega
                          · exact htc z
                          · obtain ⟨z1, z2⟩ := z
                            have z2 := of_decide_eq_false z2
                            omega
                        · exfalso
                          omega
                · replace hty := zs_i1 hty hry hcq72
                  refine zp_const (pc := 195) hx hb (zd_X12_behindSum (195, .bipush 26, 2, 0, []) (List.mem_of_getElem? (i := 100) rfl)) rfl rfl ?_
                  refine zp_goto (tgt := 202) (pc := 197) hx hb (zd_X12_behindSum (197, .goto 5, 3, 0, []) (List.mem_of_getElem? (i := 101) rfl)) rfl ?_
                  refine zp_store (L' := [(2, 0, 26), (3, 0, rni), (0, 2, (a : Int)), (1, 0, p1)]) (pc := 202) hx hb hnL (zd_X12_behindSum (202, .istore_n 2, 1, 0, []) (List.mem_of_getElem? (i := 103) rfl)) rfl rfl rfl ?_
                  refine zp_load (pc := 203) hx hb (zd_X12_behindSum (203, .aload_n 0, 1, 0, []) (List.mem_of_getElem? (i := 104) rfl)) rfl (j := 2) rfl ?_
                  refine zp_load (pc := 204) hx hb (zd_X12_behindSum (204, .iload_n 2, 1, 0, []) (List.mem_of_getElem? (i := 105) rfl)) rfl (j := 0) rfl ?_
                  refine zp_const (pc := 205) hx hb (zd_X12_behindSum (205, .bipush 27, 2, 0, []) (List.mem_of_getElem? (i := 106) rfl)) rfl rfl ?_
                  refine zp_icmp (pc := 207) (tgt := 219) hx hb (zd_X12_behindSum (207, .if_icmp .ne 12, 3, 0, []) (List.mem_of_getElem? (i := 107) rfl)) rfl (fun (hcq79 : ¬ 26 = 27) => ?_) (fun (hcq79 : ¬ (¬ 26 = 27)) => ?_)
                  · refine zp_const (pc := 219) hx hb (zd_X12_behindSum (219, .iconst 1, 1, 0, []) (List.mem_of_getElem? (i := 112) rfl)) rfl rfl ?_
                    refine zp_goto (tgt := 224) (pc := 220) hx hb (zd_X12_behindSum (220, .goto 4, 3, 0, []) (List.mem_of_getElem? (i := 113) rfl)) rfl ?_
                    refine zp_call (pc := 224) (how := 0) (idx := 275) (mi := 217) (S := []) hx hb hE hw heff hrm (zY_mu hW B ln tk nl od pi cd) rfl (j := 19) rfl rfl (by decide +kernel) (zd_X12_behindSum (224, .invokevirtual 275, 3, 0, []) (List.mem_of_getElem? (i := 115) rfl)) [(a : Int), 1] rfl ⟨zp_o2 hp, zp_o0 (by omega) (by omega) (by omega) (by omega), trivial⟩ (Nat.le_of_ble_eq_true rfl) hD (fun al hal rnm Pm Gm hextm hfrm hokm hcsm hpsim => ?_)
                    obtain rfl := List.mem_singleton.mp hal
                    obtain ⟨rfl, htm⟩ := hpsim
                    replace htm : ((1 : Int) ≠ 1 → zD a Gm 1 B ln tk nl od pi cd ∧ Gm a 18 = (zy_fr B ln tk : Int)) ∧ ((1 : Int) = 1 → zD a Gm 0 B ln (zy_to B ln tk) nl od pi cd) := htm
                    by_cases hmz : (1 : Int) = 1
                    · replace htm := htm.2 hmz
                      have htm2 := htm
                      obtain ⟨⟨m13, ml, mt, m12, mB⟩, ⟨m14, m15, m16, m17⟩, ⟨m19, m18⟩, ⟨m23, m24, m25⟩, m26, ⟨m29, mp⟩, m30⟩ := htm2
                      refine zp_load (pc := 227) hx hb (zd_X12_behindSum (227, .aload_n 0, 1, 0, []) (List.mem_of_getElem? (i := 116) rfl)) rfl (j := 2) rfl ?_
                      refine zp_getf (n := 0) (pc := 228) hx hb hE hw (zd_X12_behindSum (228, .getfield 240, 3, 0, []) (List.mem_of_getElem? (i := 117) rfl)) (j := 37) rfl rfl rfl hp m19 ?_
                      refine zp_if (pc := 231) (tgt := 245) hx hb (zd_X12_behindSum (231, .ifCond .ne 14, 3, 0, []) (List.mem_of_getElem? (i := 118) rfl)) rfl (fun (hcq80 : ¬ 0 = 0) => ?_) (fun (hcq80 : ¬ (¬ 0 = 0)) => ?_)
                      · exfalso
                        omega
                      · refine zp_load (pc := 234) hx hb (zd_X12_behindSum (234, .aload_n 0, 1, 0, []) (List.mem_of_getElem? (i := 119) rfl)) rfl (j := 2) rfl ?_
                        refine zp_const (pc := 235) hx hb (zd_X12_behindSum (235, .iconst 5, 1, 0, []) (List.mem_of_getElem? (i := 120) rfl)) rfl rfl ?_
                        refine zp_call (pc := 236) (how := 0) (idx := 344) (mi := 231) (S := []) hx hb hE hw heff hrm (zY_se hW 0 B ln (zy_to B ln tk) nl od pi cd) rfl (j := 33) rfl rfl (by decide +kernel) (zd_X12_behindSum (236, .invokevirtual 344, 3, 0, []) (List.mem_of_getElem? (i := 121) rfl)) [(a : Int), 5] rfl ⟨zp_o2 hp, zp_o0 (by decide) (by decide) (by decide) (by decide), trivial⟩ (Nat.le_of_ble_eq_true rfl) ⟨htm, hj4⟩ (fun al hal rns Ps Gs hexts hfrs hoks hcss hpsis => ?_)
                        obtain rfl := List.mem_singleton.mp hal
                        obtain ⟨rfl, hts⟩ := hpsis
                        replace hts : zD a Gs 0 B ln (zy_to B ln tk) nl od (ym_se 5 pi cd).1 (ym_se 5 pi cd).2 := hts
                        refine zp_load (pc := 239) hx hb (zd_X12_behindSum (239, .aload_n 0, 1, 0, []) (List.mem_of_getElem? (i := 122) rfl)) rfl (j := 2) rfl ?_
                        refine zp_load (pc := 240) hx hb (zd_X12_behindSum (240, .iload_n 2, 1, 0, []) (List.mem_of_getElem? (i := 123) rfl)) rfl (j := 0) rfl ?_
                        refine zp_const (pc := 241) hx hb (zd_X12_behindSum (241, .iconst 0, 1, 0, []) (List.mem_of_getElem? (i := 124) rfl)) rfl rfl ?_
                        have hjs := zDj_se (least := 5) hj4
                        have hjs2 := zDj_se (least := 5) hI.1
                        have hjs2 : zDj (zy_fr B ln tk) (ym_se 5 pi cd).1 (ym_se 5 pi cd).2 := hjs2
                        have hpl := hjs2.2.1
                        have hs3 : zy_so B ln tk ≠ 0 := by rw [← hso]; omega
                        have hft := (zy_to_le (B := B) dt).2.2 hs3
                        have hft2 := (zy_to_le (B := B) dt).2.1
                        refine zp_call (pc := 242) (how := 0) (idx := 307) (mi := 220) (S := []) hx hb hE hw heff hrm (zY_pu hW 0 B ln (zy_to B ln tk) nl od (ym_se 5 pi cd).1 (ym_se 5 pi cd).2) rfl (j := 22) rfl rfl (by decide +kernel) (zd_X12_behindSum (242, .invokevirtual 307, 3, 0, []) (List.mem_of_getElem? (i := 125) rfl)) [(a : Int), 26, 0] rfl ⟨zp_o2 hp, zp_o0 (by omega) (by omega) (by omega) (by omega), zp_o0 (by decide) (by decide) (by decide) (by decide), trivial⟩ (Nat.le_of_ble_eq_true rfl) ⟨hts, by omega⟩ (fun al hal rnp Pp Gp hextp hfrp hokp hcsp hpsip => ?_)
                        obtain rfl := List.mem_singleton.mp hal
                        obtain ⟨rfl, htp⟩ := hpsip
                        refine zp_const (pc := 245) hx hb (zd_X12_behindSum (245, .iconst 1, 1, 0, []) (List.mem_of_getElem? (i := 126) rfl)) rfl rfl ?_
                        refine zp_iret (pc := 246) (n := 1) hx hb hE hQ hU5 rfl (by decide) (zd_X12_behindSum (246, .ireturn, 1, 0, []) (List.mem_of_getElem? (i := 127) rfl)) (j := 0) rfl (zp_o0 (by omega) (by omega) (by omega) (by omega)) ?_
                        rw [hps]
                        refine ⟨rfl, ?_⟩
                        show zDr a Gp B ln 1 (ym_bs (zy_so B ln) (zy_wo B ln) (zy_to B ln) (decide (p1 = 1)) tk nl od pi cd)
                        rw [cs op hop.symm (by omega)]
                        have hcm : yr_cm (zy_so B ln) (zy_wo B ln) tk = 26 := by
                          rw [yr_cm_eq]
                          repeat' split
                          all_goals omega
                        rw [hcm, if_neg (by omega), if_neg (fun z => ?_), if_neg (fun z => ?_), if_neg (by decide)]
                        · exact ⟨rfl, htp⟩
                        · exact htc z
                        · obtain ⟨z1, z2⟩ := z
                          have z2 := of_decide_eq_false z2
                          omega
                    · replace htm := htm.1 hmz
                      have htm2 := htm.1
                      obtain ⟨⟨m13, ml, mt, m12, mB⟩, ⟨m14, m15, m16, m17⟩, ⟨m19, m18⟩, ⟨m23, m24, m25⟩, m26, ⟨m29, mp⟩, m30⟩ := htm2
                      refine zp_load (pc := 227) hx hb (zd_X12_behindSum (227, .aload_n 0, 1, 0, []) (List.mem_of_getElem? (i := 116) rfl)) rfl (j := 2) rfl ?_
                      refine zp_getf (n := 1) (pc := 228) hx hb hE hw (zd_X12_behindSum (228, .getfield 240, 3, 0, []) (List.mem_of_getElem? (i := 117) rfl)) (j := 37) rfl rfl rfl hp m19 ?_
                      refine zp_if (pc := 231) (tgt := 245) hx hb (zd_X12_behindSum (231, .ifCond .ne 14, 3, 0, []) (List.mem_of_getElem? (i := 118) rfl)) rfl (fun (hcq81 : ¬ 1 = 0) => ?_) (fun (hcq81 : ¬ (¬ 1 = 0)) => ?_)
                      · refine zp_const (pc := 245) hx hb (zd_X12_behindSum (245, .iconst 1, 1, 0, []) (List.mem_of_getElem? (i := 126) rfl)) rfl rfl ?_
                        refine zp_iret (pc := 246) (n := 1) hx hb hE hQ hU5 rfl (by decide) (zd_X12_behindSum (246, .ireturn, 1, 0, []) (List.mem_of_getElem? (i := 127) rfl)) (j := 0) rfl (zp_o0 (by omega) (by omega) (by omega) (by omega)) ?_
                        rw [hps]
                        refine ⟨rfl, ?_⟩
                        show zDr a Gm B ln 1 (ym_bs (zy_so B ln) (zy_wo B ln) (zy_to B ln) (decide (p1 = 1)) tk nl od pi cd)
                        rw [cs op hop.symm (by omega)]
                        rw [if_neg (by omega), if_neg (fun z => ?_), if_neg (fun z => ?_), if_pos ?_]
                        · exact ⟨⟨_, _, _, _, _, htm.1, zDj_le (F := zy_fr B ln tk) hI.1 (by have := zy_fr_le (B := B) dt; omega)⟩, htm.2⟩
                        · rw [yr_cm_eq]
                          repeat' split
                          all_goals omega
                        · exact htc z
                        · obtain ⟨z1, z2⟩ := z
                          have z2 := of_decide_eq_false z2
                          omega
                      · exfalso
                        omega
                  · exfalso
                    omega
              · replace htx := zs_i1 htx hrx hcq71
                refine zp_const (pc := 181) hx hb (zd_X12_behindSum (181, .bipush 25, 2, 0, []) (List.mem_of_getElem? (i := 94) rfl)) rfl rfl ?_
                refine zp_goto (tgt := 202) (pc := 183) hx hb (zd_X12_behindSum (183, .goto 19, 3, 0, []) (List.mem_of_getElem? (i := 95) rfl)) rfl ?_
                refine zp_store (L' := [(2, 0, 25), (3, 0, rni), (0, 2, (a : Int)), (1, 0, p1)]) (pc := 202) hx hb hnL (zd_X12_behindSum (202, .istore_n 2, 1, 0, []) (List.mem_of_getElem? (i := 103) rfl)) rfl rfl rfl ?_
                refine zp_load (pc := 203) hx hb (zd_X12_behindSum (203, .aload_n 0, 1, 0, []) (List.mem_of_getElem? (i := 104) rfl)) rfl (j := 2) rfl ?_
                refine zp_load (pc := 204) hx hb (zd_X12_behindSum (204, .iload_n 2, 1, 0, []) (List.mem_of_getElem? (i := 105) rfl)) rfl (j := 0) rfl ?_
                refine zp_const (pc := 205) hx hb (zd_X12_behindSum (205, .bipush 27, 2, 0, []) (List.mem_of_getElem? (i := 106) rfl)) rfl rfl ?_
                refine zp_icmp (pc := 207) (tgt := 219) hx hb (zd_X12_behindSum (207, .if_icmp .ne 12, 3, 0, []) (List.mem_of_getElem? (i := 107) rfl)) rfl (fun (hcq82 : ¬ 25 = 27) => ?_) (fun (hcq82 : ¬ (¬ 25 = 27)) => ?_)
                · refine zp_const (pc := 219) hx hb (zd_X12_behindSum (219, .iconst 1, 1, 0, []) (List.mem_of_getElem? (i := 112) rfl)) rfl rfl ?_
                  refine zp_goto (tgt := 224) (pc := 220) hx hb (zd_X12_behindSum (220, .goto 4, 3, 0, []) (List.mem_of_getElem? (i := 113) rfl)) rfl ?_
                  refine zp_call (pc := 224) (how := 0) (idx := 275) (mi := 217) (S := []) hx hb hE hw heff hrm (zY_mu hW B ln tk nl od pi cd) rfl (j := 19) rfl rfl (by decide +kernel) (zd_X12_behindSum (224, .invokevirtual 275, 3, 0, []) (List.mem_of_getElem? (i := 115) rfl)) [(a : Int), 1] rfl ⟨zp_o2 hp, zp_o0 (by omega) (by omega) (by omega) (by omega), trivial⟩ (Nat.le_of_ble_eq_true rfl) hD (fun al hal rnm Pm Gm hextm hfrm hokm hcsm hpsim => ?_)
                  obtain rfl := List.mem_singleton.mp hal
                  obtain ⟨rfl, htm⟩ := hpsim
                  replace htm : ((1 : Int) ≠ 1 → zD a Gm 1 B ln tk nl od pi cd ∧ Gm a 18 = (zy_fr B ln tk : Int)) ∧ ((1 : Int) = 1 → zD a Gm 0 B ln (zy_to B ln tk) nl od pi cd) := htm
                  by_cases hmz : (1 : Int) = 1
                  · replace htm := htm.2 hmz
                    have htm2 := htm
                    obtain ⟨⟨m13, ml, mt, m12, mB⟩, ⟨m14, m15, m16, m17⟩, ⟨m19, m18⟩, ⟨m23, m24, m25⟩, m26, ⟨m29, mp⟩, m30⟩ := htm2
                    refine zp_load (pc := 227) hx hb (zd_X12_behindSum (227, .aload_n 0, 1, 0, []) (List.mem_of_getElem? (i := 116) rfl)) rfl (j := 2) rfl ?_
                    refine zp_getf (n := 0) (pc := 228) hx hb hE hw (zd_X12_behindSum (228, .getfield 240, 3, 0, []) (List.mem_of_getElem? (i := 117) rfl)) (j := 37) rfl rfl rfl hp m19 ?_
                    refine zp_if (pc := 231) (tgt := 245) hx hb (zd_X12_behindSum (231, .ifCond .ne 14, 3, 0, []) (List.mem_of_getElem? (i := 118) rfl)) rfl (fun (hcq83 : ¬ 0 = 0) => ?_) (fun (hcq83 : ¬ (¬ 0 = 0)) => ?_)
                    · exfalso
                      omega
                    · refine zp_load (pc := 234) hx hb (zd_X12_behindSum (234, .aload_n 0, 1, 0, []) (List.mem_of_getElem? (i := 119) rfl)) rfl (j := 2) rfl ?_
                      refine zp_const (pc := 235) hx hb (zd_X12_behindSum (235, .iconst 5, 1, 0, []) (List.mem_of_getElem? (i := 120) rfl)) rfl rfl ?_
                      refine zp_call (pc := 236) (how := 0) (idx := 344) (mi := 231) (S := []) hx hb hE hw heff hrm (zY_se hW 0 B ln (zy_to B ln tk) nl od pi cd) rfl (j := 33) rfl rfl (by decide +kernel) (zd_X12_behindSum (236, .invokevirtual 344, 3, 0, []) (List.mem_of_getElem? (i := 121) rfl)) [(a : Int), 5] rfl ⟨zp_o2 hp, zp_o0 (by decide) (by decide) (by decide) (by decide), trivial⟩ (Nat.le_of_ble_eq_true rfl) ⟨htm, hj4⟩ (fun al hal rns Ps Gs hexts hfrs hoks hcss hpsis => ?_)
                      obtain rfl := List.mem_singleton.mp hal
                      obtain ⟨rfl, hts⟩ := hpsis
                      replace hts : zD a Gs 0 B ln (zy_to B ln tk) nl od (ym_se 5 pi cd).1 (ym_se 5 pi cd).2 := hts
                      refine zp_load (pc := 239) hx hb (zd_X12_behindSum (239, .aload_n 0, 1, 0, []) (List.mem_of_getElem? (i := 122) rfl)) rfl (j := 2) rfl ?_
                      refine zp_load (pc := 240) hx hb (zd_X12_behindSum (240, .iload_n 2, 1, 0, []) (List.mem_of_getElem? (i := 123) rfl)) rfl (j := 0) rfl ?_
                      refine zp_const (pc := 241) hx hb (zd_X12_behindSum (241, .iconst 0, 1, 0, []) (List.mem_of_getElem? (i := 124) rfl)) rfl rfl ?_
                      have hjs := zDj_se (least := 5) hj4
                      have hjs2 := zDj_se (least := 5) hI.1
                      have hjs2 : zDj (zy_fr B ln tk) (ym_se 5 pi cd).1 (ym_se 5 pi cd).2 := hjs2
                      have hpl := hjs2.2.1
                      have hs3 : zy_so B ln tk ≠ 0 := by rw [← hso]; omega
                      have hft := (zy_to_le (B := B) dt).2.2 hs3
                      have hft2 := (zy_to_le (B := B) dt).2.1
                      refine zp_call (pc := 242) (how := 0) (idx := 307) (mi := 220) (S := []) hx hb hE hw heff hrm (zY_pu hW 0 B ln (zy_to B ln tk) nl od (ym_se 5 pi cd).1 (ym_se 5 pi cd).2) rfl (j := 22) rfl rfl (by decide +kernel) (zd_X12_behindSum (242, .invokevirtual 307, 3, 0, []) (List.mem_of_getElem? (i := 125) rfl)) [(a : Int), 25, 0] rfl ⟨zp_o2 hp, zp_o0 (by omega) (by omega) (by omega) (by omega), zp_o0 (by decide) (by decide) (by decide) (by decide), trivial⟩ (Nat.le_of_ble_eq_true rfl) ⟨hts, by omega⟩ (fun al hal rnp Pp Gp hextp hfrp hokp hcsp hpsip => ?_)
                      obtain rfl := List.mem_singleton.mp hal
                      obtain ⟨rfl, htp⟩ := hpsip
                      refine zp_const (pc := 245) hx hb (zd_X12_behindSum (245, .iconst 1, 1, 0, []) (List.mem_of_getElem? (i := 126) rfl)) rfl rfl ?_
                      refine zp_iret (pc := 246) (n := 1) hx hb hE hQ hU5 rfl (by decide) (zd_X12_behindSum (246, .ireturn, 1, 0, []) (List.mem_of_getElem? (i := 127) rfl)) (j := 0) rfl (zp_o0 (by omega) (by omega) (by omega) (by omega)) ?_
                      rw [hps]
                      refine ⟨rfl, ?_⟩
                      show zDr a Gp B ln 1 (ym_bs (zy_so B ln) (zy_wo B ln) (zy_to B ln) (decide (p1 = 1)) tk nl od pi cd)
                      rw [cs op hop.symm (by omega)]
                      have hcm : yr_cm (zy_so B ln) (zy_wo B ln) tk = 25 := by
                        rw [yr_cm_eq]
                        repeat' split
                        all_goals omega
                      rw [hcm, if_neg (by omega), if_neg (fun z => ?_), if_neg (fun z => ?_), if_neg (by decide)]
                      · exact ⟨rfl, htp⟩
                      · exact htc z
                      · obtain ⟨z1, z2⟩ := z
                        have z2 := of_decide_eq_false z2
                        omega
                  · replace htm := htm.1 hmz
                    have htm2 := htm.1
                    obtain ⟨⟨m13, ml, mt, m12, mB⟩, ⟨m14, m15, m16, m17⟩, ⟨m19, m18⟩, ⟨m23, m24, m25⟩, m26, ⟨m29, mp⟩, m30⟩ := htm2
                    refine zp_load (pc := 227) hx hb (zd_X12_behindSum (227, .aload_n 0, 1, 0, []) (List.mem_of_getElem? (i := 116) rfl)) rfl (j := 2) rfl ?_
                    refine zp_getf (n := 1) (pc := 228) hx hb hE hw (zd_X12_behindSum (228, .getfield 240, 3, 0, []) (List.mem_of_getElem? (i := 117) rfl)) (j := 37) rfl rfl rfl hp m19 ?_
                    refine zp_if (pc := 231) (tgt := 245) hx hb (zd_X12_behindSum (231, .ifCond .ne 14, 3, 0, []) (List.mem_of_getElem? (i := 118) rfl)) rfl (fun (hcq84 : ¬ 1 = 0) => ?_) (fun (hcq84 : ¬ (¬ 1 = 0)) => ?_)
                    · refine zp_const (pc := 245) hx hb (zd_X12_behindSum (245, .iconst 1, 1, 0, []) (List.mem_of_getElem? (i := 126) rfl)) rfl rfl ?_
                      refine zp_iret (pc := 246) (n := 1) hx hb hE hQ hU5 rfl (by decide) (zd_X12_behindSum (246, .ireturn, 1, 0, []) (List.mem_of_getElem? (i := 127) rfl)) (j := 0) rfl (zp_o0 (by omega) (by omega) (by omega) (by omega)) ?_
                      rw [hps]
                      refine ⟨rfl, ?_⟩
                      show zDr a Gm B ln 1 (ym_bs (zy_so B ln) (zy_wo B ln) (zy_to B ln) (decide (p1 = 1)) tk nl od pi cd)
                      rw [cs op hop.symm (by omega)]
                      rw [if_neg (by omega), if_neg (fun z => ?_), if_neg (fun z => ?_), if_pos ?_]
                      · exact ⟨⟨_, _, _, _, _, htm.1, zDj_le (F := zy_fr B ln tk) hI.1 (by have := zy_fr_le (B := B) dt; omega)⟩, htm.2⟩
                      · rw [yr_cm_eq]
                        repeat' split
                        all_goals omega
                      · exact htc z
                      · obtain ⟨z1, z2⟩ := z
                        have z2 := of_decide_eq_false z2
                        omega
                    · exfalso
                      omega
                · exfalso
                  omega
            · replace htc := zs_i1 htc hrc hcq70
              refine zp_const (pc := 170) hx hb (zd_X12_behindSum (170, .iconst 2, 1, 0, []) (List.mem_of_getElem? (i := 88) rfl)) rfl rfl ?_
              refine zp_iret (pc := 171) (n := 2) hx hb hE hQ hU5 rfl (by decide) (zd_X12_behindSum (171, .ireturn, 1, 0, []) (List.mem_of_getElem? (i := 89) rfl)) (j := 0) rfl (zp_o0 (by omega) (by omega) (by omega) (by omega)) ?_
              rw [hps]
              refine ⟨rfl, ?_⟩
              show zDr a (zp_n u.2.1) B ln 2 (ym_bs (zy_so B ln) (zy_wo B ln) (zy_to B ln) (decide (p1 = 1)) tk nl od pi cd)
              rw [cs op hop.symm (by omega)]
              rw [if_neg (by omega), if_neg (fun z => ?_), if_pos htc]
              · exact ⟨rfl, hD⟩
              · obtain ⟨z1, z2⟩ := z
                have z2 := of_decide_eq_false z2
                omega
          · refine zp_const (pc := 161) hx hb (zd_X12_behindSum (161, .iconst 4, 1, 0, []) (List.mem_of_getElem? (i := 83) rfl)) rfl rfl ?_
            refine zp_iret (pc := 162) (n := 4) hx hb hE hQ hU5 rfl (by decide) (zd_X12_behindSum (162, .ireturn, 1, 0, []) (List.mem_of_getElem? (i := 84) rfl)) (j := 0) rfl (zp_o0 (by omega) (by omega) (by omega) (by omega)) ?_
            rw [hps]
            refine ⟨rfl, ?_⟩
            show zDr a (zp_n u.2.1) B ln 4 (ym_bs (zy_so B ln) (zy_wo B ln) (zy_to B ln) (decide (p1 = 1)) tk nl od pi cd)
            rw [cs op hop.symm (by omega)]
            rw [if_neg (by omega), if_pos ⟨by omega, decide_eq_false (by omega)⟩]
            exact ⟨rfl, hD⟩
      · refine zp_load (pc := 108) hx hb (zd_X12_behindSum (108, .aload_n 0, 1, 0, []) (List.mem_of_getElem? (i := 53) rfl)) rfl (j := 2) rfl ?_
        refine zp_load (pc := 109) hx hb (zd_X12_behindSum (109, .aload_n 0, 1, 0, []) (List.mem_of_getElem? (i := 54) rfl)) rfl (j := 2) rfl ?_
        refine zp_const (pc := 110) hx hb (zd_X12_behindSum (110, .bipush 93, 2, 0, []) (List.mem_of_getElem? (i := 55) rfl)) rfl rfl ?_
        refine zp_call (pc := 112) (how := 0) (idx := 313) (mi := 221) (S := [(2, (a : Int))]) hx hb hE hw heff hrm (zY_si hW) rfl (j := 23) rfl rfl (by decide +kernel) (zd_X12_behindSum (112, .invokevirtual 313, 3, 0, []) (List.mem_of_getElem? (i := 56) rfl)) [(a : Int), 93] rfl ⟨zp_o2 hp, zp_o0 (by decide) (by decide) (by decide) (by decide), trivial⟩ (Nat.le_of_ble_eq_true rfl) trivial (fun al hal rnx Px Gx hextx hfrx hokx hcsx hpsix => ?_)
        obtain rfl := List.mem_singleton.mp hal
        have hrx := zp_int (hokx _ rfl).1
        obtain ⟨hPex, hGex, htx⟩ := hpsix
        rw [hPex, hGex]
        replace htx : rnx = 1 ↔ zp_n u.2.1 a 16 = 3 ∧ zp_n u.2.1 a 17 = 93 := htx
        rw [d16, d17] at htx
        refine zp_call (pc := 115) (how := 0) (idx := 275) (mi := 217) (S := []) hx hb hE hw heff hrm (zY_mu hW B ln tk nl od pi cd) rfl (j := 19) rfl rfl (by decide +kernel) (zd_X12_behindSum (115, .invokevirtual 275, 3, 0, []) (List.mem_of_getElem? (i := 57) rfl)) [(a : Int), rnx] rfl ⟨zp_o2 hp, zp_o0 (by omega) (by omega) (by omega) (by omega), trivial⟩ (Nat.le_of_ble_eq_true rfl) hD (fun al hal rnm Pm Gm hextm hfrm hokm hcsm hpsim => ?_)
        obtain rfl := List.mem_singleton.mp hal
        obtain ⟨rfl, htm⟩ := hpsim
        replace htm : ((rnx : Int) ≠ 1 → zD a Gm 1 B ln tk nl od pi cd ∧ Gm a 18 = (zy_fr B ln tk : Int)) ∧ ((rnx : Int) = 1 → zD a Gm 0 B ln (zy_to B ln tk) nl od pi cd) := htm
        by_cases hmz : (rnx : Int) = 1
        · replace htx := htx.mp hmz
          replace htm := htm.2 hmz
          have htm2 := htm
          obtain ⟨⟨m13, ml, mt, m12, mB⟩, ⟨m14, m15, m16, m17⟩, ⟨m19, m18⟩, ⟨m23, m24, m25⟩, m26, ⟨m29, mp⟩, m30⟩ := htm2
          refine zp_load (pc := 118) hx hb (zd_X12_behindSum (118, .aload_n 0, 1, 0, []) (List.mem_of_getElem? (i := 58) rfl)) rfl (j := 2) rfl ?_
          refine zp_getf (n := 0) (pc := 119) hx hb hE hw (zd_X12_behindSum (119, .getfield 240, 3, 0, []) (List.mem_of_getElem? (i := 59) rfl)) (j := 37) rfl rfl rfl hp m19 ?_
          refine zp_if (pc := 122) (tgt := 150) hx hb (zd_X12_behindSum (122, .ifCond .ne 28, 3, 0, []) (List.mem_of_getElem? (i := 60) rfl)) rfl (fun (hcq85 : ¬ 0 = 0) => ?_) (fun (hcq85 : ¬ (¬ 0 = 0)) => ?_)
          · exfalso
            omega
          · refine zp_load (pc := 125) hx hb (zd_X12_behindSum (125, .aload_n 0, 1, 0, []) (List.mem_of_getElem? (i := 61) rfl)) rfl (j := 2) rfl ?_
            refine zp_const (pc := 126) hx hb (zd_X12_behindSum (126, .iconst 5, 1, 0, []) (List.mem_of_getElem? (i := 62) rfl)) rfl rfl ?_
            refine zp_call (pc := 127) (how := 0) (idx := 344) (mi := 231) (S := []) hx hb hE hw heff hrm (zY_se hW 0 B ln (zy_to B ln tk) nl od pi cd) rfl (j := 33) rfl rfl (by decide +kernel) (zd_X12_behindSum (127, .invokevirtual 344, 3, 0, []) (List.mem_of_getElem? (i := 63) rfl)) [(a : Int), 5] rfl ⟨zp_o2 hp, zp_o0 (by decide) (by decide) (by decide) (by decide), trivial⟩ (Nat.le_of_ble_eq_true rfl) ⟨htm, hj4⟩ (fun al hal rns Ps Gs hexts hfrs hoks hcss hpsis => ?_)
            obtain rfl := List.mem_singleton.mp hal
            obtain ⟨rfl, hts⟩ := hpsis
            replace hts : zD a Gs 0 B ln (zy_to B ln tk) nl od (ym_se 5 pi cd).1 (ym_se 5 pi cd).2 := hts
            obtain ⟨tt, r, hr⟩ := zDs_top32 (cd := cd) hI.2.1 (by omega : ym_in pi = 32)
            have hodn : 1 ≤ od := by
              have h3 : od = zDo pi := hI.2.2.1
              have g3 := (zDs_se (least := 5) (by decide) (cd := cd) hI.2.1).2.2
              rw [hr] at g3
              have g3 : (if (31 : Int) ≤ 32 then 1 else 0) + zDo r = zDo pi := g3
              rw [if_pos (by first | decide | exact hoo)] at g3
              omega
            rw [hr] at hts
            have hts2 := hts
            obtain ⟨⟨s13, sl, st, s12, sB⟩, ⟨s14, s15, s16, s17⟩, ⟨s19, s18⟩, ⟨s23, s24, s25⟩, s26, ⟨s29, sp⟩, s30⟩ := hts2
            obtain ⟨rl, hrl⟩ : ∃ x : Nat, x = r.length := ⟨_, rfl⟩
            have s29 : Gs a 29 = (rl : Int) + 1 := s29.trans (by have : ((32, tt) :: r).length = r.length + 1 := rfl; omega)
            have hrl4 : rl + 1 ≤ 400 := by
              have h9 := (zDj_se (least := 5) hj4).2.1
              rw [hr] at h9
              have h9 : r.length + 1 ≤ 400 := h9
              omega
            obtain ⟨om, hom⟩ : ∃ x : Nat, x + 1 = od := ⟨od - 1, by omega⟩
            have s30 : Gs a 30 = (om : Int) + 1 := s30.trans (by omega)
            refine zp_kn (k := 30) (a := a) (G := Gs) hw (show zp_fd 92 30 = some (12, 0, 0, (-2147483648), 2147483647) from rfl) rfl hp (fun hk30 => ?_)
            have hx30 := zp_int hk30
            rw [s30] at hx30
            refine zp_load (pc := 130) hx hb (zd_X12_behindSum (130, .aload_n 0, 1, 0, []) (List.mem_of_getElem? (i := 64) rfl)) rfl (j := 2) rfl ?_
            refine zp_dup (pc := 131) hx hb (zd_X12_behindSum (131, .dup, 1, 0, []) (List.mem_of_getElem? (i := 65) rfl)) (show (2 : Nat) ≠ 1 by decide) ?_
            refine zp_getf (n := ((rl : Int) + 1)) (pc := 132) hx hb hE hw (zd_X12_behindSum (132, .getfield 282, 3, 0, []) (List.mem_of_getElem? (i := 66) rfl)) (j := 47) rfl rfl rfl hp s29 ?_
            refine zp_const (pc := 135) hx hb (zd_X12_behindSum (135, .iconst 1, 1, 0, []) (List.mem_of_getElem? (i := 67) rfl)) rfl rfl ?_
            refine zp_sub (n := (rl : Int)) (pc := 136) hx hb (zd_X12_behindSum (136, .isub, 1, 0, []) (List.mem_of_getElem? (i := 68) rfl)) (by omega) (zp_r0 (by omega) (by omega)) ?_
            refine zp_putf (pc := 137) hx hb hE hw heff (zd_X12_behindSum (137, .putfield 282, 3, 0, []) (List.mem_of_getElem? (i := 69) rfl)) (j := 47) rfl rfl rfl hp (zp_o0 (by omega) (by omega) (by omega) (by omega)) ?_
            refine zp_load (pc := 140) hx hb (zd_X12_behindSum (140, .aload_n 0, 1, 0, []) (List.mem_of_getElem? (i := 70) rfl)) rfl (j := 2) rfl ?_
            refine zp_dup (pc := 141) hx hb (zd_X12_behindSum (141, .dup, 1, 0, []) (List.mem_of_getElem? (i := 71) rfl)) (show (2 : Nat) ≠ 1 by decide) ?_
            refine zp_getf (n := ((om : Int) + 1)) (pc := 142) hx hb hE hw (zd_X12_behindSum (142, .getfield 304, 3, 0, []) (List.mem_of_getElem? (i := 72) rfl)) (j := 48) rfl rfl rfl hp ((zp_set_ne (Or.inr (by decide))).trans (s30)) ?_
            refine zp_const (pc := 145) hx hb (zd_X12_behindSum (145, .iconst 1, 1, 0, []) (List.mem_of_getElem? (i := 73) rfl)) rfl rfl ?_
            refine zp_sub (n := (om : Int)) (pc := 146) hx hb (zd_X12_behindSum (146, .isub, 1, 0, []) (List.mem_of_getElem? (i := 74) rfl)) (by omega) (zp_r0 (by omega) (by omega)) ?_
            refine zp_putf (pc := 147) hx hb hE hw heff (zd_X12_behindSum (147, .putfield 304, 3, 0, []) (List.mem_of_getElem? (i := 75) rfl)) (j := 48) rfl rfl rfl hp (zp_o0 (by omega) (by omega) (by omega) (by omega)) ?_
            refine zp_const (pc := 150) hx hb (zd_X12_behindSum (150, .iconst 3, 1, 0, []) (List.mem_of_getElem? (i := 76) rfl)) rfl rfl ?_
            refine zp_iret (pc := 151) (n := 3) hx hb hE hQ hU5 rfl (by decide) (zd_X12_behindSum (151, .ireturn, 1, 0, []) (List.mem_of_getElem? (i := 77) rfl)) (j := 0) rfl (zp_o0 (by omega) (by omega) (by omega) (by omega)) ?_
            rw [hps]
            refine ⟨rfl, ?_⟩
            show zDr a (zp_set (zp_set Gs a 29 (rl : Int)) a 30 (om : Int)) B ln 3 (ym_bs (zy_so B ln) (zy_wo B ln) (zy_to B ln) (decide (p1 = 1)) tk nl od pi cd)
            rw [cs op hop.symm (by omega)]
            rw [if_pos (by omega), if_pos (yr_s_i.mpr ⟨by omega, by omega⟩), hr]
            refine ⟨rfl, ?_⟩
            have y1 := zD_29 (v := (rl : Int)) (pi' := r) hts (by omega) sp.2.2
            have y2 := zD_30 (v := (om : Int)) (od' := od - 1) y1 (by omega)
            exact y2
        · replace htx : ¬ ((so : Int) = 3 ∧ wv = 93) := fun z9 => hmz (htx.mpr z9)
          replace htm := htm.1 hmz
          have htm2 := htm.1
          obtain ⟨⟨m13, ml, mt, m12, mB⟩, ⟨m14, m15, m16, m17⟩, ⟨m19, m18⟩, ⟨m23, m24, m25⟩, m26, ⟨m29, mp⟩, m30⟩ := htm2
          refine zp_load (pc := 118) hx hb (zd_X12_behindSum (118, .aload_n 0, 1, 0, []) (List.mem_of_getElem? (i := 58) rfl)) rfl (j := 2) rfl ?_
          refine zp_getf (n := 1) (pc := 119) hx hb hE hw (zd_X12_behindSum (119, .getfield 240, 3, 0, []) (List.mem_of_getElem? (i := 59) rfl)) (j := 37) rfl rfl rfl hp m19 ?_
          refine zp_if (pc := 122) (tgt := 150) hx hb (zd_X12_behindSum (122, .ifCond .ne 28, 3, 0, []) (List.mem_of_getElem? (i := 60) rfl)) rfl (fun (hcq86 : ¬ 1 = 0) => ?_) (fun (hcq86 : ¬ (¬ 1 = 0)) => ?_)
          · refine zp_const (pc := 150) hx hb (zd_X12_behindSum (150, .iconst 3, 1, 0, []) (List.mem_of_getElem? (i := 76) rfl)) rfl rfl ?_
            refine zp_iret (pc := 151) (n := 3) hx hb hE hQ hU5 rfl (by decide) (zd_X12_behindSum (151, .ireturn, 1, 0, []) (List.mem_of_getElem? (i := 77) rfl)) (j := 0) rfl (zp_o0 (by omega) (by omega) (by omega) (by omega)) ?_
            rw [hps]
            refine ⟨rfl, ?_⟩
            show zDr a Gm B ln 3 (ym_bs (zy_so B ln) (zy_wo B ln) (zy_to B ln) (decide (p1 = 1)) tk nl od pi cd)
            rw [cs op hop.symm (by omega)]
            rw [if_pos (by omega), if_neg (fun z => by have := yr_s_i.mp z; omega)]
            exact ⟨⟨_, _, _, _, _, htm.1, zDj_le (F := zy_fr B ln tk) hI.1 (by have := zy_fr_le (B := B) dt; omega)⟩, htm.2⟩
          · exfalso
            omega
    · refine zp_load (pc := 77) hx hb (zd_X12_behindSum (77, .aload_n 0, 1, 0, []) (List.mem_of_getElem? (i := 35) rfl)) rfl (j := 1) rfl ?_
      refine zp_load (pc := 78) hx hb (zd_X12_behindSum (78, .iload_n 2, 1, 0, []) (List.mem_of_getElem? (i := 36) rfl)) rfl (j := 0) rfl ?_
      refine zp_call (pc := 79) (how := 1) (idx := 285) (mi := 230) (S := [(2, (a : Int))]) hx hb hE hw heff hrm (zX_bi hW) rfl (j := 32) rfl rfl (by decide +kernel) (zd_X12_behindSum (79, .invokestatic 285, 3, 0, []) (List.mem_of_getElem? (i := 37) rfl)) [op] rfl ⟨zp_o0 (by omega) (by omega) (by omega) (by omega), trivial⟩ (Nat.le_of_ble_eq_true rfl) trivial (fun al hal rnb Pb Gb hextb hfrb hokb hcsb hpsib => ?_)
      obtain rfl := List.mem_singleton.mp hal
      have hrb := zp_int (hokb _ rfl).1
      obtain ⟨hPeb, hGeb, htb⟩ := hpsib
      rw [hPeb, hGeb]
      replace htb : rnb = zbinds op := htb
      have hs3 : zy_so B ln tk ≠ 0 := by have := (ym_jo3 (so := zy_so B ln) (wo := zy_wo B ln) (p := tk) (by rw [← hop]; omega)).1; omega
      have hb0 := zbinds_le op
      refine zp_call (pc := 82) (how := 0) (idx := 344) (mi := 231) (S := []) hx hb hE hw heff hrm (zY_se hW 0 B ln tk nl od pi cd) rfl (j := 33) rfl rfl (by decide +kernel) (zd_X12_behindSum (82, .invokevirtual 344, 3, 0, []) (List.mem_of_getElem? (i := 38) rfl)) [(a : Int), rnb] rfl ⟨zp_o2 hp, zp_o0 (by omega) (by omega) (by omega) (by omega), trivial⟩ (Nat.le_of_ble_eq_true rfl) ⟨hD, hj4⟩ (fun al hal rns Ps Gs hexts hfrs hoks hcss hpsis => ?_)
      obtain rfl := List.mem_singleton.mp hal
      obtain ⟨rfl, hts⟩ := hpsis
      replace hts : zD a Gs 0 B ln tk nl od (ym_se rnb pi cd).1 (ym_se rnb pi cd).2 := hts
      rw [htb] at hts
      have hjs := zDj_se (least := zbinds op) hI.1
      have hjs : zDj (zy_fr B ln tk) (ym_se (zbinds op) pi cd).1 (ym_se (zbinds op) pi cd).2 := hjs
      have hpl := hjs.2.1
      have hft := (zy_to_le (B := B) dt).2.2 hs3
      have hft2 := (zy_to_le (B := B) dt).2.1
      refine zp_load (pc := 85) hx hb (zd_X12_behindSum (85, .aload_n 0, 1, 0, []) (List.mem_of_getElem? (i := 39) rfl)) rfl (j := 1) rfl ?_
      refine zp_load (pc := 86) hx hb (zd_X12_behindSum (86, .iload_n 2, 1, 0, []) (List.mem_of_getElem? (i := 40) rfl)) rfl (j := 0) rfl ?_
      refine zp_const (pc := 87) hx hb (zd_X12_behindSum (87, .iconst 0, 1, 0, []) (List.mem_of_getElem? (i := 41) rfl)) rfl rfl ?_
      refine zp_call (pc := 88) (how := 0) (idx := 307) (mi := 220) (S := []) hx hb hE hw heff hrm (zY_pu hW 0 B ln tk nl od (ym_se (zbinds op) pi cd).1 (ym_se (zbinds op) pi cd).2) rfl (j := 22) rfl rfl (by decide +kernel) (zd_X12_behindSum (88, .invokevirtual 307, 3, 0, []) (List.mem_of_getElem? (i := 42) rfl)) [(a : Int), op, 0] rfl ⟨zp_o2 hp, zp_o0 (by omega) (by omega) (by omega) (by omega), zp_o0 (by decide) (by decide) (by decide) (by decide), trivial⟩ (Nat.le_of_ble_eq_true rfl) ⟨hts, by omega⟩ (fun al hal rnp Pp Gp hextp hfrp hokp hcsp hpsip => ?_)
      obtain rfl := List.mem_singleton.mp hal
      obtain ⟨rfl, htp⟩ := hpsip
      refine zp_load (pc := 91) hx hb (zd_X12_behindSum (91, .aload_n 0, 1, 0, []) (List.mem_of_getElem? (i := 43) rfl)) rfl (j := 1) rfl ?_
      refine zp_call (pc := 92) (how := 0) (idx := 244) (mi := 212) (S := []) hx hb hE hw heff hrm (zY_nx hW B ln (zy_to B ln tk)) rfl (j := 14) rfl rfl (by decide +kernel) (zd_X12_behindSum (92, .invokevirtual 244, 3, 0, []) (List.mem_of_getElem? (i := 44) rfl)) [(a : Int)] rfl ⟨zp_o2 hp, trivial⟩ (Nat.le_of_ble_eq_true rfl) (zD_y htp) (fun al hal rnn Pn Gn hextn hfrn hokn hcsn hpsin => ?_)
      obtain rfl := List.mem_singleton.mp hal
      obtain ⟨rfl, htn⟩ := hpsin
      have htn := zD_nx htp htn
      refine zp_const (pc := 95) hx hb (zd_X12_behindSum (95, .iconst 1, 1, 0, []) (List.mem_of_getElem? (i := 45) rfl)) rfl rfl ?_
      refine zp_iret (pc := 96) (n := 1) hx hb hE hQ hU5 rfl (by decide) (zd_X12_behindSum (96, .ireturn, 1, 0, []) (List.mem_of_getElem? (i := 46) rfl)) (j := 0) rfl (zp_o0 (by omega) (by omega) (by omega) (by omega)) ?_
      rw [hps]
      refine ⟨rfl, ?_⟩
      show zDr a Gn B ln 1 (ym_bs (zy_so B ln) (zy_wo B ln) (zy_to B ln) (decide (p1 = 1)) tk nl od pi cd)
      unfold ym_bs
      rw [← hop, if_pos (by omega)]
      exact ⟨rfl, htn⟩
  refine zp_load (pc := 0) hx hb (zd_X12_behindSum (0, .aload_n 0, 1, 0, []) (List.mem_of_getElem? (i := 0) rfl)) rfl (j := 0) rfl ?_
  refine zp_const (pc := 1) hx hb (zd_X12_behindSum (1, .bipush 43, 2, 0, []) (List.mem_of_getElem? (i := 1) rfl)) rfl rfl ?_
  refine zp_call (pc := 3) (how := 0) (idx := 313) (mi := 221) (S := []) hx hb hE hw heff hrm (zY_si hW) rfl (j := 23) rfl rfl (by decide +kernel) (zd_X12_behindSum (3, .invokevirtual 313, 3, 0, []) (List.mem_of_getElem? (i := 2) rfl)) [(a : Int), 43] rfl ⟨zp_o2 hp, zp_o0 (by decide) (by decide) (by decide) (by decide), trivial⟩ (Nat.le_of_ble_eq_true rfl) trivial (fun al hal rnc Pc Gc hextc hfrc hokc hcsc hpsic => ?_)
  obtain rfl := List.mem_singleton.mp hal
  have hrc := zp_int (hokc _ rfl).1
  obtain ⟨hPec, hGec, htc⟩ := hpsic
  rw [hPec, hGec]
  replace htc : rnc = 1 ↔ zp_n u.2.1 a 16 = 3 ∧ zp_n u.2.1 a 17 = 43 := htc
  rw [d16, d17] at htc
  refine zp_if (pc := 6) (tgt := 14) hx hb (zd_X12_behindSum (6, .ifCond .eq 8, 3, 0, []) (List.mem_of_getElem? (i := 3) rfl)) rfl (fun (hcq87 : rnc = 0) => ?_) (fun (hcq87 : ¬ (rnc = 0)) => ?_)
  · replace htc := zs_i0 htc hcq87
    refine zp_load (pc := 14) hx hb (zd_X12_behindSum (14, .aload_n 0, 1, 0, []) (List.mem_of_getElem? (i := 6) rfl)) rfl (j := 0) rfl ?_
    refine zp_const (pc := 15) hx hb (zd_X12_behindSum (15, .bipush 45, 2, 0, []) (List.mem_of_getElem? (i := 7) rfl)) rfl rfl ?_
    refine zp_call (pc := 17) (how := 0) (idx := 313) (mi := 221) (S := []) hx hb hE hw heff hrm (zY_si hW) rfl (j := 23) rfl rfl (by decide +kernel) (zd_X12_behindSum (17, .invokevirtual 313, 3, 0, []) (List.mem_of_getElem? (i := 8) rfl)) [(a : Int), 45] rfl ⟨zp_o2 hp, zp_o0 (by decide) (by decide) (by decide) (by decide), trivial⟩ (Nat.le_of_ble_eq_true rfl) trivial (fun al hal rnd Pd Gd hextd hfrd hokd hcsd hpsid => ?_)
    obtain rfl := List.mem_singleton.mp hal
    have hrd := zp_int (hokd _ rfl).1
    obtain ⟨hPed, hGed, htd⟩ := hpsid
    rw [hPed, hGed]
    replace htd : rnd = 1 ↔ zp_n u.2.1 a 16 = 3 ∧ zp_n u.2.1 a 17 = 45 := htd
    rw [d16, d17] at htd
    refine zp_if (pc := 20) (tgt := 28) hx hb (zd_X12_behindSum (20, .ifCond .eq 8, 3, 0, []) (List.mem_of_getElem? (i := 9) rfl)) rfl (fun (hcq88 : rnd = 0) => ?_) (fun (hcq88 : ¬ (rnd = 0)) => ?_)
    · replace htd := zs_i0 htd hcq88
      refine zp_load (pc := 28) hx hb (zd_X12_behindSum (28, .aload_n 0, 1, 0, []) (List.mem_of_getElem? (i := 12) rfl)) rfl (j := 0) rfl ?_
      refine zp_const (pc := 29) hx hb (zd_X12_behindSum (29, .bipush 42, 2, 0, []) (List.mem_of_getElem? (i := 13) rfl)) rfl rfl ?_
      refine zp_call (pc := 31) (how := 0) (idx := 313) (mi := 221) (S := []) hx hb hE hw heff hrm (zY_si hW) rfl (j := 23) rfl rfl (by decide +kernel) (zd_X12_behindSum (31, .invokevirtual 313, 3, 0, []) (List.mem_of_getElem? (i := 14) rfl)) [(a : Int), 42] rfl ⟨zp_o2 hp, zp_o0 (by decide) (by decide) (by decide) (by decide), trivial⟩ (Nat.le_of_ble_eq_true rfl) trivial (fun al hal rnf Pf Gf hextf hfrf hokf hcsf hpsif => ?_)
      obtain rfl := List.mem_singleton.mp hal
      have hrf := zp_int (hokf _ rfl).1
      obtain ⟨hPef, hGef, htf⟩ := hpsif
      rw [hPef, hGef]
      replace htf : rnf = 1 ↔ zp_n u.2.1 a 16 = 3 ∧ zp_n u.2.1 a 17 = 42 := htf
      rw [d16, d17] at htf
      refine zp_if (pc := 34) (tgt := 42) hx hb (zd_X12_behindSum (34, .ifCond .eq 8, 3, 0, []) (List.mem_of_getElem? (i := 15) rfl)) rfl (fun (hcq89 : rnf = 0) => ?_) (fun (hcq89 : ¬ (rnf = 0)) => ?_)
      · replace htf := zs_i0 htf hcq89
        refine zp_load (pc := 42) hx hb (zd_X12_behindSum (42, .aload_n 0, 1, 0, []) (List.mem_of_getElem? (i := 18) rfl)) rfl (j := 0) rfl ?_
        refine zp_const (pc := 43) hx hb (zd_X12_behindSum (43, .bipush 47, 2, 0, []) (List.mem_of_getElem? (i := 19) rfl)) rfl rfl ?_
        refine zp_call (pc := 45) (how := 0) (idx := 313) (mi := 221) (S := []) hx hb hE hw heff hrm (zY_si hW) rfl (j := 23) rfl rfl (by decide +kernel) (zd_X12_behindSum (45, .invokevirtual 313, 3, 0, []) (List.mem_of_getElem? (i := 20) rfl)) [(a : Int), 47] rfl ⟨zp_o2 hp, zp_o0 (by decide) (by decide) (by decide) (by decide), trivial⟩ (Nat.le_of_ble_eq_true rfl) trivial (fun al hal rng Pg Gg hextg hfrg hokg hcsg hpsig => ?_)
        obtain rfl := List.mem_singleton.mp hal
        have hrg := zp_int (hokg _ rfl).1
        obtain ⟨hPeg, hGeg, htg⟩ := hpsig
        rw [hPeg, hGeg]
        replace htg : rng = 1 ↔ zp_n u.2.1 a 16 = 3 ∧ zp_n u.2.1 a 17 = 47 := htg
        rw [d16, d17] at htg
        refine zp_if (pc := 48) (tgt := 56) hx hb (zd_X12_behindSum (48, .ifCond .eq 8, 3, 0, []) (List.mem_of_getElem? (i := 21) rfl)) rfl (fun (hcq90 : rng = 0) => ?_) (fun (hcq90 : ¬ (rng = 0)) => ?_)
        · replace htg := zs_i0 htg hcq90
          refine zp_load (pc := 56) hx hb (zd_X12_behindSum (56, .aload_n 0, 1, 0, []) (List.mem_of_getElem? (i := 24) rfl)) rfl (j := 0) rfl ?_
          refine zp_const (pc := 57) hx hb (zd_X12_behindSum (57, .bipush 37, 2, 0, []) (List.mem_of_getElem? (i := 25) rfl)) rfl rfl ?_
          refine zp_call (pc := 59) (how := 0) (idx := 313) (mi := 221) (S := []) hx hb hE hw heff hrm (zY_si hW) rfl (j := 23) rfl rfl (by decide +kernel) (zd_X12_behindSum (59, .invokevirtual 313, 3, 0, []) (List.mem_of_getElem? (i := 26) rfl)) [(a : Int), 37] rfl ⟨zp_o2 hp, zp_o0 (by decide) (by decide) (by decide) (by decide), trivial⟩ (Nat.le_of_ble_eq_true rfl) trivial (fun al hal rnh Ph Gh hexth hfrh hokh hcsh hpsih => ?_)
          obtain rfl := List.mem_singleton.mp hal
          have hrh := zp_int (hokh _ rfl).1
          obtain ⟨hPeh, hGeh, hth⟩ := hpsih
          rw [hPeh, hGeh]
          replace hth : rnh = 1 ↔ zp_n u.2.1 a 16 = 3 ∧ zp_n u.2.1 a 17 = 37 := hth
          rw [d16, d17] at hth
          refine zp_if (pc := 62) (tgt := 70) hx hb (zd_X12_behindSum (62, .ifCond .eq 8, 3, 0, []) (List.mem_of_getElem? (i := 27) rfl)) rfl (fun (hcq91 : rnh = 0) => ?_) (fun (hcq91 : ¬ (rnh = 0)) => ?_)
          · replace hth := zs_i0 hth hcq91
            refine zp_const (pc := 70) hx hb (zd_X12_behindSum (70, .iconst (-1), 1, 0, []) (List.mem_of_getElem? (i := 30) rfl)) rfl rfl ?_
            refine zp_store (L' := [(2, 0, (-1)), (0, 2, (a : Int)), (1, 0, p1)]) (pc := 71) hx hb hnL (zd_X12_behindSum (71, .istore_n 2, 1, 0, []) (List.mem_of_getElem? (i := 31) rfl)) rfl rfl rfl ?_
            refine h72 (-1) ?_
            rw [ym_jo_eq, ← hso, ← hwv]
            repeat' split
            all_goals omega
          · replace hth := zs_i1 hth hrh hcq91
            refine zp_const (pc := 65) hx hb (zd_X12_behindSum (65, .bipush 24, 2, 0, []) (List.mem_of_getElem? (i := 28) rfl)) rfl rfl ?_
            refine zp_goto (tgt := 71) (pc := 67) hx hb (zd_X12_behindSum (67, .goto 4, 3, 0, []) (List.mem_of_getElem? (i := 29) rfl)) rfl ?_
            refine zp_store (L' := [(2, 0, 24), (0, 2, (a : Int)), (1, 0, p1)]) (pc := 71) hx hb hnL (zd_X12_behindSum (71, .istore_n 2, 1, 0, []) (List.mem_of_getElem? (i := 31) rfl)) rfl rfl rfl ?_
            refine h72 24 ?_
            rw [ym_jo_eq, ← hso, ← hwv]
            repeat' split
            all_goals omega
        · replace htg := zs_i1 htg hrg hcq90
          refine zp_const (pc := 51) hx hb (zd_X12_behindSum (51, .bipush 23, 2, 0, []) (List.mem_of_getElem? (i := 22) rfl)) rfl rfl ?_
          refine zp_goto (tgt := 71) (pc := 53) hx hb (zd_X12_behindSum (53, .goto 18, 3, 0, []) (List.mem_of_getElem? (i := 23) rfl)) rfl ?_
          refine zp_store (L' := [(2, 0, 23), (0, 2, (a : Int)), (1, 0, p1)]) (pc := 71) hx hb hnL (zd_X12_behindSum (71, .istore_n 2, 1, 0, []) (List.mem_of_getElem? (i := 31) rfl)) rfl rfl rfl ?_
          refine h72 23 ?_
          rw [ym_jo_eq, ← hso, ← hwv]
          repeat' split
          all_goals omega
      · replace htf := zs_i1 htf hrf hcq89
        refine zp_const (pc := 37) hx hb (zd_X12_behindSum (37, .bipush 22, 2, 0, []) (List.mem_of_getElem? (i := 16) rfl)) rfl rfl ?_
        refine zp_goto (tgt := 71) (pc := 39) hx hb (zd_X12_behindSum (39, .goto 32, 3, 0, []) (List.mem_of_getElem? (i := 17) rfl)) rfl ?_
        refine zp_store (L' := [(2, 0, 22), (0, 2, (a : Int)), (1, 0, p1)]) (pc := 71) hx hb hnL (zd_X12_behindSum (71, .istore_n 2, 1, 0, []) (List.mem_of_getElem? (i := 31) rfl)) rfl rfl rfl ?_
        refine h72 22 ?_
        rw [ym_jo_eq, ← hso, ← hwv]
        repeat' split
        all_goals omega
    · replace htd := zs_i1 htd hrd hcq88
      refine zp_const (pc := 23) hx hb (zd_X12_behindSum (23, .bipush 21, 2, 0, []) (List.mem_of_getElem? (i := 10) rfl)) rfl rfl ?_
      refine zp_goto (tgt := 71) (pc := 25) hx hb (zd_X12_behindSum (25, .goto 46, 3, 0, []) (List.mem_of_getElem? (i := 11) rfl)) rfl ?_
      refine zp_store (L' := [(2, 0, 21), (0, 2, (a : Int)), (1, 0, p1)]) (pc := 71) hx hb hnL (zd_X12_behindSum (71, .istore_n 2, 1, 0, []) (List.mem_of_getElem? (i := 31) rfl)) rfl rfl rfl ?_
      refine h72 21 ?_
      rw [ym_jo_eq, ← hso, ← hwv]
      repeat' split
      all_goals omega
  · replace htc := zs_i1 htc hrc hcq87
    refine zp_const (pc := 9) hx hb (zd_X12_behindSum (9, .bipush 20, 2, 0, []) (List.mem_of_getElem? (i := 4) rfl)) rfl rfl ?_
    refine zp_goto (tgt := 71) (pc := 11) hx hb (zd_X12_behindSum (11, .goto 60, 3, 0, []) (List.mem_of_getElem? (i := 5) rfl)) rfl ?_
    refine zp_store (L' := [(2, 0, 20), (0, 2, (a : Int)), (1, 0, p1)]) (pc := 71) hx hb hnL (zd_X12_behindSum (71, .istore_n 2, 1, 0, []) (List.mem_of_getElem? (i := 31) rfl)) rfl rfl rfl ?_
    refine h72 20 ?_
    rw [ym_jo_eq, ← hso, ← hwv]
    repeat' split
    all_goals omega
noncomputable def zφD_bt (ord : Bool) (B : Nat → Int) (ln tk nl od : Nat) (pi : List (Int × Int)) (cd : yC) : (Nat → Option Nat) → (Nat → Nat → Int) → List Int → Prop := fun P G ps => zD (zp_0 ps) G 0 B ln tk nl od pi cd ∧ zDI B ln (2, tk, nl, od, pi, cd) ∧ zDw P ord (zp_0 ps) G
noncomputable def zψD_bt (ord : Bool) (B : Nat → Int) (ln tk nl od : Nat) (pi : List (Int × Int)) (cd : yC) : (Nat → Option Nat) → (Nat → Nat → Int) → List Int → (Nat → Option Nat) → (Nat → Nat → Int) → Int → Prop := fun P G ps P' G' rn => P' = P ∧ zDr (zp_0 ps) G' B ln rn (ym_bt (zy_so B ln) (zy_wo B ln) (zy_to B ln) tk nl od pi cd)
set_option maxHeartbeats 8000000 in
theorem zY_bt {l : Launch} {w : zk_W} (hW : zh_W w) (ord : Bool) (B : Nat → Int) (ln tk nl od : Nat) (pi : List (Int × Int)) (cd : yC) : zk_metX l w zt_dv zt_TB zK_bt (zp_A (zφD_bt ord B ln tk nl od pi cd)) (zp_B (zψD_bt ord B ln tk nl od pi cd)) ∧ zk_cok w zt_TB zK_bt := by
  refine zp_meth hW (pl := 1781) rfl (by decide +kernel) (fun p e R s m args below meth c Q u hx hb hE hQ hU5 heff hnL hok hφ => ?_)
  have hw := hW.1
  obtain ⟨p0, hps, k0⟩ := zp_ps1 hok
  obtain ⟨a, rfl, hp⟩ := zp_this k0
  have hrm : zk_Kr (zk_ev (zp_E zK_bt)) = zk_Kr zK_bt := rfl
  rw [hps] at hφ ⊢
  have hφ : zD a (zp_n u.2.1) 0 B ln tk nl od pi cd ∧ zDI B ln (2, tk, nl, od, pi, cd) ∧ zDw u.1 ord a (zp_n u.2.1) := hφ
  obtain ⟨hD, hI, hw0⟩ := hφ
  have hD2 := hD
  obtain ⟨⟨d13, dl, dt, d12, dB⟩, ⟨d14, d15, d16, d17⟩, ⟨d19, d18⟩, ⟨d23, d24, d25⟩, d26, ⟨d29, dp⟩, d30⟩ := hD2
  have hlt := fun z => zDI_lt hI dl z
  show zp_J p l e R s m args below meth c Q w u [] 0 [(0, 2, (a : Int))] [] u.1 (zp_n u.2.1)
  obtain ⟨so, hso⟩ : ∃ x : Nat, x = zy_so B ln tk := ⟨_, rfl⟩
  rw [← hso] at d16
  obtain ⟨wv, hwv⟩ : ∃ x : Int, x = zy_wo B ln tk := ⟨_, rfl⟩
  rw [← hwv] at d17
  have hj4 : zDj 400 pi cd := zDj_le hI.1 (by have := zy_fr_le (B := B) dt; show zy_fr B ln tk ≤ 400; omega)
  have h22 : ∀ (an : Int), (an = 1 ∧ wv = 1476) ∨ (an = 0 ∧ wv = 498) → so = 1 → zp_J p l e R s m args below meth c Q w u [] 22 [(1, 0, an), (0, 2, (a : Int))] [] u.1 (zp_n u.2.1) := by
    intro an han hs1
    have hs3 : zy_so B ln tk ≠ 0 := by rw [← hso]; omega
    have hft := (zy_to_le (B := B) dt).2.2 hs3
    have hft2 := (zy_to_le (B := B) dt).2.1
    refine zp_load (pc := 22) hx hb (zd_X12_behindTest (22, .aload_n 0, 1, 0, []) (List.mem_of_getElem? (i := 10) rfl)) rfl (j := 1) rfl ?_
    refine zp_load (pc := 23) hx hb (zd_X12_behindTest (23, .iload_n 1, 1, 0, []) (List.mem_of_getElem? (i := 11) rfl)) rfl (j := 0) rfl ?_
    refine zp_if (pc := 24) (tgt := 31) hx hb (zd_X12_behindTest (24, .ifCond .eq 7, 3, 0, []) (List.mem_of_getElem? (i := 12) rfl)) rfl (fun (hcq92 : an = 0) => ?_) (fun (hcq92 : ¬ (an = 0)) => ?_)
    · refine zp_const (pc := 31) hx hb (zd_X12_behindTest (31, .iconst 1, 1, 0, []) (List.mem_of_getElem? (i := 15) rfl)) rfl rfl ?_
      refine zp_call (pc := 32) (how := 0) (idx := 344) (mi := 231) (S := []) hx hb hE hw heff hrm (zY_se hW 0 B ln tk nl od pi cd) rfl (j := 33) rfl rfl (by decide +kernel) (zd_X12_behindTest (32, .invokevirtual 344, 3, 0, []) (List.mem_of_getElem? (i := 16) rfl)) [(a : Int), 1] rfl ⟨zp_o2 hp, zp_o0 (by decide) (by decide) (by decide) (by decide), trivial⟩ (Nat.le_of_ble_eq_true rfl) ⟨hD, hj4⟩ (fun al hal rns Ps Gs hexts hfrs hoks hcss hpsis => ?_)
      obtain rfl := List.mem_singleton.mp hal
      obtain ⟨rfl, hts⟩ := hpsis
      have hts : zD a Gs 0 B ln tk nl od (ym_se 1 pi cd).1 (ym_se 1 pi cd).2 := hts
      have hts2 := hts
      obtain ⟨⟨s13, sl, st, s12, sB⟩, ⟨s14, s15, s16, s17⟩, ⟨s19, s18⟩, ⟨s23, s24, s25⟩, s26, ⟨s29, sp⟩, s30⟩ := hts2
      have hjs := zDj_se (least := 1) hI.1
      have hjs : zDj (zy_fr B ln tk) (ym_se 1 pi cd).1 (ym_se 1 pi cd).2 := hjs
      have hpl := hjs.2.1
      have hcl := hjs.1
      obtain ⟨ns, hns⟩ : ∃ x : Nat, x = (ym_se 1 pi cd).2.2.2 := ⟨_, rfl⟩
      have s23 : Gs a 23 = (ns : Int) := by rw [hns]; exact s23
      refine zp_load (pc := 35) hx hb (zd_X12_behindTest (35, .aload_n 0, 1, 0, []) (List.mem_of_getElem? (i := 17) rfl)) rfl (j := 1) rfl ?_
      refine zp_load (pc := 36) hx hb (zd_X12_behindTest (36, .iload_n 1, 1, 0, []) (List.mem_of_getElem? (i := 18) rfl)) rfl (j := 0) rfl ?_
      refine zp_if (pc := 37) (tgt := 45) hx hb (zd_X12_behindTest (37, .ifCond .eq 8, 3, 0, []) (List.mem_of_getElem? (i := 19) rfl)) rfl (fun (hcq93 : an = 0) => ?_) (fun (hcq93 : ¬ (an = 0)) => ?_)
      · refine zp_const (pc := 45) hx hb (zd_X12_behindTest (45, .bipush 30, 2, 0, []) (List.mem_of_getElem? (i := 22) rfl)) rfl rfl ?_
        refine zp_load (pc := 47) hx hb (zd_X12_behindTest (47, .aload_n 0, 1, 0, []) (List.mem_of_getElem? (i := 23) rfl)) rfl (j := 1) rfl ?_
        refine zp_getf (n := (ns : Int)) (pc := 48) hx hb hE hw (zd_X12_behindTest (48, .getfield 279, 3, 0, []) (List.mem_of_getElem? (i := 24) rfl)) (j := 41) rfl rfl rfl hp s23 ?_
        refine zp_call (pc := 51) (how := 0) (idx := 307) (mi := 220) (S := []) hx hb hE hw heff hrm (zY_pu hW 0 B ln tk nl od (ym_se 1 pi cd).1 (ym_se 1 pi cd).2) rfl (j := 22) rfl rfl (by decide +kernel) (zd_X12_behindTest (51, .invokevirtual 307, 3, 0, []) (List.mem_of_getElem? (i := 25) rfl)) [(a : Int), 30, (ns : Int)] rfl ⟨zp_o2 hp, zp_o0 (by decide) (by decide) (by decide) (by decide), zp_o0 (by omega) (by omega) (by omega) (by omega), trivial⟩ (Nat.le_of_ble_eq_true rfl) ⟨hts, by omega⟩ (fun al hal rnp Pp Gp hextp hfrp hokp hcsp hpsip => ?_)
        obtain rfl := List.mem_singleton.mp hal
        obtain ⟨rfl, htp⟩ := hpsip
        refine zp_load (pc := 54) hx hb (zd_X12_behindTest (54, .aload_n 0, 1, 0, []) (List.mem_of_getElem? (i := 26) rfl)) rfl (j := 1) rfl ?_
        refine zp_load (pc := 55) hx hb (zd_X12_behindTest (55, .iload_n 1, 1, 0, []) (List.mem_of_getElem? (i := 27) rfl)) rfl (j := 0) rfl ?_
        refine zp_if (pc := 56) (tgt := 64) hx hb (zd_X12_behindTest (56, .ifCond .eq 8, 3, 0, []) (List.mem_of_getElem? (i := 28) rfl)) rfl (fun (hcq94 : an = 0) => ?_) (fun (hcq94 : ¬ (an = 0)) => ?_)
        · refine zp_const (pc := 64) hx hb (zd_X12_behindTest (64, .bipush 30, 2, 0, []) (List.mem_of_getElem? (i := 31) rfl)) rfl rfl ?_
          refine zp_const (pc := 66) hx hb (zd_X12_behindTest (66, .iconst 0, 1, 0, []) (List.mem_of_getElem? (i := 32) rfl)) rfl rfl ?_
          refine zp_call (pc := 67) (how := 0) (idx := 288) (mi := 227) (S := []) hx hb hE hw heff hrm (zY_em hW 0 B ln tk nl od ((30, (ns : Int)) :: (ym_se 1 pi cd).1) (ym_se 1 pi cd).2) rfl (j := 29) rfl rfl (by decide +kernel) (zd_X12_behindTest (67, .invokevirtual 288, 3, 0, []) (List.mem_of_getElem? (i := 33) rfl)) [(a : Int), 30, 0] rfl ⟨zp_o2 hp, zp_o0 (by decide) (by decide) (by decide) (by decide), zp_o0 (by decide) (by decide) (by decide) (by decide), trivial⟩ (Nat.le_of_ble_eq_true rfl) ⟨htp, by omega⟩ (fun al hal rne Pe Ge hexte hfre hoke hcse hpsie => ?_)
          obtain rfl := List.mem_singleton.mp hal
          obtain ⟨rfl, hte⟩ := hpsie
          refine zp_load (pc := 70) hx hb (zd_X12_behindTest (70, .aload_n 0, 1, 0, []) (List.mem_of_getElem? (i := 34) rfl)) rfl (j := 1) rfl ?_
          refine zp_call (pc := 71) (how := 0) (idx := 244) (mi := 212) (S := []) hx hb hE hw heff hrm (zY_nx hW B ln (zy_to B ln tk)) rfl (j := 14) rfl rfl (by decide +kernel) (zd_X12_behindTest (71, .invokevirtual 244, 3, 0, []) (List.mem_of_getElem? (i := 35) rfl)) [(a : Int)] rfl ⟨zp_o2 hp, trivial⟩ (Nat.le_of_ble_eq_true rfl) (zD_y hte) (fun al hal rnn Pn Gn hextn hfrn hokn hcsn hpsin => ?_)
          obtain rfl := List.mem_singleton.mp hal
          obtain ⟨rfl, htn⟩ := hpsin
          have htn := zD_nx hte htn
          refine zp_const (pc := 74) hx hb (zd_X12_behindTest (74, .iconst 0, 1, 0, []) (List.mem_of_getElem? (i := 36) rfl)) rfl rfl ?_
          refine zp_iret (pc := 75) (n := 0) hx hb hE hQ hU5 rfl (by decide) (zd_X12_behindTest (75, .ireturn, 1, 0, []) (List.mem_of_getElem? (i := 37) rfl)) (j := 0) rfl (zp_o0 (by omega) (by omega) (by omega) (by omega)) ?_
          rw [hps]
          refine ⟨rfl, ?_⟩
          show zDr a Gn B ln 0 (ym_bt (zy_so B ln) (zy_wo B ln) (zy_to B ln) tk nl od pi cd)
          have ca : ¬ yr_w (zy_so B ln) (zy_wo B ln) 1476 tk = true := fun z => by have := yr_w_i.mp z; omega
          unfold ym_bt
          rw [if_neg ca, if_pos (yr_w_i.mpr ⟨by omega, by omega⟩)]
          rw [hns] at htn
          exact ⟨rfl, htn⟩
        · refine zp_const (pc := 59) hx hb (zd_X12_behindTest (59, .bipush 29, 2, 0, []) (List.mem_of_getElem? (i := 29) rfl)) rfl rfl ?_
          refine zp_goto (tgt := 66) (pc := 61) hx hb (zd_X12_behindTest (61, .goto 5, 3, 0, []) (List.mem_of_getElem? (i := 30) rfl)) rfl ?_
          refine zp_const (pc := 66) hx hb (zd_X12_behindTest (66, .iconst 0, 1, 0, []) (List.mem_of_getElem? (i := 32) rfl)) rfl rfl ?_
          refine zp_call (pc := 67) (how := 0) (idx := 288) (mi := 227) (S := []) hx hb hE hw heff hrm (zY_em hW 0 B ln tk nl od ((30, (ns : Int)) :: (ym_se 1 pi cd).1) (ym_se 1 pi cd).2) rfl (j := 29) rfl rfl (by decide +kernel) (zd_X12_behindTest (67, .invokevirtual 288, 3, 0, []) (List.mem_of_getElem? (i := 33) rfl)) [(a : Int), 29, 0] rfl ⟨zp_o2 hp, zp_o0 (by decide) (by decide) (by decide) (by decide), zp_o0 (by decide) (by decide) (by decide) (by decide), trivial⟩ (Nat.le_of_ble_eq_true rfl) ⟨htp, by omega⟩ (fun al hal rne Pe Ge hexte hfre hoke hcse hpsie => ?_)
          obtain rfl := List.mem_singleton.mp hal
          obtain ⟨rfl, hte⟩ := hpsie
          refine zp_load (pc := 70) hx hb (zd_X12_behindTest (70, .aload_n 0, 1, 0, []) (List.mem_of_getElem? (i := 34) rfl)) rfl (j := 1) rfl ?_
          refine zp_call (pc := 71) (how := 0) (idx := 244) (mi := 212) (S := []) hx hb hE hw heff hrm (zY_nx hW B ln (zy_to B ln tk)) rfl (j := 14) rfl rfl (by decide +kernel) (zd_X12_behindTest (71, .invokevirtual 244, 3, 0, []) (List.mem_of_getElem? (i := 35) rfl)) [(a : Int)] rfl ⟨zp_o2 hp, trivial⟩ (Nat.le_of_ble_eq_true rfl) (zD_y hte) (fun al hal rnn Pn Gn hextn hfrn hokn hcsn hpsin => ?_)
          obtain rfl := List.mem_singleton.mp hal
          obtain ⟨rfl, htn⟩ := hpsin
          have htn := zD_nx hte htn
          refine zp_const (pc := 74) hx hb (zd_X12_behindTest (74, .iconst 0, 1, 0, []) (List.mem_of_getElem? (i := 36) rfl)) rfl rfl ?_
          refine zp_iret (pc := 75) (n := 0) hx hb hE hQ hU5 rfl (by decide) (zd_X12_behindTest (75, .ireturn, 1, 0, []) (List.mem_of_getElem? (i := 37) rfl)) (j := 0) rfl (zp_o0 (by omega) (by omega) (by omega) (by omega)) ?_
          rw [hps]
          exfalso
          omega
      · refine zp_const (pc := 40) hx hb (zd_X12_behindTest (40, .bipush 29, 2, 0, []) (List.mem_of_getElem? (i := 20) rfl)) rfl rfl ?_
        refine zp_goto (tgt := 47) (pc := 42) hx hb (zd_X12_behindTest (42, .goto 5, 3, 0, []) (List.mem_of_getElem? (i := 21) rfl)) rfl ?_
        refine zp_load (pc := 47) hx hb (zd_X12_behindTest (47, .aload_n 0, 1, 0, []) (List.mem_of_getElem? (i := 23) rfl)) rfl (j := 1) rfl ?_
        refine zp_getf (n := (ns : Int)) (pc := 48) hx hb hE hw (zd_X12_behindTest (48, .getfield 279, 3, 0, []) (List.mem_of_getElem? (i := 24) rfl)) (j := 41) rfl rfl rfl hp s23 ?_
        refine zp_call (pc := 51) (how := 0) (idx := 307) (mi := 220) (S := []) hx hb hE hw heff hrm (zY_pu hW 0 B ln tk nl od (ym_se 1 pi cd).1 (ym_se 1 pi cd).2) rfl (j := 22) rfl rfl (by decide +kernel) (zd_X12_behindTest (51, .invokevirtual 307, 3, 0, []) (List.mem_of_getElem? (i := 25) rfl)) [(a : Int), 29, (ns : Int)] rfl ⟨zp_o2 hp, zp_o0 (by decide) (by decide) (by decide) (by decide), zp_o0 (by omega) (by omega) (by omega) (by omega), trivial⟩ (Nat.le_of_ble_eq_true rfl) ⟨hts, by omega⟩ (fun al hal rnp Pp Gp hextp hfrp hokp hcsp hpsip => ?_)
        obtain rfl := List.mem_singleton.mp hal
        obtain ⟨rfl, htp⟩ := hpsip
        refine zp_load (pc := 54) hx hb (zd_X12_behindTest (54, .aload_n 0, 1, 0, []) (List.mem_of_getElem? (i := 26) rfl)) rfl (j := 1) rfl ?_
        refine zp_load (pc := 55) hx hb (zd_X12_behindTest (55, .iload_n 1, 1, 0, []) (List.mem_of_getElem? (i := 27) rfl)) rfl (j := 0) rfl ?_
        refine zp_if (pc := 56) (tgt := 64) hx hb (zd_X12_behindTest (56, .ifCond .eq 8, 3, 0, []) (List.mem_of_getElem? (i := 28) rfl)) rfl (fun (hcq95 : an = 0) => ?_) (fun (hcq95 : ¬ (an = 0)) => ?_)
        · refine zp_const (pc := 64) hx hb (zd_X12_behindTest (64, .bipush 30, 2, 0, []) (List.mem_of_getElem? (i := 31) rfl)) rfl rfl ?_
          refine zp_const (pc := 66) hx hb (zd_X12_behindTest (66, .iconst 0, 1, 0, []) (List.mem_of_getElem? (i := 32) rfl)) rfl rfl ?_
          refine zp_call (pc := 67) (how := 0) (idx := 288) (mi := 227) (S := []) hx hb hE hw heff hrm (zY_em hW 0 B ln tk nl od ((29, (ns : Int)) :: (ym_se 1 pi cd).1) (ym_se 1 pi cd).2) rfl (j := 29) rfl rfl (by decide +kernel) (zd_X12_behindTest (67, .invokevirtual 288, 3, 0, []) (List.mem_of_getElem? (i := 33) rfl)) [(a : Int), 30, 0] rfl ⟨zp_o2 hp, zp_o0 (by decide) (by decide) (by decide) (by decide), zp_o0 (by decide) (by decide) (by decide) (by decide), trivial⟩ (Nat.le_of_ble_eq_true rfl) ⟨htp, by omega⟩ (fun al hal rne Pe Ge hexte hfre hoke hcse hpsie => ?_)
          obtain rfl := List.mem_singleton.mp hal
          obtain ⟨rfl, hte⟩ := hpsie
          refine zp_load (pc := 70) hx hb (zd_X12_behindTest (70, .aload_n 0, 1, 0, []) (List.mem_of_getElem? (i := 34) rfl)) rfl (j := 1) rfl ?_
          refine zp_call (pc := 71) (how := 0) (idx := 244) (mi := 212) (S := []) hx hb hE hw heff hrm (zY_nx hW B ln (zy_to B ln tk)) rfl (j := 14) rfl rfl (by decide +kernel) (zd_X12_behindTest (71, .invokevirtual 244, 3, 0, []) (List.mem_of_getElem? (i := 35) rfl)) [(a : Int)] rfl ⟨zp_o2 hp, trivial⟩ (Nat.le_of_ble_eq_true rfl) (zD_y hte) (fun al hal rnn Pn Gn hextn hfrn hokn hcsn hpsin => ?_)
          obtain rfl := List.mem_singleton.mp hal
          obtain ⟨rfl, htn⟩ := hpsin
          have htn := zD_nx hte htn
          refine zp_const (pc := 74) hx hb (zd_X12_behindTest (74, .iconst 0, 1, 0, []) (List.mem_of_getElem? (i := 36) rfl)) rfl rfl ?_
          refine zp_iret (pc := 75) (n := 0) hx hb hE hQ hU5 rfl (by decide) (zd_X12_behindTest (75, .ireturn, 1, 0, []) (List.mem_of_getElem? (i := 37) rfl)) (j := 0) rfl (zp_o0 (by omega) (by omega) (by omega) (by omega)) ?_
          rw [hps]
          exfalso
          omega
        · refine zp_const (pc := 59) hx hb (zd_X12_behindTest (59, .bipush 29, 2, 0, []) (List.mem_of_getElem? (i := 29) rfl)) rfl rfl ?_
          refine zp_goto (tgt := 66) (pc := 61) hx hb (zd_X12_behindTest (61, .goto 5, 3, 0, []) (List.mem_of_getElem? (i := 30) rfl)) rfl ?_
          refine zp_const (pc := 66) hx hb (zd_X12_behindTest (66, .iconst 0, 1, 0, []) (List.mem_of_getElem? (i := 32) rfl)) rfl rfl ?_
          refine zp_call (pc := 67) (how := 0) (idx := 288) (mi := 227) (S := []) hx hb hE hw heff hrm (zY_em hW 0 B ln tk nl od ((29, (ns : Int)) :: (ym_se 1 pi cd).1) (ym_se 1 pi cd).2) rfl (j := 29) rfl rfl (by decide +kernel) (zd_X12_behindTest (67, .invokevirtual 288, 3, 0, []) (List.mem_of_getElem? (i := 33) rfl)) [(a : Int), 29, 0] rfl ⟨zp_o2 hp, zp_o0 (by decide) (by decide) (by decide) (by decide), zp_o0 (by decide) (by decide) (by decide) (by decide), trivial⟩ (Nat.le_of_ble_eq_true rfl) ⟨htp, by omega⟩ (fun al hal rne Pe Ge hexte hfre hoke hcse hpsie => ?_)
          obtain rfl := List.mem_singleton.mp hal
          obtain ⟨rfl, hte⟩ := hpsie
          refine zp_load (pc := 70) hx hb (zd_X12_behindTest (70, .aload_n 0, 1, 0, []) (List.mem_of_getElem? (i := 34) rfl)) rfl (j := 1) rfl ?_
          refine zp_call (pc := 71) (how := 0) (idx := 244) (mi := 212) (S := []) hx hb hE hw heff hrm (zY_nx hW B ln (zy_to B ln tk)) rfl (j := 14) rfl rfl (by decide +kernel) (zd_X12_behindTest (71, .invokevirtual 244, 3, 0, []) (List.mem_of_getElem? (i := 35) rfl)) [(a : Int)] rfl ⟨zp_o2 hp, trivial⟩ (Nat.le_of_ble_eq_true rfl) (zD_y hte) (fun al hal rnn Pn Gn hextn hfrn hokn hcsn hpsin => ?_)
          obtain rfl := List.mem_singleton.mp hal
          obtain ⟨rfl, htn⟩ := hpsin
          have htn := zD_nx hte htn
          refine zp_const (pc := 74) hx hb (zd_X12_behindTest (74, .iconst 0, 1, 0, []) (List.mem_of_getElem? (i := 36) rfl)) rfl rfl ?_
          refine zp_iret (pc := 75) (n := 0) hx hb hE hQ hU5 rfl (by decide) (zd_X12_behindTest (75, .ireturn, 1, 0, []) (List.mem_of_getElem? (i := 37) rfl)) (j := 0) rfl (zp_o0 (by omega) (by omega) (by omega) (by omega)) ?_
          rw [hps]
          exfalso
          omega
    · refine zp_const (pc := 27) hx hb (zd_X12_behindTest (27, .iconst 2, 1, 0, []) (List.mem_of_getElem? (i := 13) rfl)) rfl rfl ?_
      refine zp_goto (tgt := 32) (pc := 28) hx hb (zd_X12_behindTest (28, .goto 4, 3, 0, []) (List.mem_of_getElem? (i := 14) rfl)) rfl ?_
      refine zp_call (pc := 32) (how := 0) (idx := 344) (mi := 231) (S := []) hx hb hE hw heff hrm (zY_se hW 0 B ln tk nl od pi cd) rfl (j := 33) rfl rfl (by decide +kernel) (zd_X12_behindTest (32, .invokevirtual 344, 3, 0, []) (List.mem_of_getElem? (i := 16) rfl)) [(a : Int), 2] rfl ⟨zp_o2 hp, zp_o0 (by decide) (by decide) (by decide) (by decide), trivial⟩ (Nat.le_of_ble_eq_true rfl) ⟨hD, hj4⟩ (fun al hal rns Ps Gs hexts hfrs hoks hcss hpsis => ?_)
      obtain rfl := List.mem_singleton.mp hal
      obtain ⟨rfl, hts⟩ := hpsis
      have hts : zD a Gs 0 B ln tk nl od (ym_se 2 pi cd).1 (ym_se 2 pi cd).2 := hts
      have hts2 := hts
      obtain ⟨⟨s13, sl, st, s12, sB⟩, ⟨s14, s15, s16, s17⟩, ⟨s19, s18⟩, ⟨s23, s24, s25⟩, s26, ⟨s29, sp⟩, s30⟩ := hts2
      have hjs := zDj_se (least := 2) hI.1
      have hjs : zDj (zy_fr B ln tk) (ym_se 2 pi cd).1 (ym_se 2 pi cd).2 := hjs
      have hpl := hjs.2.1
      have hcl := hjs.1
      obtain ⟨ns, hns⟩ : ∃ x : Nat, x = (ym_se 2 pi cd).2.2.2 := ⟨_, rfl⟩
      have s23 : Gs a 23 = (ns : Int) := by rw [hns]; exact s23
      refine zp_load (pc := 35) hx hb (zd_X12_behindTest (35, .aload_n 0, 1, 0, []) (List.mem_of_getElem? (i := 17) rfl)) rfl (j := 1) rfl ?_
      refine zp_load (pc := 36) hx hb (zd_X12_behindTest (36, .iload_n 1, 1, 0, []) (List.mem_of_getElem? (i := 18) rfl)) rfl (j := 0) rfl ?_
      refine zp_if (pc := 37) (tgt := 45) hx hb (zd_X12_behindTest (37, .ifCond .eq 8, 3, 0, []) (List.mem_of_getElem? (i := 19) rfl)) rfl (fun (hcq96 : an = 0) => ?_) (fun (hcq96 : ¬ (an = 0)) => ?_)
      · refine zp_const (pc := 45) hx hb (zd_X12_behindTest (45, .bipush 30, 2, 0, []) (List.mem_of_getElem? (i := 22) rfl)) rfl rfl ?_
        refine zp_load (pc := 47) hx hb (zd_X12_behindTest (47, .aload_n 0, 1, 0, []) (List.mem_of_getElem? (i := 23) rfl)) rfl (j := 1) rfl ?_
        refine zp_getf (n := (ns : Int)) (pc := 48) hx hb hE hw (zd_X12_behindTest (48, .getfield 279, 3, 0, []) (List.mem_of_getElem? (i := 24) rfl)) (j := 41) rfl rfl rfl hp s23 ?_
        refine zp_call (pc := 51) (how := 0) (idx := 307) (mi := 220) (S := []) hx hb hE hw heff hrm (zY_pu hW 0 B ln tk nl od (ym_se 2 pi cd).1 (ym_se 2 pi cd).2) rfl (j := 22) rfl rfl (by decide +kernel) (zd_X12_behindTest (51, .invokevirtual 307, 3, 0, []) (List.mem_of_getElem? (i := 25) rfl)) [(a : Int), 30, (ns : Int)] rfl ⟨zp_o2 hp, zp_o0 (by decide) (by decide) (by decide) (by decide), zp_o0 (by omega) (by omega) (by omega) (by omega), trivial⟩ (Nat.le_of_ble_eq_true rfl) ⟨hts, by omega⟩ (fun al hal rnp Pp Gp hextp hfrp hokp hcsp hpsip => ?_)
        obtain rfl := List.mem_singleton.mp hal
        obtain ⟨rfl, htp⟩ := hpsip
        refine zp_load (pc := 54) hx hb (zd_X12_behindTest (54, .aload_n 0, 1, 0, []) (List.mem_of_getElem? (i := 26) rfl)) rfl (j := 1) rfl ?_
        refine zp_load (pc := 55) hx hb (zd_X12_behindTest (55, .iload_n 1, 1, 0, []) (List.mem_of_getElem? (i := 27) rfl)) rfl (j := 0) rfl ?_
        refine zp_if (pc := 56) (tgt := 64) hx hb (zd_X12_behindTest (56, .ifCond .eq 8, 3, 0, []) (List.mem_of_getElem? (i := 28) rfl)) rfl (fun (hcq97 : an = 0) => ?_) (fun (hcq97 : ¬ (an = 0)) => ?_)
        · refine zp_const (pc := 64) hx hb (zd_X12_behindTest (64, .bipush 30, 2, 0, []) (List.mem_of_getElem? (i := 31) rfl)) rfl rfl ?_
          refine zp_const (pc := 66) hx hb (zd_X12_behindTest (66, .iconst 0, 1, 0, []) (List.mem_of_getElem? (i := 32) rfl)) rfl rfl ?_
          refine zp_call (pc := 67) (how := 0) (idx := 288) (mi := 227) (S := []) hx hb hE hw heff hrm (zY_em hW 0 B ln tk nl od ((30, (ns : Int)) :: (ym_se 2 pi cd).1) (ym_se 2 pi cd).2) rfl (j := 29) rfl rfl (by decide +kernel) (zd_X12_behindTest (67, .invokevirtual 288, 3, 0, []) (List.mem_of_getElem? (i := 33) rfl)) [(a : Int), 30, 0] rfl ⟨zp_o2 hp, zp_o0 (by decide) (by decide) (by decide) (by decide), zp_o0 (by decide) (by decide) (by decide) (by decide), trivial⟩ (Nat.le_of_ble_eq_true rfl) ⟨htp, by omega⟩ (fun al hal rne Pe Ge hexte hfre hoke hcse hpsie => ?_)
          obtain rfl := List.mem_singleton.mp hal
          obtain ⟨rfl, hte⟩ := hpsie
          refine zp_load (pc := 70) hx hb (zd_X12_behindTest (70, .aload_n 0, 1, 0, []) (List.mem_of_getElem? (i := 34) rfl)) rfl (j := 1) rfl ?_
          refine zp_call (pc := 71) (how := 0) (idx := 244) (mi := 212) (S := []) hx hb hE hw heff hrm (zY_nx hW B ln (zy_to B ln tk)) rfl (j := 14) rfl rfl (by decide +kernel) (zd_X12_behindTest (71, .invokevirtual 244, 3, 0, []) (List.mem_of_getElem? (i := 35) rfl)) [(a : Int)] rfl ⟨zp_o2 hp, trivial⟩ (Nat.le_of_ble_eq_true rfl) (zD_y hte) (fun al hal rnn Pn Gn hextn hfrn hokn hcsn hpsin => ?_)
          obtain rfl := List.mem_singleton.mp hal
          obtain ⟨rfl, htn⟩ := hpsin
          have htn := zD_nx hte htn
          refine zp_const (pc := 74) hx hb (zd_X12_behindTest (74, .iconst 0, 1, 0, []) (List.mem_of_getElem? (i := 36) rfl)) rfl rfl ?_
          refine zp_iret (pc := 75) (n := 0) hx hb hE hQ hU5 rfl (by decide) (zd_X12_behindTest (75, .ireturn, 1, 0, []) (List.mem_of_getElem? (i := 37) rfl)) (j := 0) rfl (zp_o0 (by omega) (by omega) (by omega) (by omega)) ?_
          rw [hps]
          exfalso
          omega
        · refine zp_const (pc := 59) hx hb (zd_X12_behindTest (59, .bipush 29, 2, 0, []) (List.mem_of_getElem? (i := 29) rfl)) rfl rfl ?_
          refine zp_goto (tgt := 66) (pc := 61) hx hb (zd_X12_behindTest (61, .goto 5, 3, 0, []) (List.mem_of_getElem? (i := 30) rfl)) rfl ?_
          refine zp_const (pc := 66) hx hb (zd_X12_behindTest (66, .iconst 0, 1, 0, []) (List.mem_of_getElem? (i := 32) rfl)) rfl rfl ?_
          refine zp_call (pc := 67) (how := 0) (idx := 288) (mi := 227) (S := []) hx hb hE hw heff hrm (zY_em hW 0 B ln tk nl od ((30, (ns : Int)) :: (ym_se 2 pi cd).1) (ym_se 2 pi cd).2) rfl (j := 29) rfl rfl (by decide +kernel) (zd_X12_behindTest (67, .invokevirtual 288, 3, 0, []) (List.mem_of_getElem? (i := 33) rfl)) [(a : Int), 29, 0] rfl ⟨zp_o2 hp, zp_o0 (by decide) (by decide) (by decide) (by decide), zp_o0 (by decide) (by decide) (by decide) (by decide), trivial⟩ (Nat.le_of_ble_eq_true rfl) ⟨htp, by omega⟩ (fun al hal rne Pe Ge hexte hfre hoke hcse hpsie => ?_)
          obtain rfl := List.mem_singleton.mp hal
          obtain ⟨rfl, hte⟩ := hpsie
          refine zp_load (pc := 70) hx hb (zd_X12_behindTest (70, .aload_n 0, 1, 0, []) (List.mem_of_getElem? (i := 34) rfl)) rfl (j := 1) rfl ?_
          refine zp_call (pc := 71) (how := 0) (idx := 244) (mi := 212) (S := []) hx hb hE hw heff hrm (zY_nx hW B ln (zy_to B ln tk)) rfl (j := 14) rfl rfl (by decide +kernel) (zd_X12_behindTest (71, .invokevirtual 244, 3, 0, []) (List.mem_of_getElem? (i := 35) rfl)) [(a : Int)] rfl ⟨zp_o2 hp, trivial⟩ (Nat.le_of_ble_eq_true rfl) (zD_y hte) (fun al hal rnn Pn Gn hextn hfrn hokn hcsn hpsin => ?_)
          obtain rfl := List.mem_singleton.mp hal
          obtain ⟨rfl, htn⟩ := hpsin
          have htn := zD_nx hte htn
          refine zp_const (pc := 74) hx hb (zd_X12_behindTest (74, .iconst 0, 1, 0, []) (List.mem_of_getElem? (i := 36) rfl)) rfl rfl ?_
          refine zp_iret (pc := 75) (n := 0) hx hb hE hQ hU5 rfl (by decide) (zd_X12_behindTest (75, .ireturn, 1, 0, []) (List.mem_of_getElem? (i := 37) rfl)) (j := 0) rfl (zp_o0 (by omega) (by omega) (by omega) (by omega)) ?_
          rw [hps]
          exfalso
          omega
      · refine zp_const (pc := 40) hx hb (zd_X12_behindTest (40, .bipush 29, 2, 0, []) (List.mem_of_getElem? (i := 20) rfl)) rfl rfl ?_
        refine zp_goto (tgt := 47) (pc := 42) hx hb (zd_X12_behindTest (42, .goto 5, 3, 0, []) (List.mem_of_getElem? (i := 21) rfl)) rfl ?_
        refine zp_load (pc := 47) hx hb (zd_X12_behindTest (47, .aload_n 0, 1, 0, []) (List.mem_of_getElem? (i := 23) rfl)) rfl (j := 1) rfl ?_
        refine zp_getf (n := (ns : Int)) (pc := 48) hx hb hE hw (zd_X12_behindTest (48, .getfield 279, 3, 0, []) (List.mem_of_getElem? (i := 24) rfl)) (j := 41) rfl rfl rfl hp s23 ?_
        refine zp_call (pc := 51) (how := 0) (idx := 307) (mi := 220) (S := []) hx hb hE hw heff hrm (zY_pu hW 0 B ln tk nl od (ym_se 2 pi cd).1 (ym_se 2 pi cd).2) rfl (j := 22) rfl rfl (by decide +kernel) (zd_X12_behindTest (51, .invokevirtual 307, 3, 0, []) (List.mem_of_getElem? (i := 25) rfl)) [(a : Int), 29, (ns : Int)] rfl ⟨zp_o2 hp, zp_o0 (by decide) (by decide) (by decide) (by decide), zp_o0 (by omega) (by omega) (by omega) (by omega), trivial⟩ (Nat.le_of_ble_eq_true rfl) ⟨hts, by omega⟩ (fun al hal rnp Pp Gp hextp hfrp hokp hcsp hpsip => ?_)
        obtain rfl := List.mem_singleton.mp hal
        obtain ⟨rfl, htp⟩ := hpsip
        refine zp_load (pc := 54) hx hb (zd_X12_behindTest (54, .aload_n 0, 1, 0, []) (List.mem_of_getElem? (i := 26) rfl)) rfl (j := 1) rfl ?_
        refine zp_load (pc := 55) hx hb (zd_X12_behindTest (55, .iload_n 1, 1, 0, []) (List.mem_of_getElem? (i := 27) rfl)) rfl (j := 0) rfl ?_
        refine zp_if (pc := 56) (tgt := 64) hx hb (zd_X12_behindTest (56, .ifCond .eq 8, 3, 0, []) (List.mem_of_getElem? (i := 28) rfl)) rfl (fun (hcq98 : an = 0) => ?_) (fun (hcq98 : ¬ (an = 0)) => ?_)
        · refine zp_const (pc := 64) hx hb (zd_X12_behindTest (64, .bipush 30, 2, 0, []) (List.mem_of_getElem? (i := 31) rfl)) rfl rfl ?_
          refine zp_const (pc := 66) hx hb (zd_X12_behindTest (66, .iconst 0, 1, 0, []) (List.mem_of_getElem? (i := 32) rfl)) rfl rfl ?_
          refine zp_call (pc := 67) (how := 0) (idx := 288) (mi := 227) (S := []) hx hb hE hw heff hrm (zY_em hW 0 B ln tk nl od ((29, (ns : Int)) :: (ym_se 2 pi cd).1) (ym_se 2 pi cd).2) rfl (j := 29) rfl rfl (by decide +kernel) (zd_X12_behindTest (67, .invokevirtual 288, 3, 0, []) (List.mem_of_getElem? (i := 33) rfl)) [(a : Int), 30, 0] rfl ⟨zp_o2 hp, zp_o0 (by decide) (by decide) (by decide) (by decide), zp_o0 (by decide) (by decide) (by decide) (by decide), trivial⟩ (Nat.le_of_ble_eq_true rfl) ⟨htp, by omega⟩ (fun al hal rne Pe Ge hexte hfre hoke hcse hpsie => ?_)
          obtain rfl := List.mem_singleton.mp hal
          obtain ⟨rfl, hte⟩ := hpsie
          refine zp_load (pc := 70) hx hb (zd_X12_behindTest (70, .aload_n 0, 1, 0, []) (List.mem_of_getElem? (i := 34) rfl)) rfl (j := 1) rfl ?_
          refine zp_call (pc := 71) (how := 0) (idx := 244) (mi := 212) (S := []) hx hb hE hw heff hrm (zY_nx hW B ln (zy_to B ln tk)) rfl (j := 14) rfl rfl (by decide +kernel) (zd_X12_behindTest (71, .invokevirtual 244, 3, 0, []) (List.mem_of_getElem? (i := 35) rfl)) [(a : Int)] rfl ⟨zp_o2 hp, trivial⟩ (Nat.le_of_ble_eq_true rfl) (zD_y hte) (fun al hal rnn Pn Gn hextn hfrn hokn hcsn hpsin => ?_)
          obtain rfl := List.mem_singleton.mp hal
          obtain ⟨rfl, htn⟩ := hpsin
          have htn := zD_nx hte htn
          refine zp_const (pc := 74) hx hb (zd_X12_behindTest (74, .iconst 0, 1, 0, []) (List.mem_of_getElem? (i := 36) rfl)) rfl rfl ?_
          refine zp_iret (pc := 75) (n := 0) hx hb hE hQ hU5 rfl (by decide) (zd_X12_behindTest (75, .ireturn, 1, 0, []) (List.mem_of_getElem? (i := 37) rfl)) (j := 0) rfl (zp_o0 (by omega) (by omega) (by omega) (by omega)) ?_
          rw [hps]
          exfalso
          omega
        · refine zp_const (pc := 59) hx hb (zd_X12_behindTest (59, .bipush 29, 2, 0, []) (List.mem_of_getElem? (i := 29) rfl)) rfl rfl ?_
          refine zp_goto (tgt := 66) (pc := 61) hx hb (zd_X12_behindTest (61, .goto 5, 3, 0, []) (List.mem_of_getElem? (i := 30) rfl)) rfl ?_
          refine zp_const (pc := 66) hx hb (zd_X12_behindTest (66, .iconst 0, 1, 0, []) (List.mem_of_getElem? (i := 32) rfl)) rfl rfl ?_
          refine zp_call (pc := 67) (how := 0) (idx := 288) (mi := 227) (S := []) hx hb hE hw heff hrm (zY_em hW 0 B ln tk nl od ((29, (ns : Int)) :: (ym_se 2 pi cd).1) (ym_se 2 pi cd).2) rfl (j := 29) rfl rfl (by decide +kernel) (zd_X12_behindTest (67, .invokevirtual 288, 3, 0, []) (List.mem_of_getElem? (i := 33) rfl)) [(a : Int), 29, 0] rfl ⟨zp_o2 hp, zp_o0 (by decide) (by decide) (by decide) (by decide), zp_o0 (by decide) (by decide) (by decide) (by decide), trivial⟩ (Nat.le_of_ble_eq_true rfl) ⟨htp, by omega⟩ (fun al hal rne Pe Ge hexte hfre hoke hcse hpsie => ?_)
          obtain rfl := List.mem_singleton.mp hal
          obtain ⟨rfl, hte⟩ := hpsie
          refine zp_load (pc := 70) hx hb (zd_X12_behindTest (70, .aload_n 0, 1, 0, []) (List.mem_of_getElem? (i := 34) rfl)) rfl (j := 1) rfl ?_
          refine zp_call (pc := 71) (how := 0) (idx := 244) (mi := 212) (S := []) hx hb hE hw heff hrm (zY_nx hW B ln (zy_to B ln tk)) rfl (j := 14) rfl rfl (by decide +kernel) (zd_X12_behindTest (71, .invokevirtual 244, 3, 0, []) (List.mem_of_getElem? (i := 35) rfl)) [(a : Int)] rfl ⟨zp_o2 hp, trivial⟩ (Nat.le_of_ble_eq_true rfl) (zD_y hte) (fun al hal rnn Pn Gn hextn hfrn hokn hcsn hpsin => ?_)
          obtain rfl := List.mem_singleton.mp hal
          obtain ⟨rfl, htn⟩ := hpsin
          have htn := zD_nx hte htn
          refine zp_const (pc := 74) hx hb (zd_X12_behindTest (74, .iconst 0, 1, 0, []) (List.mem_of_getElem? (i := 36) rfl)) rfl rfl ?_
          refine zp_iret (pc := 75) (n := 0) hx hb hE hQ hU5 rfl (by decide) (zd_X12_behindTest (75, .ireturn, 1, 0, []) (List.mem_of_getElem? (i := 37) rfl)) (j := 0) rfl (zp_o0 (by omega) (by omega) (by omega) (by omega)) ?_
          rw [hps]
          refine ⟨rfl, ?_⟩
          show zDr a Gn B ln 0 (ym_bt (zy_so B ln) (zy_wo B ln) (zy_to B ln) tk nl od pi cd)
          unfold ym_bt
          rw [if_pos (yr_w_i.mpr ⟨by omega, by omega⟩)]
          rw [hns] at htn
          exact ⟨rfl, htn⟩
  refine zp_load (pc := 0) hx hb (zd_X12_behindTest (0, .aload_n 0, 1, 0, []) (List.mem_of_getElem? (i := 0) rfl)) rfl (j := 0) rfl ?_
  refine zp_ldc2 (pc := 1) hx hb hE (zd_X12_behindTest (1, .ldc2_w 354, 3, 0, []) (List.mem_of_getElem? (i := 1) rfl)) (j := 102) rfl ?_
  refine zp_call (pc := 4) (how := 0) (idx := 300) (mi := 216) (S := []) hx hb hE hw heff hrm (zY_wo hW) rfl (j := 18) rfl rfl (by decide +kernel) (zd_X12_behindTest (4, .invokevirtual 300, 3, 0, []) (List.mem_of_getElem? (i := 2) rfl)) [(a : Int), 1476] rfl ⟨zp_o2 hp, zp_o1 ⟨by decide, by decide⟩, trivial⟩ (Nat.le_of_ble_eq_true rfl) trivial (fun al hal rnw Pw Gw hextw hfrw hokw hcsw hpsiw => ?_)
  obtain rfl := List.mem_singleton.mp hal
  have hrw := zp_int (hokw _ rfl).1
  obtain ⟨hPew, hGew, htw⟩ := hpsiw
  rw [hPew, hGew]
  have htw : rnw = 1 ↔ zp_n u.2.1 a 16 = 1 ∧ zp_n u.2.1 a 17 = 1476 := htw
  rw [d16, d17] at htw
  refine zp_store (L' := [(1, 0, rnw), (0, 2, (a : Int))]) (pc := 7) hx hb hnL (zd_X12_behindTest (7, .istore_n 1, 1, 0, []) (List.mem_of_getElem? (i := 3) rfl)) rfl rfl rfl ?_
  refine zp_load (pc := 8) hx hb (zd_X12_behindTest (8, .iload_n 1, 1, 0, []) (List.mem_of_getElem? (i := 4) rfl)) rfl (j := 0) rfl ?_
  refine zp_if (pc := 9) (tgt := 22) hx hb (zd_X12_behindTest (9, .ifCond .ne 13, 3, 0, []) (List.mem_of_getElem? (i := 5) rfl)) rfl (fun (hcq99 : ¬ rnw = 0) => ?_) (fun (hcq99 : ¬ (¬ rnw = 0)) => ?_)
  · exact h22 rnw (by omega) (by omega)
  · refine zp_load (pc := 12) hx hb (zd_X12_behindTest (12, .aload_n 0, 1, 0, []) (List.mem_of_getElem? (i := 6) rfl)) rfl (j := 1) rfl ?_
    refine zp_ldc2 (pc := 13) hx hb hE (zd_X12_behindTest (13, .ldc2_w 356, 3, 0, []) (List.mem_of_getElem? (i := 7) rfl)) (j := 103) rfl ?_
    refine zp_call (pc := 16) (how := 0) (idx := 300) (mi := 216) (S := []) hx hb hE hw heff hrm (zY_wo hW) rfl (j := 18) rfl rfl (by decide +kernel) (zd_X12_behindTest (16, .invokevirtual 300, 3, 0, []) (List.mem_of_getElem? (i := 8) rfl)) [(a : Int), 498] rfl ⟨zp_o2 hp, zp_o1 ⟨by decide, by decide⟩, trivial⟩ (Nat.le_of_ble_eq_true rfl) trivial (fun al hal rnv Pv Gv hextv hfrv hokv hcsv hpsiv => ?_)
    obtain rfl := List.mem_singleton.mp hal
    have hrv := zp_int (hokv _ rfl).1
    obtain ⟨hPev, hGev, htv⟩ := hpsiv
    rw [hPev, hGev]
    have htv : rnv = 1 ↔ zp_n u.2.1 a 16 = 1 ∧ zp_n u.2.1 a 17 = 498 := htv
    rw [d16, d17] at htv
    refine zp_if (pc := 19) (tgt := 76) hx hb (zd_X12_behindTest (19, .ifCond .eq 57, 3, 0, []) (List.mem_of_getElem? (i := 9) rfl)) rfl (fun (hcq100 : rnv = 0) => ?_) (fun (hcq100 : ¬ (rnv = 0)) => ?_)
    · refine zp_load (pc := 76) hx hb (zd_X12_behindTest (76, .aload_n 0, 1, 0, []) (List.mem_of_getElem? (i := 38) rfl)) rfl (j := 1) rfl ?_
      refine zp_call (pc := 77) (how := 0) (idx := 347) (mi := 232) (S := []) hx hb hE hw heff hrm (zY_nn hW pi) rfl (j := 34) rfl rfl (by decide +kernel) (zd_X12_behindTest (77, .invokevirtual 347, 3, 0, []) (List.mem_of_getElem? (i := 39) rfl)) [(a : Int)] rfl ⟨zp_o2 hp, trivial⟩ (Nat.le_of_ble_eq_true rfl) ⟨dp, d29, fun e he => (hI.1.2.2 e he).2.1⟩ (fun al hal rni Pi Gi hexti hfri hoki hcsi hpsii => ?_)
      obtain rfl := List.mem_singleton.mp hal
      have hri := zp_int (hoki _ rfl).1
      obtain ⟨hPei, hGei, hti⟩ := hpsii
      rw [hPei, hGei]
      have hti : rni = ym_in pi := hti
      refine zp_const (pc := 80) hx hb (zd_X12_behindTest (80, .iconst (-1), 1, 0, []) (List.mem_of_getElem? (i := 40) rfl)) rfl rfl ?_
      refine zp_icmp (pc := 81) (tgt := 86) hx hb (zd_X12_behindTest (81, .if_icmp .ne 5, 3, 0, []) (List.mem_of_getElem? (i := 41) rfl)) rfl (fun (hcq101 : ¬ rni = (-1)) => ?_) (fun (hcq101 : ¬ (¬ rni = (-1))) => ?_)
      · refine zp_load (pc := 86) hx hb (zd_X12_behindTest (86, .aload_n 0, 1, 0, []) (List.mem_of_getElem? (i := 44) rfl)) rfl (j := 1) rfl ?_
        refine zp_load (pc := 87) hx hb (zd_X12_behindTest (87, .aload_n 0, 1, 0, []) (List.mem_of_getElem? (i := 45) rfl)) rfl (j := 1) rfl ?_
        refine zp_const (pc := 88) hx hb (zd_X12_behindTest (88, .bipush 41, 2, 0, []) (List.mem_of_getElem? (i := 46) rfl)) rfl rfl ?_
        refine zp_call (pc := 90) (how := 0) (idx := 313) (mi := 221) (S := [(2, (a : Int))]) hx hb hE hw heff hrm (zY_si hW) rfl (j := 23) rfl rfl (by decide +kernel) (zd_X12_behindTest (90, .invokevirtual 313, 3, 0, []) (List.mem_of_getElem? (i := 47) rfl)) [(a : Int), 41] rfl ⟨zp_o2 hp, zp_o0 (by decide) (by decide) (by decide) (by decide), trivial⟩ (Nat.le_of_ble_eq_true rfl) trivial (fun al hal rnx Px Gx hextx hfrx hokx hcsx hpsix => ?_)
        obtain rfl := List.mem_singleton.mp hal
        have hrx := zp_int (hokx _ rfl).1
        obtain ⟨hPex, hGex, htx⟩ := hpsix
        rw [hPex, hGex]
        have htx : rnx = 1 ↔ zp_n u.2.1 a 16 = 3 ∧ zp_n u.2.1 a 17 = 41 := htx
        rw [d16, d17] at htx
        refine zp_call (pc := 93) (how := 0) (idx := 275) (mi := 217) (S := []) hx hb hE hw heff hrm (zY_mu hW B ln tk nl od pi cd) rfl (j := 19) rfl rfl (by decide +kernel) (zd_X12_behindTest (93, .invokevirtual 275, 3, 0, []) (List.mem_of_getElem? (i := 48) rfl)) [(a : Int), rnx] rfl ⟨zp_o2 hp, zp_o0 (by omega) (by omega) (by omega) (by omega), trivial⟩ (Nat.le_of_ble_eq_true rfl) hD (fun al hal rnm Pm Gm hextm hfrm hokm hcsm hpsim => ?_)
        obtain rfl := List.mem_singleton.mp hal
        obtain ⟨rfl, htm⟩ := hpsim
        have htm : ((rnx : Int) ≠ 1 → zD a Gm 1 B ln tk nl od pi cd ∧ Gm a 18 = (zy_fr B ln tk : Int)) ∧ ((rnx : Int) = 1 → zD a Gm 0 B ln (zy_to B ln tk) nl od pi cd) := htm
        by_cases hmz : (rnx : Int) = 1
        · have htm := htm.2 hmz
          have htm2 := htm
          obtain ⟨⟨m13, ml, mt, m12, mB⟩, ⟨m14, m15, m16, m17⟩, ⟨m19, m18⟩, ⟨m23, m24, m25⟩, m26, ⟨m29, mp⟩, m30⟩ := htm2
          refine zp_load (pc := 96) hx hb (zd_X12_behindTest (96, .aload_n 0, 1, 0, []) (List.mem_of_getElem? (i := 49) rfl)) rfl (j := 1) rfl ?_
          refine zp_getf (n := 0) (pc := 97) hx hb hE hw (zd_X12_behindTest (97, .getfield 240, 3, 0, []) (List.mem_of_getElem? (i := 50) rfl)) (j := 37) rfl rfl rfl hp m19 ?_
          refine zp_if (pc := 100) (tgt := 128) hx hb (zd_X12_behindTest (100, .ifCond .ne 28, 3, 0, []) (List.mem_of_getElem? (i := 51) rfl)) rfl (fun (hcq102 : ¬ 0 = 0) => ?_) (fun (hcq102 : ¬ (¬ 0 = 0)) => ?_)
          · exfalso
            omega
          · refine zp_load (pc := 103) hx hb (zd_X12_behindTest (103, .aload_n 0, 1, 0, []) (List.mem_of_getElem? (i := 52) rfl)) rfl (j := 1) rfl ?_
            refine zp_const (pc := 104) hx hb (zd_X12_behindTest (104, .iconst 1, 1, 0, []) (List.mem_of_getElem? (i := 53) rfl)) rfl rfl ?_
            refine zp_call (pc := 105) (how := 0) (idx := 344) (mi := 231) (S := []) hx hb hE hw heff hrm (zY_se hW 0 B ln (zy_to B ln tk) nl od pi cd) rfl (j := 33) rfl rfl (by decide +kernel) (zd_X12_behindTest (105, .invokevirtual 344, 3, 0, []) (List.mem_of_getElem? (i := 54) rfl)) [(a : Int), 1] rfl ⟨zp_o2 hp, zp_o0 (by decide) (by decide) (by decide) (by decide), trivial⟩ (Nat.le_of_ble_eq_true rfl) ⟨htm, hj4⟩ (fun al hal rns Ps Gs hexts hfrs hoks hcss hpsis => ?_)
            obtain rfl := List.mem_singleton.mp hal
            obtain ⟨rfl, hts⟩ := hpsis
            have hts : zD a Gs 0 B ln (zy_to B ln tk) nl od (ym_se 1 pi cd).1 (ym_se 1 pi cd).2 := hts
            obtain ⟨oo, tt, r, hr, hoo⟩ := zDs_top31 (cd := cd) (fun e he => (hI.1.2.2 e he).2.1) (by omega : ym_in pi ≠ -1)
            have hodn : 1 ≤ od := by
              have h3 : od = zDo pi := hI.2.2.1
              have g3 := (zDs_se (least := 1) (by decide) (cd := cd) hI.2.1).2.2
              rw [hr] at g3
              have g3 : (if (31 : Int) ≤ oo then 1 else 0) + zDo r = zDo pi := g3
              rw [if_pos (by first | decide | exact hoo)] at g3
              omega
            rw [hr] at hts
            have hts2 := hts
            obtain ⟨⟨s13, sl, st, s12, sB⟩, ⟨s14, s15, s16, s17⟩, ⟨s19, s18⟩, ⟨s23, s24, s25⟩, s26, ⟨s29, sp⟩, s30⟩ := hts2
            obtain ⟨rl, hrl⟩ : ∃ x : Nat, x = r.length := ⟨_, rfl⟩
            have s29 : Gs a 29 = (rl : Int) + 1 := s29.trans (by have : ((oo, tt) :: r).length = r.length + 1 := rfl; omega)
            have hrl4 : rl + 1 ≤ 400 := by
              have h9 := (zDj_se (least := 1) hj4).2.1
              rw [hr] at h9
              have h9 : r.length + 1 ≤ 400 := h9
              omega
            obtain ⟨om, hom⟩ : ∃ x : Nat, x + 1 = od := ⟨od - 1, by omega⟩
            have s30 : Gs a 30 = (om : Int) + 1 := s30.trans (by omega)
            refine zp_kn (k := 30) (a := a) (G := Gs) hw (show zp_fd 92 30 = some (12, 0, 0, (-2147483648), 2147483647) from rfl) rfl hp (fun hk30 => ?_)
            have hx30 := zp_int hk30
            rw [s30] at hx30
            refine zp_load (pc := 108) hx hb (zd_X12_behindTest (108, .aload_n 0, 1, 0, []) (List.mem_of_getElem? (i := 55) rfl)) rfl (j := 1) rfl ?_
            refine zp_dup (pc := 109) hx hb (zd_X12_behindTest (109, .dup, 1, 0, []) (List.mem_of_getElem? (i := 56) rfl)) (show (2 : Nat) ≠ 1 by decide) ?_
            refine zp_getf (n := ((rl : Int) + 1)) (pc := 110) hx hb hE hw (zd_X12_behindTest (110, .getfield 282, 3, 0, []) (List.mem_of_getElem? (i := 57) rfl)) (j := 47) rfl rfl rfl hp s29 ?_
            refine zp_const (pc := 113) hx hb (zd_X12_behindTest (113, .iconst 1, 1, 0, []) (List.mem_of_getElem? (i := 58) rfl)) rfl rfl ?_
            refine zp_sub (n := (rl : Int)) (pc := 114) hx hb (zd_X12_behindTest (114, .isub, 1, 0, []) (List.mem_of_getElem? (i := 59) rfl)) (by omega) (zp_r0 (by omega) (by omega)) ?_
            refine zp_putf (pc := 115) hx hb hE hw heff (zd_X12_behindTest (115, .putfield 282, 3, 0, []) (List.mem_of_getElem? (i := 60) rfl)) (j := 47) rfl rfl rfl hp (zp_o0 (by omega) (by omega) (by omega) (by omega)) ?_
            refine zp_load (pc := 118) hx hb (zd_X12_behindTest (118, .aload_n 0, 1, 0, []) (List.mem_of_getElem? (i := 61) rfl)) rfl (j := 1) rfl ?_
            refine zp_dup (pc := 119) hx hb (zd_X12_behindTest (119, .dup, 1, 0, []) (List.mem_of_getElem? (i := 62) rfl)) (show (2 : Nat) ≠ 1 by decide) ?_
            refine zp_getf (n := ((om : Int) + 1)) (pc := 120) hx hb hE hw (zd_X12_behindTest (120, .getfield 304, 3, 0, []) (List.mem_of_getElem? (i := 63) rfl)) (j := 48) rfl rfl rfl hp ((zp_set_ne (Or.inr (by decide))).trans (s30)) ?_
            refine zp_const (pc := 123) hx hb (zd_X12_behindTest (123, .iconst 1, 1, 0, []) (List.mem_of_getElem? (i := 64) rfl)) rfl rfl ?_
            refine zp_sub (n := (om : Int)) (pc := 124) hx hb (zd_X12_behindTest (124, .isub, 1, 0, []) (List.mem_of_getElem? (i := 65) rfl)) (by omega) (zp_r0 (by omega) (by omega)) ?_
            refine zp_putf (pc := 125) hx hb hE hw heff (zd_X12_behindTest (125, .putfield 304, 3, 0, []) (List.mem_of_getElem? (i := 66) rfl)) (j := 48) rfl rfl rfl hp (zp_o0 (by omega) (by omega) (by omega) (by omega)) ?_
            refine zp_const (pc := 128) hx hb (zd_X12_behindTest (128, .iconst 2, 1, 0, []) (List.mem_of_getElem? (i := 67) rfl)) rfl rfl ?_
            refine zp_iret (pc := 129) (n := 2) hx hb hE hQ hU5 rfl (by decide) (zd_X12_behindTest (129, .ireturn, 1, 0, []) (List.mem_of_getElem? (i := 68) rfl)) (j := 0) rfl (zp_o0 (by omega) (by omega) (by omega) (by omega)) ?_
            rw [hps]
            refine ⟨rfl, ?_⟩
            show zDr a (zp_set (zp_set Gs a 29 (rl : Int)) a 30 (om : Int)) B ln 2 (ym_bt (zy_so B ln) (zy_wo B ln) (zy_to B ln) tk nl od pi cd)
            have ca : ¬ yr_w (zy_so B ln) (zy_wo B ln) 1476 tk = true := fun z => by have := yr_w_i.mp z; omega
            have co : ¬ yr_w (zy_so B ln) (zy_wo B ln) 498 tk = true := fun z => by have := yr_w_i.mp z; omega
            unfold ym_bt
            rw [if_neg ca, if_neg co, if_neg (by omega), if_pos (yr_s_i.mpr ⟨by omega, by omega⟩), hr]
            refine ⟨rfl, ?_⟩
            have y1 := zD_29 (v := (rl : Int)) (pi' := r) hts (by omega) sp.2.2
            have y2 := zD_30 (v := (om : Int)) (od' := od - 1) y1 (by omega)
            exact y2
        · have htm := htm.1 hmz
          have htm2 := htm.1
          obtain ⟨⟨m13, ml, mt, m12, mB⟩, ⟨m14, m15, m16, m17⟩, ⟨m19, m18⟩, ⟨m23, m24, m25⟩, m26, ⟨m29, mp⟩, m30⟩ := htm2
          refine zp_load (pc := 96) hx hb (zd_X12_behindTest (96, .aload_n 0, 1, 0, []) (List.mem_of_getElem? (i := 49) rfl)) rfl (j := 1) rfl ?_
          refine zp_getf (n := 1) (pc := 97) hx hb hE hw (zd_X12_behindTest (97, .getfield 240, 3, 0, []) (List.mem_of_getElem? (i := 50) rfl)) (j := 37) rfl rfl rfl hp m19 ?_
          refine zp_if (pc := 100) (tgt := 128) hx hb (zd_X12_behindTest (100, .ifCond .ne 28, 3, 0, []) (List.mem_of_getElem? (i := 51) rfl)) rfl (fun (hcq103 : ¬ 1 = 0) => ?_) (fun (hcq103 : ¬ (¬ 1 = 0)) => ?_)
          · refine zp_const (pc := 128) hx hb (zd_X12_behindTest (128, .iconst 2, 1, 0, []) (List.mem_of_getElem? (i := 67) rfl)) rfl rfl ?_
            refine zp_iret (pc := 129) (n := 2) hx hb hE hQ hU5 rfl (by decide) (zd_X12_behindTest (129, .ireturn, 1, 0, []) (List.mem_of_getElem? (i := 68) rfl)) (j := 0) rfl (zp_o0 (by omega) (by omega) (by omega) (by omega)) ?_
            rw [hps]
            refine ⟨rfl, ?_⟩
            show zDr a Gm B ln 2 (ym_bt (zy_so B ln) (zy_wo B ln) (zy_to B ln) tk nl od pi cd)
            have ca : ¬ yr_w (zy_so B ln) (zy_wo B ln) 1476 tk = true := fun z => by have := yr_w_i.mp z; omega
            have co : ¬ yr_w (zy_so B ln) (zy_wo B ln) 498 tk = true := fun z => by have := yr_w_i.mp z; omega
            unfold ym_bt
            rw [if_neg ca, if_neg co, if_neg (by omega), if_neg (fun z => by have := yr_s_i.mp z; omega)]
            exact ⟨⟨_, _, _, _, _, htm.1, zDj_le (F := zy_fr B ln tk) hI.1 (by have := zy_fr_le (B := B) dt; omega)⟩, htm.2⟩
          · exfalso
            omega
      · refine zp_const (pc := 84) hx hb (zd_X12_behindTest (84, .iconst 4, 1, 0, []) (List.mem_of_getElem? (i := 42) rfl)) rfl rfl ?_
        refine zp_iret (pc := 85) (n := 4) hx hb hE hQ hU5 rfl (by decide) (zd_X12_behindTest (85, .ireturn, 1, 0, []) (List.mem_of_getElem? (i := 43) rfl)) (j := 0) rfl (zp_o0 (by omega) (by omega) (by omega) (by omega)) ?_
        rw [hps]
        refine ⟨rfl, ?_⟩
        show zDr a (zp_n u.2.1) B ln 4 (ym_bt (zy_so B ln) (zy_wo B ln) (zy_to B ln) tk nl od pi cd)
        have ca : ¬ yr_w (zy_so B ln) (zy_wo B ln) 1476 tk = true := fun z => by have := yr_w_i.mp z; omega
        have co : ¬ yr_w (zy_so B ln) (zy_wo B ln) 498 tk = true := fun z => by have := yr_w_i.mp z; omega
        unfold ym_bt
        rw [if_neg ca, if_neg co, if_pos (by omega)]
        exact ⟨rfl, hD⟩
    · exact h22 rnw (by omega) (by omega)
