/-! part c6: the reference: readExpression, begin, beginText, endText, exactly -/
theorem ylf_tot {ord : Bool} {B : Nat → Int} {ln : Nat} (k n p : Nat) (hp : p ≤ ln) (hk : k ≤ 9) : ∃ s, yZ (zy_so B ln) (zy_wo B ln) (zy_to B ln) (ylf ord B ln) k 0 n p yx0 s ∧ ∀ p1 n1 y, s = Sum.inr (p1, n1, y) → p1 ≤ ln := by
  obtain ⟨s, h1, h2⟩ := yZ_tot (so := zy_so B ln) (wo := zy_wo B ln) (nx := zy_to B ln) (lf := ylf ord B ln) (ln := ln) (fun p h => (zy_to_le h).2.1) (fun p h hs => by have h1 := (zy_to_le (B := B) h).2.2 hs; have h2 := (zy_fr_le (B := B) h).1; omega) (fun p p1 oo aa h hl => by have := ylf_to h hl; exact ⟨this.2.1, this.2.2.2⟩) _ k 0 n p yx0 hp hk (Nat.lt_succ_self _)
  exact ⟨s, h1, fun p1 n1 y h => (h2 p1 n1 y h).1⟩
/-- what a run of the pile tells of the text -/
theorem ym_end {ord : Bool} {B : Nat → Int} {ln : Nat} (test : Bool) {p n : Nat} {c : yC} (hp : p ≤ ln) : ∃ s, yZ (zy_so B ln) (zy_wo B ln) (zy_to B ln) (ylf ord B ln) (if test = true then 8 else 3) 0 n p yx0 s ∧ ∀ g r, ym_run (zy_so B ln) (zy_wo B ln) (zy_to B ln) (ylf ord B ln) test g ((if test = true then 0 else 1), p, n, 0, [], c) = some r → (∀ q, r = Sum.inl q → s = Sum.inl q) ∧ ∀ S, r = Sum.inr S → ∃ p1 n1 y k, s = Sum.inr (p1, n1, y) ∧ S.2.1 = p1 ∧ S.2.2.1 = n1 ∧ (ym_se 1 S.2.2.2.2.1 S.2.2.2.2.2).1 = [] ∧ n1 = n + k ∧ yF c.2.2 c (ym_se 1 S.2.2.2.2.1 S.2.2.2.2.2).2 k y ∧ (test = true → yd_T y) := by
  cases test with
  | true =>
    obtain ⟨s, h1, -⟩ := ylf_tot (ord := ord) (B := B) 8 n p hp (by decide)
    refine ⟨s, h1, fun g r hr => ?_⟩
    have hQ := yQ_test (fun p p1 oo aa h => ylf_r p p1 oo aa h) h1 c
    cases s with
    | inl q =>
      obtain ⟨g2, h2⟩ := hQ.1 q rfl
      have e := ym_run_det hr h2
      exact ⟨fun q2 h3 => by rw [e] at h3; rw [Sum.inl.inj h3], fun S h3 => by rw [e] at h3; cases h3⟩
    | inr u =>
      obtain ⟨p1, n1, y⟩ := u
      obtain ⟨hT, g2, k, pend, c', h2, h3, h4, h5⟩ := hQ.2 p1 n1 y rfl
      have e := ym_run_det hr h2
      refine ⟨fun q2 h6 => (by rw [e] at h6; cases h6), fun S h6 => ?_⟩
      rw [e] at h6
      have h6 := Sum.inr.inj h6
      subst h6
      refine ⟨p1, n1, y, k, rfl, rfl, rfl, ?_, h4, ?_, fun _ => hT⟩
      · show (ym_se 1 pend c').1 = []
        rw [h3]
      · show yF c.2.2 c (ym_se 1 pend c').2 k y
        rw [h3]
        exact h5
  | false =>
    obtain ⟨s, h1, -⟩ := ylf_tot (ord := ord) (B := B) 3 n p hp (by decide)
    refine ⟨s, h1, fun g r hr => ?_⟩
    have hQ := yQ_sum (fun p p1 oo aa h => ylf_r p p1 oo aa h) h1 c
    cases s with
    | inl q =>
      obtain ⟨g2, h2⟩ := hQ.1 q rfl
      have e := ym_run_det hr h2
      exact ⟨fun q2 h3 => by rw [e] at h3; rw [Sum.inl.inj h3], fun S h3 => by rw [e] at h3; cases h3⟩
    | inr u =>
      obtain ⟨p1, n1, y⟩ := u
      obtain ⟨g2, k, pend, c', h2, h3, h4, h5⟩ := hQ.2 p1 n1 y rfl
      have e := ym_run_det hr h2
      refine ⟨fun q2 h6 => (by rw [e] at h6; cases h6), fun S h6 => ?_⟩
      rw [e] at h6
      have h6 := Sum.inr.inj h6
      subst h6
      refine ⟨p1, n1, y, k, rfl, rfl, rfl, ?_, h4, ?_, fun z => by cases z⟩
      · show (ym_se 1 pend c').1 = []
        rw [h3]
      · show yF c.2.2 c (ym_se 1 pend c').2 k y
        rw [h3]
        exact h5
theorem ym_run_s {ord : Bool} {B : Nat → Int} {ln : Nat} {test : Bool} {S : yS} {g : Nat} (h4 : S.1 ≠ 4) : ym_run (zy_so B ln) (zy_wo B ln) (zy_to B ln) (ylf ord B ln) test (g + 1) S = ym_go (ym_step (zy_so B ln) (zy_wo B ln) (zy_to B ln) (ylf ord B ln) test S) (ym_run (zy_so B ln) (zy_wo B ln) (zy_to B ln) (ylf ord B ln) test g) := if_neg h4
theorem ym_run_4 {ord : Bool} {B : Nat → Int} {ln : Nat} {test : Bool} {S : yS} (h4 : S.1 = 4) : ym_run (zy_so B ln) (zy_wo B ln) (zy_to B ln) (ylf ord B ln) test 1 S = some (Sum.inr S) := if_pos h4
/-- what comes of an expression -/
noncomputable def zDe_ (ord : Bool) (a : Nat) (G : Nat → Nat → Int) (B : Nat → Int) (ln tk nl : Nat) (cd : yC) (test : Bool) : Prop := ∃ s, yZ (zy_so B ln) (zy_wo B ln) (zy_to B ln) (ylf ord B ln) (if test = true then 8 else 3) 0 nl tk yx0 s ∧ ((∃ q, s = Sum.inl q ∧ (∃ (tk nl od : Nat) (pi : List (Int × Int)) (cd : yC), zD a G 1 B ln tk nl od pi cd) ∧ G a 18 = (zy_fr B ln q : Int)) ∨ ∃ (p1 n1 : Nat) (y : yD) (k od : Nat) (cd' : yC), s = Sum.inr (p1, n1, y) ∧ n1 = nl + k ∧ n1 ≤ 50 ∧ zD a G 0 B ln p1 n1 od [] cd' ∧ yF cd.2.2 cd cd' k y ∧ cd'.2.2 ≤ zy_fr B ln p1 ∧ (test = true → yd_T y))
theorem zDp_ex {pl pa : Nat → Int} : ∀ n, ∃ L : List (Int × Int), L.length = n ∧ zDp pl pa L
  | 0 => ⟨[], rfl, trivial⟩
  | n + 1 => by
    obtain ⟨L, h1, h2⟩ := zDp_ex (pl := pl) (pa := pa) n
    exact ⟨(pl n, pa n) :: L, by show L.length + 1 = n + 1; omega, by rw [h1], by rw [h1], h2⟩
theorem ym_se_mem {least : Int} {e : Int × Int} : ∀ {pi : List (Int × Int)} {cd : yC}, e ∈ (ym_se least pi cd).1 → e ∈ pi
  | [], cd, h => h
  | (o, t) :: r, cd, h => by
    have h : e ∈ (if least ≤ zbinds o then ym_se least r (ym_e1 o t cd) else ((o, t) :: r, cd)).1 := h
    split at h
    · exact List.mem_cons_of_mem _ (ym_se_mem h)
    · exact h
theorem zDn_in : ∀ {pi : List (Int × Int)}, (∀ e ∈ pi, e.1 ≤ 32 ∧ e.1 ≠ 31) → ym_in pi = 32 ∨ ym_in pi = -1
  | [], _ => Or.inr rfl
  | (o, t) :: r, h => by
    have h1 := h (o, t) List.mem_cons_self
    have h2 : o ≤ 32 := h1.1
    have h3 : o ≠ 31 := h1.2
    have ih := zDn_in (pi := r) (fun e he => h e (List.mem_cons_of_mem _ he))
    show (if 31 ≤ o then o else ym_in r) = 32 ∨ (if 31 ≤ o then o else ym_in r) = -1
    split
    · left
      omega
    · exact ih
theorem zDn_rp {ord : Bool} {B : Nat → Int} {ln : Nat} {p n od : Nat} {pi : List (Int × Int)} {cd : yC} {S : yS} (hn : ∀ e ∈ pi, e.1 ≠ 31) (h : ym_rp (zy_so B ln) (zy_wo B ln) (zy_to B ln) (ylf ord B ln) p n od pi cd = Sum.inr S) : ∀ e ∈ S.2.2.2.2.1, e.1 ≠ 31 := by
  unfold ym_rp at h
  split at h
  · split at h
    · cases h
    · have h := Sum.inr.inj h
      subst h
      intro e he
      rcases List.mem_cons.mp he with rfl | he
      · show (32 : Int) ≠ 31
        decide
      · exact hn e he
  · split at h
    · cases h
    · cases hl : ylf ord B ln p with
      | inl q =>
        rw [hl] at h
        cases h
      | inr u =>
        obtain ⟨p1, oo, aa⟩ := u
        rw [hl] at h
        have h := Sum.inr.inj h
        subst h
        exact hn
theorem zDn_bs {B : Nat → Int} {ln : Nat} {tb : Bool} {p n od : Nat} {pi : List (Int × Int)} {cd : yC} {S : yS} (hn : ∀ e ∈ pi, e.1 ≠ 31) (h : ym_bs (zy_so B ln) (zy_wo B ln) (zy_to B ln) tb p n od pi cd = Sum.inr S) : ∀ e ∈ S.2.2.2.2.1, e.1 ≠ 31 := by
  unfold ym_bs at h
  split at h
  · rename_i hj
    have h := Sum.inr.inj h
    subst h
    have hr := ym_jo3 hj
    intro e he
    rcases List.mem_cons.mp he with rfl | he
    · show ym_jo (zy_so B ln) (zy_wo B ln) p ≠ 31
      omega
    · exact hn e (ym_se_mem he)
  · split at h
    · split at h
      · have h := Sum.inr.inj h
        subst h
        exact fun e he => hn e (ym_se_mem (List.mem_of_mem_tail he))
      · cases h
    · split at h
      · have h := Sum.inr.inj h
        subst h
        exact hn
      · split at h
        · have h := Sum.inr.inj h
          subst h
          exact hn
        · split at h
          · cases h
          · rename_i hc
            have h := Sum.inr.inj h
            subst h
            have hr := yr_cm_r hc
            intro e he
            rcases List.mem_cons.mp he with rfl | he
            · show yr_cm (zy_so B ln) (zy_wo B ln) p ≠ 31
              omega
            · exact hn e (ym_se_mem he)
theorem ym_bs_t {B : Nat → Int} {ln : Nat} {tb : Bool} {p n od p' n' od' : Nat} {pi pi' : List (Int × Int)} {cd cd' : yC} (h31 : ym_in pi = 32 ∨ ym_in pi = -1) (ht : tb = false) (h : ym_bs (zy_so B ln) (zy_wo B ln) (zy_to B ln) tb p n od pi cd = Sum.inr (2, p', n', od', pi', cd')) : False := by
  subst ht
  unfold ym_bs at h
  split at h
  · cases h
  · split at h
    · split at h
      · cases h
      · cases h
    · rename_i h2
      rw [if_pos ⟨by omega, rfl⟩] at h
      cases h
noncomputable def zφD_ex (ord : Bool) (B : Nat → Int) (ln tk nl od : Nat) (pi : List (Int × Int)) (cd : yC) : (Nat → Option Nat) → (Nat → Nat → Int) → List Int → Prop := fun P G ps => zD (zp_0 ps) G 0 B ln tk nl od pi cd ∧ nl ≤ 50 ∧ cd.2.2 ≤ zy_fr B ln tk ∧ zDw P ord (zp_0 ps) G
noncomputable def zψD_ex (ord : Bool) (B : Nat → Int) (ln tk nl od : Nat) (pi : List (Int × Int)) (cd : yC) : (Nat → Option Nat) → (Nat → Nat → Int) → List Int → (Nat → Option Nat) → (Nat → Nat → Int) → Int → Prop := fun P G ps P' G' rn => P' = P ∧ zDe_ ord (zp_0 ps) G' B ln tk nl cd (decide (ps.getD 1 0 = 1))
set_option maxHeartbeats 8000000 in
theorem zY_ex {l : Launch} {w : zk_W} (hW : zh_W w) (ord : Bool) (B : Nat → Int) (ln tk nl od : Nat) (pi : List (Int × Int)) (cd : yC) : zk_metX l w zt_dv zt_TB zK_ex (zp_A (zφD_ex ord B ln tk nl od pi cd)) (zp_B (zψD_ex ord B ln tk nl od pi cd)) ∧ zk_cok w zt_TB zK_ex := by
  refine zp_meth hW (pl := 1712) rfl (by decide +kernel) (fun p e R s m args below meth c Q u hx hb hE hQ hU5 heff hnL hok hφ => ?_)
  have hw := hW.1
  obtain ⟨p0, p1, hps, k0, k1⟩ := zp_ps2 hok
  obtain ⟨a, rfl, hp⟩ := zp_this k0
  have hrm : zk_Kr (zk_ev (zp_E zK_ex)) = zk_Kr zK_ex := rfl
  rw [hps] at hφ ⊢
  have hi1 := zp_int k1
  have hφ : zD a (zp_n u.2.1) 0 B ln tk nl od pi cd ∧ nl ≤ 50 ∧ cd.2.2 ≤ zy_fr B ln tk ∧ zDw u.1 ord a (zp_n u.2.1) := hφ
  obtain ⟨hD, hn5, hc5, hw0⟩ := hφ
  have hD2 := hD
  obtain ⟨⟨d13, dl, dt, d12, dB⟩, ⟨d14, d15, d16, d17⟩, ⟨d19, d18⟩, ⟨d23, d24, d25⟩, d26, ⟨d29, dp⟩, d30⟩ := hD2
  obtain ⟨tb, htb⟩ : ∃ x : Bool, x = decide (p1 = 1) := ⟨_, rfl⟩
  obtain ⟨sr, hsr, hend⟩ := ym_end (ord := ord) (B := B) tb (n := nl) (c := cd) dt
  have hfl := zy_fr_le (B := B) dt
  show zp_J p l e R s m args below meth c Q w u [] 0 [(0, 2, (a : Int)), (1, 0, p1)] [] u.1 (zp_n u.2.1)
  have hbx : ∀ (t : Int) (G : Nat → Nat → Int) (q tk9 nl9 od9 : Nat) (pi9 : List (Int × Int)) (cd9 : yC), zD a G 1 B ln tk9 nl9 od9 pi9 cd9 → zDj 400 pi9 cd9 → G a 18 = (zy_fr B ln q : Int) → (∃ g, ym_run (zy_so B ln) (zy_wo B ln) (zy_to B ln) (ylf ord B ln) tb g ((if tb = true then 0 else 1), tk, nl, 0, [], cd) = some (Sum.inl q)) → zp_J p l e R s m args below meth c Q w u [] 20 [(2, 0, t), (0, 2, (a : Int)), (1, 0, p1)] [] u.1 G := by
    intro t G q tk9 nl9 od9 pi9 cd9 hB1 hB2 hB3 hB4
    have hB12 := hB1
    obtain ⟨⟨b13, bl, bt, b12, bB⟩, ⟨b14, b15, b16, b17⟩, ⟨b19, b18⟩, ⟨b23, b24, b25⟩, b26, ⟨b29, bp⟩, b30⟩ := hB12
    refine zp_load (pc := 20) hx hb (zd_X12_readExpression (20, .aload_n 0, 1, 0, []) (List.mem_of_getElem? (i := 12) rfl)) rfl (j := 1) rfl ?_
    refine zp_getf (n := 1) (pc := 21) hx hb hE hw (zd_X12_readExpression (21, .getfield 240, 3, 0, []) (List.mem_of_getElem? (i := 13) rfl)) (j := 37) rfl rfl rfl hp b19 ?_
    refine zp_if (pc := 24) (tgt := 76) hx hb (zd_X12_readExpression (24, .ifCond .ne 52, 3, 0, []) (List.mem_of_getElem? (i := 14) rfl)) rfl (fun (hcq21 : ¬ 1 = 0) => ?_) (fun (hcq21 : ¬ (¬ 1 = 0)) => ?_)
    · refine zp_load (pc := 76) hx hb (zd_X12_readExpression (76, .aload_n 0, 1, 0, []) (List.mem_of_getElem? (i := 40) rfl)) rfl (j := 1) rfl ?_
      refine zp_const (pc := 77) hx hb (zd_X12_readExpression (77, .iconst 1, 1, 0, []) (List.mem_of_getElem? (i := 41) rfl)) rfl rfl ?_
      refine zp_call (pc := 78) (how := 0) (idx := 344) (mi := 231) (S := []) hx hb hE hw heff hrm (zY_se hW 1 B ln tk9 nl9 od9 pi9 cd9) rfl (j := 33) rfl rfl (by decide +kernel) (zd_X12_readExpression (78, .invokevirtual 344, 3, 0, []) (List.mem_of_getElem? (i := 42) rfl)) [(a : Int), 1] rfl ⟨zp_o2 hp, zp_o0 (by decide) (by decide) (by decide) (by decide), trivial⟩ (Nat.le_of_ble_eq_true rfl) ⟨hB1, hB2⟩ (fun al hal rns Ps Gs hexts hfrs hoks hcss hpsis => ?_)
      obtain rfl := List.mem_singleton.mp hal
      obtain ⟨rfl, hts⟩ := hpsis
      refine zp_vret (pc := 81) hx hb hE hQ hU5 rfl (by decide) (zd_X12_readExpression (81, .return_, 1, 0, []) (List.mem_of_getElem? (i := 43) rfl)) (j := 0) rfl ?_
      rw [hps]
      refine ⟨rfl, ?_⟩
      show zDe_ ord a Gs B ln tk nl cd (decide (p1 = 1))
      rw [← htb]
      obtain ⟨g, hg⟩ := hB4
      exact ⟨sr, hsr, Or.inl ⟨q, (hend g _ hg).1 q rfl, ⟨_, _, _, _, _, hts⟩, (zp_nf hfrs hp rfl).trans hB3⟩⟩
    · exfalso
      omega
  have hdn : ∀ (G : Nat → Nat → Int) (p9 n9 od9 : Nat) (pi9 : List (Int × Int)) (cd9 : yC), zD a G 0 B ln p9 n9 od9 pi9 cd9 → zDI B ln (4, p9, n9, od9, pi9, cd9) → (∃ g, ym_run (zy_so B ln) (zy_wo B ln) (zy_to B ln) (ylf ord B ln) tb g ((if tb = true then 0 else 1), tk, nl, 0, [], cd) = some (Sum.inr (4, p9, n9, od9, pi9, cd9))) → zp_J p l e R s m args below meth c Q w u [] 20 [(2, 0, 4), (0, 2, (a : Int)), (1, 0, p1)] [] u.1 G := by
    clear hbx
    intro G p9 n9 od9 pi9 cd9 hB1 hI9 hB4
    have hB12 := hB1
    obtain ⟨⟨b13, bl, bt, b12, bB⟩, ⟨b14, b15, b16, b17⟩, ⟨b19, b18⟩, ⟨b23, b24, b25⟩, b26, ⟨b29, bp⟩, b30⟩ := hB12
    have hj9 : zDj (zy_fr B ln p9) pi9 cd9 := hI9.1
    have hB2 : zDj 400 pi9 cd9 := zDj_le hj9 (by have := zy_fr_le (B := B) bt; omega)
    refine zp_load (pc := 20) hx hb (zd_X12_readExpression (20, .aload_n 0, 1, 0, []) (List.mem_of_getElem? (i := 12) rfl)) rfl (j := 1) rfl ?_
    refine zp_getf (n := 0) (pc := 21) hx hb hE hw (zd_X12_readExpression (21, .getfield 240, 3, 0, []) (List.mem_of_getElem? (i := 13) rfl)) (j := 37) rfl rfl rfl hp b19 ?_
    refine zp_if (pc := 24) (tgt := 76) hx hb (zd_X12_readExpression (24, .ifCond .ne 52, 3, 0, []) (List.mem_of_getElem? (i := 14) rfl)) rfl (fun (hcq22 : ¬ 0 = 0) => ?_) (fun (hcq22 : ¬ (¬ 0 = 0)) => ?_)
    · exfalso
      omega
    · refine zp_load (pc := 27) hx hb (zd_X12_readExpression (27, .iload_n 2, 1, 0, []) (List.mem_of_getElem? (i := 15) rfl)) rfl (j := 0) rfl ?_
      refine zp_const (pc := 28) hx hb (zd_X12_readExpression (28, .iconst 4, 1, 0, []) (List.mem_of_getElem? (i := 16) rfl)) rfl rfl ?_
      refine zp_icmp (pc := 29) (tgt := 76) hx hb (zd_X12_readExpression (29, .if_icmp .eq 47, 3, 0, []) (List.mem_of_getElem? (i := 17) rfl)) rfl (fun (hcq23 : 4 = 4) => ?_) (fun (hcq23 : ¬ (4 = 4)) => ?_)
      · refine zp_load (pc := 76) hx hb (zd_X12_readExpression (76, .aload_n 0, 1, 0, []) (List.mem_of_getElem? (i := 40) rfl)) rfl (j := 1) rfl ?_
        refine zp_const (pc := 77) hx hb (zd_X12_readExpression (77, .iconst 1, 1, 0, []) (List.mem_of_getElem? (i := 41) rfl)) rfl rfl ?_
        refine zp_call (pc := 78) (how := 0) (idx := 344) (mi := 231) (S := []) hx hb hE hw heff hrm (zY_se hW 0 B ln p9 n9 od9 pi9 cd9) rfl (j := 33) rfl rfl (by decide +kernel) (zd_X12_readExpression (78, .invokevirtual 344, 3, 0, []) (List.mem_of_getElem? (i := 42) rfl)) [(a : Int), 1] rfl ⟨zp_o2 hp, zp_o0 (by decide) (by decide) (by decide) (by decide), trivial⟩ (Nat.le_of_ble_eq_true rfl) ⟨hB1, hB2⟩ (fun al hal rns Ps Gs hexts hfrs hoks hcss hpsis => ?_)
        obtain rfl := List.mem_singleton.mp hal
        obtain ⟨rfl, hts⟩ := hpsis
        have hts : zD a Gs 0 B ln p9 n9 od9 (ym_se 1 pi9 cd9).1 (ym_se 1 pi9 cd9).2 := hts
        refine zp_vret (pc := 81) hx hb hE hQ hU5 rfl (by decide) (zd_X12_readExpression (81, .return_, 1, 0, []) (List.mem_of_getElem? (i := 43) rfl)) (j := 0) rfl ?_
        rw [hps]
        refine ⟨rfl, ?_⟩
        show zDe_ ord a Gs B ln tk nl cd (decide (p1 = 1))
        rw [← htb]
        obtain ⟨g, hg⟩ := hB4
        obtain ⟨q1, m1, y, k, z1, z2, z3, z4, z5, z6, z7⟩ := (hend g _ hg).2 _ rfl
        have z2 : p9 = q1 := z2
        have z3 : n9 = m1 := z3
        have z4 : (ym_se 1 pi9 cd9).1 = [] := z4
        have z6 : yF cd.2.2 cd (ym_se 1 pi9 cd9).2 k y := z6
        subst z2
        subst z3
        rw [z4] at hts
        have hj8 := zDj_se (least := 1) hj9
        have hj7 : (ym_se 1 pi9 cd9).2.2.2 + zDe (ym_se 1 pi9 cd9).1 ≤ zy_fr B ln p9 := hj8.1
        exact ⟨sr, hsr, Or.inr ⟨p9, n9, y, k, od9, _, z1, z5, hI9.2.2.2.2.1, hts, z6, by omega, z7⟩⟩
      · exfalso
        omega
  have loop : ∀ (m9 t p9 n9 od9 : Nat) (pi9 : List (Int × Int)) (cd9 : yC) (G : Nat → Nat → Int), 2 * (400 - zy_fr B ln p9) + (if t = 3 then 1 else 0) < m9 → (t = 0 ∨ t = 1 ∨ t = 2 ∨ t = 3) → (t = 0 ∨ t = 2 → tb = true) → zD a G 0 B ln p9 n9 od9 pi9 cd9 → zDI B ln (t, p9, n9, od9, pi9, cd9) → zDw u.1 ord a G → (tb = false → ∀ e ∈ pi9, e.1 ≠ 31) → (∀ r, (∃ g, ym_run (zy_so B ln) (zy_wo B ln) (zy_to B ln) (ylf ord B ln) tb g (t, p9, n9, od9, pi9, cd9) = some r) → ∃ g, ym_run (zy_so B ln) (zy_wo B ln) (zy_to B ln) (ylf ord B ln) tb g ((if tb = true then 0 else 1), tk, nl, 0, [], cd) = some r) → zp_J p l e R s m args below meth c Q w u [] 20 [(2, 0, (t : Int)), (0, 2, (a : Int)), (1, 0, p1)] [] u.1 G := by
    intro m9
    induction m9 with
    | zero => intro t p9 n9 od9 pi9 cd9 G h; exact absurd h (Nat.not_lt_zero _)
    | succ m9 ih =>
      intro t p9 n9 od9 pi9 cd9 G hm ht htt hG hI hwG hno hrun
      have hG2 := hG
      obtain ⟨⟨g13, gl, gt, g12, gB⟩, ⟨g14, g15, g16, g17⟩, ⟨g19, g18⟩, ⟨g23, g24, g25⟩, g26, ⟨g29, gp⟩, g30⟩ := hG2
      have hfr9 := zy_fr_le (B := B) gt
      rcases ht with rfl | rfl | rfl | rfl
      · show zp_J p l e R s m args below meth c Q w u [] 20 [(2, 0, 0), (0, 2, (a : Int)), (1, 0, p1)] [] u.1 G
        refine zp_load (pc := 20) hx hb (zd_X12_readExpression (20, .aload_n 0, 1, 0, []) (List.mem_of_getElem? (i := 12) rfl)) rfl (j := 1) rfl ?_
        refine zp_getf (n := 0) (pc := 21) hx hb hE hw (zd_X12_readExpression (21, .getfield 240, 3, 0, []) (List.mem_of_getElem? (i := 13) rfl)) (j := 37) rfl rfl rfl hp g19 ?_
        refine zp_if (pc := 24) (tgt := 76) hx hb (zd_X12_readExpression (24, .ifCond .ne 52, 3, 0, []) (List.mem_of_getElem? (i := 14) rfl)) rfl (fun (hcq24 : ¬ 0 = 0) => ?_) (fun (hcq24 : ¬ (¬ 0 = 0)) => ?_)
        · exfalso
          omega
        · refine zp_load (pc := 27) hx hb (zd_X12_readExpression (27, .iload_n 2, 1, 0, []) (List.mem_of_getElem? (i := 15) rfl)) rfl (j := 0) rfl ?_
          refine zp_const (pc := 28) hx hb (zd_X12_readExpression (28, .iconst 4, 1, 0, []) (List.mem_of_getElem? (i := 16) rfl)) rfl rfl ?_
          refine zp_icmp (pc := 29) (tgt := 76) hx hb (zd_X12_readExpression (29, .if_icmp .eq 47, 3, 0, []) (List.mem_of_getElem? (i := 17) rfl)) rfl (fun (hcq25 : 0 = 4) => ?_) (fun (hcq25 : ¬ (0 = 4)) => ?_)
          · exfalso
            omega
          · refine zp_load (pc := 32) hx hb (zd_X12_readExpression (32, .iload_n 2, 1, 0, []) (List.mem_of_getElem? (i := 18) rfl)) rfl (j := 0) rfl ?_
            refine zp_if (pc := 33) (tgt := 43) hx hb (zd_X12_readExpression (33, .ifCond .ne 10, 3, 0, []) (List.mem_of_getElem? (i := 19) rfl)) rfl (fun (hcq26 : ¬ 0 = 0) => ?_) (fun (hcq26 : ¬ (¬ 0 = 0)) => ?_)
            · exfalso
              omega
            · refine zp_load (pc := 36) hx hb (zd_X12_readExpression (36, .aload_n 0, 1, 0, []) (List.mem_of_getElem? (i := 20) rfl)) rfl (j := 1) rfl ?_
              refine zp_call (pc := 37) (how := 0) (idx := 358) (mi := 219) (S := []) hx hb hE hw heff hrm (zY_rl hW ord B ln p9 n9 od9 pi9 cd9) rfl (j := 21) rfl rfl (by decide +kernel) (zd_X12_readExpression (37, .invokevirtual 358, 3, 0, []) (List.mem_of_getElem? (i := 21) rfl)) [(a : Int)] rfl ⟨zp_o2 hp, trivial⟩ (Nat.le_of_ble_eq_true rfl) ⟨hG, hI, hwG⟩ (fun al hal rnr Pr Gr hextr hfrr hokr hcsr hpsir => ?_)
              obtain rfl := List.mem_singleton.mp hal
              have hrr := zp_int (hokr _ rfl).1
              obtain ⟨rfl, htr⟩ := hpsir
              have htr : zDr a Gr B ln rnr (ym_rl (zy_so B ln) (zy_wo B ln) (zy_to B ln) (ylf ord B ln) p9 n9 od9 pi9 cd9) := htr
              have hwr := zDw_fr hwG hp hfrr rfl
              have hst : ym_step (zy_so B ln) (zy_wo B ln) (zy_to B ln) (ylf ord B ln) tb (0, p9, n9, od9, pi9, cd9) = ym_rl (zy_so B ln) (zy_wo B ln) (zy_to B ln) (ylf ord B ln) p9 n9 od9 pi9 cd9 := rfl
              refine zp_goto (tgt := 72) (pc := 40) hx hb (zd_X12_readExpression (40, .goto 32, 3, 0, []) (List.mem_of_getElem? (i := 22) rfl)) rfl ?_
              refine zp_store (L' := [(2, 0, rnr), (0, 2, (a : Int)), (1, 0, p1)]) (pc := 72) hx hb hnL (zd_X12_readExpression (72, .istore_n 2, 1, 0, []) (List.mem_of_getElem? (i := 38) rfl)) rfl rfl rfl ?_
              refine zp_goto (tgt := 20) (pc := 73) hx hb (zd_X12_readExpression (73, .goto (-53), 3, 0, []) (List.mem_of_getElem? (i := 39) rfl)) rfl ?_
              cases hyr : ym_rl (zy_so B ln) (zy_wo B ln) (zy_to B ln) (ylf ord B ln) p9 n9 od9 pi9 cd9 with
              | inl q9 =>
                rw [hyr] at htr hst
                obtain ⟨⟨tk8, nl8, od8, pi8, cd8, y1, y2⟩, y3⟩ := htr
                exact hbx rnr Gr q9 tk8 nl8 od8 pi8 cd8 y1 y2 y3 (hrun _ ⟨1, by rw [ym_run_s (by show (0 : Nat) ≠ 4; decide), hst]; rfl⟩)
              | inr S9 =>
                rw [hyr] at htr hst
                obtain ⟨y1, y2⟩ := htr
                have hrun9 : ∀ r, (∃ g, ym_run (zy_so B ln) (zy_wo B ln) (zy_to B ln) (ylf ord B ln) tb g S9 = some r) → ∃ g, ym_run (zy_so B ln) (zy_wo B ln) (zy_to B ln) (ylf ord B ln) tb g ((if tb = true then 0 else 1), tk, nl, 0, [], cd) = some r := fun r hr => by
                  obtain ⟨g, hg⟩ := hr
                  exact hrun r ⟨g + 1, by rw [ym_run_s (by show (0 : Nat) ≠ 4; decide), hst]; exact hg⟩
                have hI9 := zDI_rl hI hyr
                rw [y1]
                obtain ⟨i1, i2, i3⟩ := hI9
                obtain ⟨t8, p8, n8, od8, pi8, cd8⟩ := S9
                have i2 : zy_fr B ln p9 + 1 ≤ zy_fr B ln p8 := i2
                have i3 : t8 = 0 ∨ t8 = 1 ∨ t8 = 3 := i3
                have hp8 := zy_fr_le (B := B) (show p8 ≤ ln from i1.2.2.2.2.2)
                exact ih t8 p8 n8 od8 pi8 cd8 Gr (by rw [if_neg (by decide)] at hm; split <;> omega) (by omega) (fun _ => htt (Or.inl rfl)) y2 i1 hwr (fun z => by rw [htt (Or.inl rfl)] at z; cases z) hrun9
      · show zp_J p l e R s m args below meth c Q w u [] 20 [(2, 0, 1), (0, 2, (a : Int)), (1, 0, p1)] [] u.1 G
        refine zp_load (pc := 20) hx hb (zd_X12_readExpression (20, .aload_n 0, 1, 0, []) (List.mem_of_getElem? (i := 12) rfl)) rfl (j := 1) rfl ?_
        refine zp_getf (n := 0) (pc := 21) hx hb hE hw (zd_X12_readExpression (21, .getfield 240, 3, 0, []) (List.mem_of_getElem? (i := 13) rfl)) (j := 37) rfl rfl rfl hp g19 ?_
        refine zp_if (pc := 24) (tgt := 76) hx hb (zd_X12_readExpression (24, .ifCond .ne 52, 3, 0, []) (List.mem_of_getElem? (i := 14) rfl)) rfl (fun (hcq27 : ¬ 0 = 0) => ?_) (fun (hcq27 : ¬ (¬ 0 = 0)) => ?_)
        · exfalso
          omega
        · refine zp_load (pc := 27) hx hb (zd_X12_readExpression (27, .iload_n 2, 1, 0, []) (List.mem_of_getElem? (i := 15) rfl)) rfl (j := 0) rfl ?_
          refine zp_const (pc := 28) hx hb (zd_X12_readExpression (28, .iconst 4, 1, 0, []) (List.mem_of_getElem? (i := 16) rfl)) rfl rfl ?_
          refine zp_icmp (pc := 29) (tgt := 76) hx hb (zd_X12_readExpression (29, .if_icmp .eq 47, 3, 0, []) (List.mem_of_getElem? (i := 17) rfl)) rfl (fun (hcq28 : 1 = 4) => ?_) (fun (hcq28 : ¬ (1 = 4)) => ?_)
          · exfalso
            omega
          · refine zp_load (pc := 32) hx hb (zd_X12_readExpression (32, .iload_n 2, 1, 0, []) (List.mem_of_getElem? (i := 18) rfl)) rfl (j := 0) rfl ?_
            refine zp_if (pc := 33) (tgt := 43) hx hb (zd_X12_readExpression (33, .ifCond .ne 10, 3, 0, []) (List.mem_of_getElem? (i := 19) rfl)) rfl (fun (hcq29 : ¬ 1 = 0) => ?_) (fun (hcq29 : ¬ (¬ 1 = 0)) => ?_)
            · refine zp_load (pc := 43) hx hb (zd_X12_readExpression (43, .iload_n 2, 1, 0, []) (List.mem_of_getElem? (i := 23) rfl)) rfl (j := 0) rfl ?_
              refine zp_const (pc := 44) hx hb (zd_X12_readExpression (44, .iconst 1, 1, 0, []) (List.mem_of_getElem? (i := 24) rfl)) rfl rfl ?_
              refine zp_icmp (pc := 45) (tgt := 55) hx hb (zd_X12_readExpression (45, .if_icmp .ne 10, 3, 0, []) (List.mem_of_getElem? (i := 25) rfl)) rfl (fun (hcq30 : ¬ 1 = 1) => ?_) (fun (hcq30 : ¬ (¬ 1 = 1)) => ?_)
              · exfalso
                omega
              · refine zp_load (pc := 48) hx hb (zd_X12_readExpression (48, .aload_n 0, 1, 0, []) (List.mem_of_getElem? (i := 26) rfl)) rfl (j := 1) rfl ?_
                refine zp_call (pc := 49) (how := 0) (idx := 341) (mi := 223) (S := []) hx hb hE hw heff hrm (zY_rp hW ord B ln p9 n9 od9 pi9 cd9) rfl (j := 25) rfl rfl (by decide +kernel) (zd_X12_readExpression (49, .invokevirtual 341, 3, 0, []) (List.mem_of_getElem? (i := 27) rfl)) [(a : Int)] rfl ⟨zp_o2 hp, trivial⟩ (Nat.le_of_ble_eq_true rfl) ⟨hG, ⟨1, hI⟩, hwG⟩ (fun al hal rnr Pr Gr hextr hfrr hokr hcsr hpsir => ?_)
                obtain rfl := List.mem_singleton.mp hal
                have hrr := zp_int (hokr _ rfl).1
                obtain ⟨rfl, htr⟩ := hpsir
                have htr : zDr a Gr B ln rnr (ym_rp (zy_so B ln) (zy_wo B ln) (zy_to B ln) (ylf ord B ln) p9 n9 od9 pi9 cd9) := htr
                have hwr := zDw_fr hwG hp hfrr rfl
                have hst : ym_step (zy_so B ln) (zy_wo B ln) (zy_to B ln) (ylf ord B ln) tb (1, p9, n9, od9, pi9, cd9) = ym_rp (zy_so B ln) (zy_wo B ln) (zy_to B ln) (ylf ord B ln) p9 n9 od9 pi9 cd9 := rfl
                refine zp_goto (tgt := 72) (pc := 52) hx hb (zd_X12_readExpression (52, .goto 20, 3, 0, []) (List.mem_of_getElem? (i := 28) rfl)) rfl ?_
                refine zp_store (L' := [(2, 0, rnr), (0, 2, (a : Int)), (1, 0, p1)]) (pc := 72) hx hb hnL (zd_X12_readExpression (72, .istore_n 2, 1, 0, []) (List.mem_of_getElem? (i := 38) rfl)) rfl rfl rfl ?_
                refine zp_goto (tgt := 20) (pc := 73) hx hb (zd_X12_readExpression (73, .goto (-53), 3, 0, []) (List.mem_of_getElem? (i := 39) rfl)) rfl ?_
                cases hyr : ym_rp (zy_so B ln) (zy_wo B ln) (zy_to B ln) (ylf ord B ln) p9 n9 od9 pi9 cd9 with
                | inl q9 =>
                  rw [hyr] at htr hst
                  obtain ⟨⟨tk8, nl8, od8, pi8, cd8, y1, y2⟩, y3⟩ := htr
                  exact hbx rnr Gr q9 tk8 nl8 od8 pi8 cd8 y1 y2 y3 (hrun _ ⟨1, by rw [ym_run_s (by show (1 : Nat) ≠ 4; decide), hst]; rfl⟩)
                | inr S9 =>
                  rw [hyr] at htr hst
                  obtain ⟨y1, y2⟩ := htr
                  have hrun9 : ∀ r, (∃ g, ym_run (zy_so B ln) (zy_wo B ln) (zy_to B ln) (ylf ord B ln) tb g S9 = some r) → ∃ g, ym_run (zy_so B ln) (zy_wo B ln) (zy_to B ln) (ylf ord B ln) tb g ((if tb = true then 0 else 1), tk, nl, 0, [], cd) = some r := fun r hr => by
                    obtain ⟨g, hg⟩ := hr
                    exact hrun r ⟨g + 1, by rw [ym_run_s (by show (1 : Nat) ≠ 4; decide), hst]; exact hg⟩
                  have hI9 := zDI_rp hI hyr
                  rw [y1]
                  obtain ⟨i1, i2, i3⟩ := hI9
                  obtain ⟨t8, p8, n8, od8, pi8, cd8⟩ := S9
                  have i2 : zy_fr B ln p9 + 1 ≤ zy_fr B ln p8 := i2
                  have i3 : t8 = 1 ∨ t8 = 3 := i3
                  have hp8 := zy_fr_le (B := B) (show p8 ≤ ln from i1.2.2.2.2.2)
                  exact ih t8 p8 n8 od8 pi8 cd8 Gr (by rw [if_neg (by decide)] at hm; split <;> omega) (by omega) (fun z => by omega) y2 i1 hwr (fun z => zDn_rp (hno z) hyr) hrun9
            · exfalso
              omega
      · show zp_J p l e R s m args below meth c Q w u [] 20 [(2, 0, 2), (0, 2, (a : Int)), (1, 0, p1)] [] u.1 G
        refine zp_load (pc := 20) hx hb (zd_X12_readExpression (20, .aload_n 0, 1, 0, []) (List.mem_of_getElem? (i := 12) rfl)) rfl (j := 1) rfl ?_
        refine zp_getf (n := 0) (pc := 21) hx hb hE hw (zd_X12_readExpression (21, .getfield 240, 3, 0, []) (List.mem_of_getElem? (i := 13) rfl)) (j := 37) rfl rfl rfl hp g19 ?_
        refine zp_if (pc := 24) (tgt := 76) hx hb (zd_X12_readExpression (24, .ifCond .ne 52, 3, 0, []) (List.mem_of_getElem? (i := 14) rfl)) rfl (fun (hcq31 : ¬ 0 = 0) => ?_) (fun (hcq31 : ¬ (¬ 0 = 0)) => ?_)
        · exfalso
          omega
        · refine zp_load (pc := 27) hx hb (zd_X12_readExpression (27, .iload_n 2, 1, 0, []) (List.mem_of_getElem? (i := 15) rfl)) rfl (j := 0) rfl ?_
          refine zp_const (pc := 28) hx hb (zd_X12_readExpression (28, .iconst 4, 1, 0, []) (List.mem_of_getElem? (i := 16) rfl)) rfl rfl ?_
          refine zp_icmp (pc := 29) (tgt := 76) hx hb (zd_X12_readExpression (29, .if_icmp .eq 47, 3, 0, []) (List.mem_of_getElem? (i := 17) rfl)) rfl (fun (hcq32 : 2 = 4) => ?_) (fun (hcq32 : ¬ (2 = 4)) => ?_)
          · exfalso
            omega
          · refine zp_load (pc := 32) hx hb (zd_X12_readExpression (32, .iload_n 2, 1, 0, []) (List.mem_of_getElem? (i := 18) rfl)) rfl (j := 0) rfl ?_
            refine zp_if (pc := 33) (tgt := 43) hx hb (zd_X12_readExpression (33, .ifCond .ne 10, 3, 0, []) (List.mem_of_getElem? (i := 19) rfl)) rfl (fun (hcq33 : ¬ 2 = 0) => ?_) (fun (hcq33 : ¬ (¬ 2 = 0)) => ?_)
            · refine zp_load (pc := 43) hx hb (zd_X12_readExpression (43, .iload_n 2, 1, 0, []) (List.mem_of_getElem? (i := 23) rfl)) rfl (j := 0) rfl ?_
              refine zp_const (pc := 44) hx hb (zd_X12_readExpression (44, .iconst 1, 1, 0, []) (List.mem_of_getElem? (i := 24) rfl)) rfl rfl ?_
              refine zp_icmp (pc := 45) (tgt := 55) hx hb (zd_X12_readExpression (45, .if_icmp .ne 10, 3, 0, []) (List.mem_of_getElem? (i := 25) rfl)) rfl (fun (hcq34 : ¬ 2 = 1) => ?_) (fun (hcq34 : ¬ (¬ 2 = 1)) => ?_)
              · refine zp_load (pc := 55) hx hb (zd_X12_readExpression (55, .iload_n 2, 1, 0, []) (List.mem_of_getElem? (i := 29) rfl)) rfl (j := 0) rfl ?_
                refine zp_const (pc := 56) hx hb (zd_X12_readExpression (56, .iconst 3, 1, 0, []) (List.mem_of_getElem? (i := 30) rfl)) rfl rfl ?_
                refine zp_icmp (pc := 57) (tgt := 68) hx hb (zd_X12_readExpression (57, .if_icmp .ne 11, 3, 0, []) (List.mem_of_getElem? (i := 31) rfl)) rfl (fun (hcq35 : ¬ 2 = 3) => ?_) (fun (hcq35 : ¬ (¬ 2 = 3)) => ?_)
                · refine zp_load (pc := 68) hx hb (zd_X12_readExpression (68, .aload_n 0, 1, 0, []) (List.mem_of_getElem? (i := 36) rfl)) rfl (j := 1) rfl ?_
                  refine zp_call (pc := 69) (how := 0) (idx := 365) (mi := 234) (S := []) hx hb hE hw heff hrm (zY_bt hW ord B ln p9 n9 od9 pi9 cd9) rfl (j := 36) rfl rfl (by decide +kernel) (zd_X12_readExpression (69, .invokevirtual 365, 3, 0, []) (List.mem_of_getElem? (i := 37) rfl)) [(a : Int)] rfl ⟨zp_o2 hp, trivial⟩ (Nat.le_of_ble_eq_true rfl) ⟨hG, hI, hwG⟩ (fun al hal rnr Pr Gr hextr hfrr hokr hcsr hpsir => ?_)
                  obtain rfl := List.mem_singleton.mp hal
                  have hrr := zp_int (hokr _ rfl).1
                  obtain ⟨rfl, htr⟩ := hpsir
                  have htr : zDr a Gr B ln rnr (ym_bt (zy_so B ln) (zy_wo B ln) (zy_to B ln) p9 n9 od9 pi9 cd9) := htr
                  have hwr := zDw_fr hwG hp hfrr rfl
                  have hst : ym_step (zy_so B ln) (zy_wo B ln) (zy_to B ln) (ylf ord B ln) tb (2, p9, n9, od9, pi9, cd9) = ym_bt (zy_so B ln) (zy_wo B ln) (zy_to B ln) p9 n9 od9 pi9 cd9 := rfl
                  refine zp_store (L' := [(2, 0, rnr), (0, 2, (a : Int)), (1, 0, p1)]) (pc := 72) hx hb hnL (zd_X12_readExpression (72, .istore_n 2, 1, 0, []) (List.mem_of_getElem? (i := 38) rfl)) rfl rfl rfl ?_
                  refine zp_goto (tgt := 20) (pc := 73) hx hb (zd_X12_readExpression (73, .goto (-53), 3, 0, []) (List.mem_of_getElem? (i := 39) rfl)) rfl ?_
                  cases hyr : ym_bt (zy_so B ln) (zy_wo B ln) (zy_to B ln) p9 n9 od9 pi9 cd9 with
                  | inl q9 =>
                    rw [hyr] at htr hst
                    obtain ⟨⟨tk8, nl8, od8, pi8, cd8, y1, y2⟩, y3⟩ := htr
                    exact hbx rnr Gr q9 tk8 nl8 od8 pi8 cd8 y1 y2 y3 (hrun _ ⟨1, by rw [ym_run_s (by show (2 : Nat) ≠ 4; decide), hst]; rfl⟩)
                  | inr S9 =>
                    rw [hyr] at htr hst
                    obtain ⟨y1, y2⟩ := htr
                    have hrun9 : ∀ r, (∃ g, ym_run (zy_so B ln) (zy_wo B ln) (zy_to B ln) (ylf ord B ln) tb g S9 = some r) → ∃ g, ym_run (zy_so B ln) (zy_wo B ln) (zy_to B ln) (ylf ord B ln) tb g ((if tb = true then 0 else 1), tk, nl, 0, [], cd) = some r := fun r hr => by
                      obtain ⟨g, hg⟩ := hr
                      exact hrun r ⟨g + 1, by rw [ym_run_s (by show (2 : Nat) ≠ 4; decide), hst]; exact hg⟩
                    have hI9 := zDI_bt gl hI hyr
                    rw [y1]
                    obtain ⟨i1, ⟨i2, i3⟩ | ⟨i2, i3⟩⟩ := hI9
                    · obtain ⟨t8, p8, n8, od8, pi8, cd8⟩ := S9
                      have i2 : zy_fr B ln p9 + 1 ≤ zy_fr B ln p8 := i2
                      have i3 : t8 = 0 ∨ t8 = 2 := i3
                      have hp8 := zy_fr_le (B := B) (show p8 ≤ ln from i1.2.2.2.2.2)
                      exact ih t8 p8 n8 od8 pi8 cd8 Gr (by rw [if_neg (by decide)] at hm; split <;> omega) (by omega) (fun _ => htt (Or.inr rfl)) y2 i1 hwr (fun z => by rw [htt (Or.inr rfl)] at z; cases z) hrun9
                    · subst i3
                      exact hdn Gr p9 n9 od9 pi9 cd9 y2 i1 (hrun9 _ ⟨1, ym_run_4 rfl⟩)
                · exfalso
                  omega
              · exfalso
                omega
            · exfalso
              omega
      · show zp_J p l e R s m args below meth c Q w u [] 20 [(2, 0, 3), (0, 2, (a : Int)), (1, 0, p1)] [] u.1 G
        refine zp_load (pc := 20) hx hb (zd_X12_readExpression (20, .aload_n 0, 1, 0, []) (List.mem_of_getElem? (i := 12) rfl)) rfl (j := 1) rfl ?_
        refine zp_getf (n := 0) (pc := 21) hx hb hE hw (zd_X12_readExpression (21, .getfield 240, 3, 0, []) (List.mem_of_getElem? (i := 13) rfl)) (j := 37) rfl rfl rfl hp g19 ?_
        refine zp_if (pc := 24) (tgt := 76) hx hb (zd_X12_readExpression (24, .ifCond .ne 52, 3, 0, []) (List.mem_of_getElem? (i := 14) rfl)) rfl (fun (hcq36 : ¬ 0 = 0) => ?_) (fun (hcq36 : ¬ (¬ 0 = 0)) => ?_)
        · exfalso
          omega
        · refine zp_load (pc := 27) hx hb (zd_X12_readExpression (27, .iload_n 2, 1, 0, []) (List.mem_of_getElem? (i := 15) rfl)) rfl (j := 0) rfl ?_
          refine zp_const (pc := 28) hx hb (zd_X12_readExpression (28, .iconst 4, 1, 0, []) (List.mem_of_getElem? (i := 16) rfl)) rfl rfl ?_
          refine zp_icmp (pc := 29) (tgt := 76) hx hb (zd_X12_readExpression (29, .if_icmp .eq 47, 3, 0, []) (List.mem_of_getElem? (i := 17) rfl)) rfl (fun (hcq37 : 3 = 4) => ?_) (fun (hcq37 : ¬ (3 = 4)) => ?_)
          · exfalso
            omega
          · refine zp_load (pc := 32) hx hb (zd_X12_readExpression (32, .iload_n 2, 1, 0, []) (List.mem_of_getElem? (i := 18) rfl)) rfl (j := 0) rfl ?_
            refine zp_if (pc := 33) (tgt := 43) hx hb (zd_X12_readExpression (33, .ifCond .ne 10, 3, 0, []) (List.mem_of_getElem? (i := 19) rfl)) rfl (fun (hcq38 : ¬ 3 = 0) => ?_) (fun (hcq38 : ¬ (¬ 3 = 0)) => ?_)
            · refine zp_load (pc := 43) hx hb (zd_X12_readExpression (43, .iload_n 2, 1, 0, []) (List.mem_of_getElem? (i := 23) rfl)) rfl (j := 0) rfl ?_
              refine zp_const (pc := 44) hx hb (zd_X12_readExpression (44, .iconst 1, 1, 0, []) (List.mem_of_getElem? (i := 24) rfl)) rfl rfl ?_
              refine zp_icmp (pc := 45) (tgt := 55) hx hb (zd_X12_readExpression (45, .if_icmp .ne 10, 3, 0, []) (List.mem_of_getElem? (i := 25) rfl)) rfl (fun (hcq39 : ¬ 3 = 1) => ?_) (fun (hcq39 : ¬ (¬ 3 = 1)) => ?_)
              · refine zp_load (pc := 55) hx hb (zd_X12_readExpression (55, .iload_n 2, 1, 0, []) (List.mem_of_getElem? (i := 29) rfl)) rfl (j := 0) rfl ?_
                refine zp_const (pc := 56) hx hb (zd_X12_readExpression (56, .iconst 3, 1, 0, []) (List.mem_of_getElem? (i := 30) rfl)) rfl rfl ?_
                refine zp_icmp (pc := 57) (tgt := 68) hx hb (zd_X12_readExpression (57, .if_icmp .ne 11, 3, 0, []) (List.mem_of_getElem? (i := 31) rfl)) rfl (fun (hcq40 : ¬ 3 = 3) => ?_) (fun (hcq40 : ¬ (¬ 3 = 3)) => ?_)
                · exfalso
                  omega
                · refine zp_load (pc := 60) hx hb (zd_X12_readExpression (60, .aload_n 0, 1, 0, []) (List.mem_of_getElem? (i := 32) rfl)) rfl (j := 1) rfl ?_
                  refine zp_load (pc := 61) hx hb (zd_X12_readExpression (61, .iload_n 1, 1, 0, []) (List.mem_of_getElem? (i := 33) rfl)) rfl (j := 2) rfl ?_
                  refine zp_call (pc := 62) (how := 0) (idx := 361) (mi := 229) (S := []) hx hb hE hw heff hrm (zY_bs hW ord B ln p9 n9 od9 pi9 cd9) rfl (j := 31) rfl rfl (by decide +kernel) (zd_X12_readExpression (62, .invokevirtual 361, 3, 0, []) (List.mem_of_getElem? (i := 34) rfl)) [(a : Int), p1] rfl ⟨zp_o2 hp, k1, trivial⟩ (Nat.le_of_ble_eq_true rfl) ⟨hG, hI, hwG⟩ (fun al hal rnr Pr Gr hextr hfrr hokr hcsr hpsir => ?_)
                  obtain rfl := List.mem_singleton.mp hal
                  have hrr := zp_int (hokr _ rfl).1
                  obtain ⟨rfl, htr⟩ := hpsir
                  have htr : zDr a Gr B ln rnr (ym_bs (zy_so B ln) (zy_wo B ln) (zy_to B ln) (decide (p1 = 1)) p9 n9 od9 pi9 cd9) := htr
                  rw [← htb] at htr
                  have hwr := zDw_fr hwG hp hfrr rfl
                  have hst : ym_step (zy_so B ln) (zy_wo B ln) (zy_to B ln) (ylf ord B ln) tb (3, p9, n9, od9, pi9, cd9) = ym_bs (zy_so B ln) (zy_wo B ln) (zy_to B ln) tb p9 n9 od9 pi9 cd9 := rfl
                  refine zp_goto (tgt := 72) (pc := 65) hx hb (zd_X12_readExpression (65, .goto 7, 3, 0, []) (List.mem_of_getElem? (i := 35) rfl)) rfl ?_
                  refine zp_store (L' := [(2, 0, rnr), (0, 2, (a : Int)), (1, 0, p1)]) (pc := 72) hx hb hnL (zd_X12_readExpression (72, .istore_n 2, 1, 0, []) (List.mem_of_getElem? (i := 38) rfl)) rfl rfl rfl ?_
                  refine zp_goto (tgt := 20) (pc := 73) hx hb (zd_X12_readExpression (73, .goto (-53), 3, 0, []) (List.mem_of_getElem? (i := 39) rfl)) rfl ?_
                  cases hyr : ym_bs (zy_so B ln) (zy_wo B ln) (zy_to B ln) tb p9 n9 od9 pi9 cd9 with
                  | inl q9 =>
                    rw [hyr] at htr hst
                    obtain ⟨⟨tk8, nl8, od8, pi8, cd8, y1, y2⟩, y3⟩ := htr
                    exact hbx rnr Gr q9 tk8 nl8 od8 pi8 cd8 y1 y2 y3 (hrun _ ⟨1, by rw [ym_run_s (by show (3 : Nat) ≠ 4; decide), hst]; rfl⟩)
                  | inr S9 =>
                    rw [hyr] at htr hst
                    obtain ⟨y1, y2⟩ := htr
                    have hrun9 : ∀ r, (∃ g, ym_run (zy_so B ln) (zy_wo B ln) (zy_to B ln) (ylf ord B ln) tb g S9 = some r) → ∃ g, ym_run (zy_so B ln) (zy_wo B ln) (zy_to B ln) (ylf ord B ln) tb g ((if tb = true then 0 else 1), tk, nl, 0, [], cd) = some r := fun r hr => by
                      obtain ⟨g, hg⟩ := hr
                      exact hrun r ⟨g + 1, by rw [ym_run_s (by show (3 : Nat) ≠ 4; decide), hst]; exact hg⟩
                    have hI9 := zDI_bs hI hyr
                    rw [y1]
                    obtain ⟨i1, ⟨i2, i3⟩ | ⟨i2, i3⟩ | ⟨i2, i3⟩⟩ := hI9
                    · obtain ⟨t8, p8, n8, od8, pi8, cd8⟩ := S9
                      have i2 : zy_fr B ln p9 + 1 ≤ zy_fr B ln p8 := i2
                      have i3 : t8 = 1 ∨ t8 = 3 := i3
                      have hp8 := zy_fr_le (B := B) (show p8 ≤ ln from i1.2.2.2.2.2)
                      exact ih t8 p8 n8 od8 pi8 cd8 Gr (by rw [if_pos rfl] at hm; split <;> omega) (by omega) (fun z => by omega) y2 i1 hwr (fun z => zDn_bs (hno z) hyr) hrun9
                    · subst i3
                      refine ih 2 p9 n9 od9 pi9 cd9 Gr (by rw [if_pos rfl] at hm; rw [if_neg (by decide)]; omega) (by decide) (fun _ => ?_) y2 i1 hwr hno hrun9
                      cases htbx : tb with
                      | true => rfl
                      | false => exact (ym_bs_t (zDn_in (fun e he => ⟨(hI.1.2.2 e he).2.1, hno htbx e he⟩)) htbx hyr).elim
                    · subst i3
                      exact hdn Gr p9 n9 od9 pi9 cd9 y2 i1 (hrun9 _ ⟨1, ym_run_4 rfl⟩)
              · exfalso
                omega
            · exfalso
              omega
  refine zp_load (pc := 0) hx hb (zd_X12_readExpression (0, .aload_n 0, 1, 0, []) (List.mem_of_getElem? (i := 0) rfl)) rfl (j := 0) rfl ?_
  refine zp_const (pc := 1) hx hb (zd_X12_readExpression (1, .iconst 0, 1, 0, []) (List.mem_of_getElem? (i := 1) rfl)) rfl rfl ?_
  refine zp_putf (pc := 2) hx hb hE hw heff (zd_X12_readExpression (2, .putfield 282, 3, 0, []) (List.mem_of_getElem? (i := 2) rfl)) (j := 47) rfl rfl rfl hp (zp_o0 (by decide) (by decide) (by decide) (by decide)) ?_
  refine zp_load (pc := 5) hx hb (zd_X12_readExpression (5, .aload_n 0, 1, 0, []) (List.mem_of_getElem? (i := 3) rfl)) rfl (j := 0) rfl ?_
  refine zp_const (pc := 6) hx hb (zd_X12_readExpression (6, .iconst 0, 1, 0, []) (List.mem_of_getElem? (i := 4) rfl)) rfl rfl ?_
  refine zp_putf (pc := 7) hx hb hE hw heff (zd_X12_readExpression (7, .putfield 304, 3, 0, []) (List.mem_of_getElem? (i := 5) rfl)) (j := 48) rfl rfl rfl hp (zp_o0 (by decide) (by decide) (by decide) (by decide)) ?_
  refine zp_load (pc := 10) hx hb (zd_X12_readExpression (10, .iload_n 1, 1, 0, []) (List.mem_of_getElem? (i := 6) rfl)) rfl (j := 1) rfl ?_
  refine zp_if (pc := 11) (tgt := 18) hx hb (zd_X12_readExpression (11, .ifCond .eq 7, 3, 0, []) (List.mem_of_getElem? (i := 7) rfl)) rfl (fun (hcq41 : p1 = 0) => ?_) (fun (hcq41 : ¬ (p1 = 0)) => ?_)
  · refine zp_const (pc := 18) hx hb (zd_X12_readExpression (18, .iconst 1, 1, 0, []) (List.mem_of_getElem? (i := 10) rfl)) rfl rfl ?_
    refine zp_store (L' := [(2, 0, 1), (0, 2, (a : Int)), (1, 0, p1)]) (pc := 19) hx hb hnL (zd_X12_readExpression (19, .istore_n 2, 1, 0, []) (List.mem_of_getElem? (i := 11) rfl)) rfl rfl rfl ?_
    have hD3 := zD_30 (v := 0) (od' := 0) (zD_29 (v := 0) (pi' := []) hD rfl trivial) rfl
    have htb2 : tb = false := by rw [htb]; exact decide_eq_false (by omega)
    refine loop 802 1 tk nl 0 [] cd _ (by split <;> omega) (by decide) (fun z => ?_) hD3 ⟨⟨?_, Nat.zero_le _, fun e he => absurd he List.not_mem_nil⟩, trivial, rfl, fun _ z => absurd (show ym_in ([] : List (Int × Int)) = 32 from z) (by decide), hn5, dt⟩ (zDw_s (zDw_s hw0 hp (by decide)) hp (by decide)) (fun _ e he => absurd he List.not_mem_nil) (fun r hr => ?_)
    · omega
    · show cd.2.2 + 0 ≤ zy_fr B ln tk
      omega
    · rw [htb2] at hr ⊢
      exact hr
  · refine zp_const (pc := 14) hx hb (zd_X12_readExpression (14, .iconst 0, 1, 0, []) (List.mem_of_getElem? (i := 8) rfl)) rfl rfl ?_
    refine zp_goto (tgt := 19) (pc := 15) hx hb (zd_X12_readExpression (15, .goto 4, 3, 0, []) (List.mem_of_getElem? (i := 9) rfl)) rfl ?_
    refine zp_store (L' := [(2, 0, 0), (0, 2, (a : Int)), (1, 0, p1)]) (pc := 19) hx hb hnL (zd_X12_readExpression (19, .istore_n 2, 1, 0, []) (List.mem_of_getElem? (i := 11) rfl)) rfl rfl rfl ?_
    have hD3 := zD_30 (v := 0) (od' := 0) (zD_29 (v := 0) (pi' := []) hD rfl trivial) rfl
    have htb2 : tb = true := by rw [htb]; exact decide_eq_true (by omega)
    refine loop 802 0 tk nl 0 [] cd _ (by split <;> omega) (by decide) (fun z => ?_) hD3 ⟨⟨?_, Nat.zero_le _, fun e he => absurd he List.not_mem_nil⟩, trivial, rfl, fun _ z => absurd (show ym_in ([] : List (Int × Int)) = 32 from z) (by decide), hn5, dt⟩ (zDw_s (zDw_s hw0 hp (by decide)) hp (by decide)) (fun _ e he => absurd he List.not_mem_nil) (fun r hr => ?_)
    · exact htb2
    · show cd.2.2 + 0 ≤ zy_fr B ln tk
      omega
    · rw [htb2] at hr ⊢
      exact hr
noncomputable def zφD_be (B : Nat → Int) (ln : Nat) : (Nat → Option Nat) → (Nat → Nat → Int) → List Int → Prop := fun _ G ps => G (zp_0 ps) 13 = (ln : Int) ∧ ln ≤ 400 ∧ (∀ j, zv G (zp_0 ps) 12 j = B j) ∧ ∀ j, 0 ≤ B j ∧ B j ≤ 255
noncomputable def zψD_be (B : Nat → Int) (ln : Nat) : (Nat → Option Nat) → (Nat → Nat → Int) → List Int → (Nat → Option Nat) → (Nat → Nat → Int) → Int → Prop := fun P G ps P' G' rn => P' = P ∧ (∀ k, k ≠ 14 → k ≠ 15 → k ≠ 16 → k ≠ 17 → k ≠ 18 → k ≠ 19 → G' (zp_0 ps) k = G (zp_0 ps) k) ∧ (∀ b j, b ≠ zp_0 ps → G' b j = G b j) ∧ G' (zp_0 ps) 14 = (zy_fr B ln 0 : Int) ∧ G' (zp_0 ps) 15 = (zy_to B ln 0 : Int) ∧ G' (zp_0 ps) 16 = (zy_so B ln 0 : Int) ∧ G' (zp_0 ps) 17 = zy_wo B ln 0 ∧ G' (zp_0 ps) 18 = -1 ∧ G' (zp_0 ps) 19 = 0
set_option maxHeartbeats 8000000 in
theorem zY_be {l : Launch} {w : zk_W} (hW : zh_W w) (B : Nat → Int) (ln : Nat) : zk_metX l w zt_dv zt_TB zK_be (zp_A (zφD_be B ln)) (zp_B (zψD_be B ln)) ∧ zk_cok w zt_TB zK_be := by
  refine zp_meth hW (pl := 1680) rfl (by decide +kernel) (fun p e R s m args below meth c Q u hx hb hE hQ hU5 heff hnL hok hφ => ?_)
  have hw := hW.1
  obtain ⟨p0, hps, k0⟩ := zp_ps1 hok
  obtain ⟨a, rfl, hp⟩ := zp_this k0
  have hrm : zk_Kr (zk_ev (zp_E zK_be)) = zk_Kr zK_be := rfl
  rw [hps] at hφ ⊢
  have hφ : zp_n u.2.1 a 13 = (ln : Int) ∧ ln ≤ 400 ∧ (∀ j, zv (zp_n u.2.1) a 12 j = B j) ∧ ∀ j, 0 ≤ B j ∧ B j ≤ 255 := hφ
  obtain ⟨d13, dl, d12, dB⟩ := hφ
  show zp_J p l e R s m args below meth c Q w u [] 0 [(0, 2, (a : Int))] [] u.1 (zp_n u.2.1)
  refine zp_load (pc := 0) hx hb (zd_X12_begin (0, .aload_n 0, 1, 0, []) (List.mem_of_getElem? (i := 0) rfl)) rfl (j := 0) rfl ?_
  refine zp_const (pc := 1) hx hb (zd_X12_begin (1, .iconst 0, 1, 0, []) (List.mem_of_getElem? (i := 1) rfl)) rfl rfl ?_
  refine zp_putf (pc := 2) hx hb hE hw heff (zd_X12_begin (2, .putfield 237, 3, 0, []) (List.mem_of_getElem? (i := 2) rfl)) (j := 33) rfl rfl rfl hp (zp_o0 (by decide) (by decide) (by decide) (by decide)) ?_
  refine zp_load (pc := 5) hx hb (zd_X12_begin (5, .aload_n 0, 1, 0, []) (List.mem_of_getElem? (i := 3) rfl)) rfl (j := 0) rfl ?_
  refine zp_const (pc := 6) hx hb (zd_X12_begin (6, .iconst 0, 1, 0, []) (List.mem_of_getElem? (i := 4) rfl)) rfl rfl ?_
  refine zp_putf (pc := 7) hx hb hE hw heff (zd_X12_begin (7, .putfield 240, 3, 0, []) (List.mem_of_getElem? (i := 5) rfl)) (j := 37) rfl rfl rfl hp (zp_o0 (by decide) (by decide) (by decide) (by decide)) ?_
  refine zp_load (pc := 10) hx hb (zd_X12_begin (10, .aload_n 0, 1, 0, []) (List.mem_of_getElem? (i := 6) rfl)) rfl (j := 0) rfl ?_
  refine zp_const (pc := 11) hx hb (zd_X12_begin (11, .iconst (-1), 1, 0, []) (List.mem_of_getElem? (i := 7) rfl)) rfl rfl ?_
  refine zp_putf (pc := 12) hx hb hE hw heff (zd_X12_begin (12, .putfield 38, 3, 0, []) (List.mem_of_getElem? (i := 8) rfl)) (j := 36) rfl rfl rfl hp (zp_o0 (by decide) (by decide) (by decide) (by decide)) ?_
  refine zp_load (pc := 15) hx hb (zd_X12_begin (15, .aload_n 0, 1, 0, []) (List.mem_of_getElem? (i := 9) rfl)) rfl (j := 0) rfl ?_
  have q13 : (zp_set (zp_set (zp_set (zp_n u.2.1) a 15 0) a 19 0) a 18 (-1)) a 13 = (ln : Int) := ((zp_set_ne (Or.inr (by decide))).trans ((zp_set_ne (Or.inr (by decide))).trans ((zp_set_ne (Or.inr (by decide))).trans d13)))
  have q15 : (zp_set (zp_set (zp_set (zp_n u.2.1) a 15 0) a 19 0) a 18 (-1)) a 15 = ((0 : Nat) : Int) := ((zp_set_ne (Or.inr (by decide))).trans ((zp_set_ne (Or.inr (by decide))).trans (zp_set_self)))
  have q12 : ∀ j, zv (zp_set (zp_set (zp_set (zp_n u.2.1) a 15 0) a 19 0) a 18 (-1)) a 12 j = B j := fun j => (zv_sf (by decide) (Or.inr (by decide))).trans ((zv_sf (by decide) (Or.inr (by decide))).trans ((zv_sf (by decide) (Or.inr (by decide))).trans (d12 j)))
  have q18 : (zp_set (zp_set (zp_set (zp_n u.2.1) a 15 0) a 19 0) a 18 (-1)) a 18 = -1 := zp_set_self
  have q19 : (zp_set (zp_set (zp_set (zp_n u.2.1) a 15 0) a 19 0) a 18 (-1)) a 19 = 0 := ((zp_set_ne (Or.inr (by decide))).trans (zp_set_self))
  refine zp_call (pc := 16) (how := 0) (idx := 244) (mi := 212) (S := []) hx hb hE hw heff hrm (zY_nx hW B ln 0) rfl (j := 14) rfl rfl (by decide +kernel) (zd_X12_begin (16, .invokevirtual 244, 3, 0, []) (List.mem_of_getElem? (i := 10) rfl)) [(a : Int)] rfl ⟨zp_o2 hp, trivial⟩ (Nat.le_of_ble_eq_true rfl) ⟨⟨q13, dl, Nat.zero_le _, q12⟩, dB, q15⟩ (fun al hal rnn Pn Gn hextn hfrn hokn hcsn hpsin => ?_)
  obtain rfl := List.mem_singleton.mp hal
  obtain ⟨rfl, htn⟩ := hpsin
  obtain ⟨x1, x2, x3, x4, x5, x6⟩ := htn
  refine zp_vret (pc := 19) hx hb hE hQ hU5 rfl (by decide) (zd_X12_begin (19, .return_, 1, 0, []) (List.mem_of_getElem? (i := 11) rfl)) (j := 0) rfl ?_
  rw [hps]
  refine ⟨rfl, fun k k1 k2 k3 k4 k5 k6 => ?_, fun b j hbj => ?_, x3, x4, x5, x6, (x1 18 (by decide) (by decide) (by decide) (by decide)).trans q18, (x1 19 (by decide) (by decide) (by decide) (by decide)).trans q19⟩
  · exact (x1 k k1 k2 k3 k4).trans ((zp_set_ne (Or.inr k5)).trans ((zp_set_ne (Or.inr k6)).trans (zp_set_ne (Or.inr k2))))
  · have hbj : b ≠ a := hbj
    exact (x2 b j hbj).trans ((zp_set_ne (Or.inl hbj)).trans ((zp_set_ne (Or.inl hbj)).trans (zp_set_ne (Or.inl hbj))))
noncomputable def zφD_bx (B : Nat → Int) (ln : Nat) : (Nat → Option Nat) → (Nat → Nat → Int) → List Int → Prop := fun P G ps => G (zp_0 ps) 13 = (ln : Int) ∧ ln ≤ 400 ∧ (∀ j, zv G (zp_0 ps) 12 j = B j) ∧ (∀ j, 0 ≤ B j ∧ B j ≤ 255) ∧ 0 ≤ G (zp_0 ps) 30
noncomputable def zψD_bx (B : Nat → Int) (ln : Nat) : (Nat → Option Nat) → (Nat → Nat → Int) → List Int → (Nat → Option Nat) → (Nat → Nat → Int) → Int → Prop := fun P G ps P' G' rn => P' = P ∧ (∀ k, k ≠ 14 → k ≠ 15 → k ≠ 16 → k ≠ 17 → k ≠ 18 → k ≠ 19 → k ≠ 20 → k ≠ 21 → k ≠ 23 → k ≠ 26 → G' (zp_0 ps) k = G (zp_0 ps) k) ∧ (∀ b j, b ≠ zp_0 ps → G' b j = G b j) ∧ G' (zp_0 ps) 18 = -1 ∧ G' (zp_0 ps) 20 = ps.getD 1 0 ∧ G' (zp_0 ps) 21 = 0 ∧ ∃ (od : Nat) (pi : List (Int × Int)), zD (zp_0 ps) G' 0 B ln 0 0 od pi (fun j => zv G (zp_0 ps) 24 j, fun j => zv G (zp_0 ps) 25 j, 0)
set_option maxHeartbeats 8000000 in
theorem zY_bx {l : Launch} {w : zk_W} (hW : zh_W w) (B : Nat → Int) (ln : Nat) : zk_metX l w zt_dv zt_TB zK_bx (zp_A (zφD_bx B ln)) (zp_B (zψD_bx B ln)) ∧ zk_cok w zt_TB zK_bx := by
  refine zp_meth hW (pl := 1676) rfl (by decide +kernel) (fun p e R s m args below meth c Q u hx hb hE hQ hU5 heff hnL hok hφ => ?_)
  have hw := hW.1
  obtain ⟨p0, p1, hps, k0, k1⟩ := zp_ps2 hok
  obtain ⟨a, rfl, hp⟩ := zp_this k0
  have hrm : zk_Kr (zk_ev (zp_E zK_bx)) = zk_Kr zK_bx := rfl
  rw [hps] at hφ ⊢
  have hi1 := zp_int k1
  have hφ : zp_n u.2.1 a 13 = (ln : Int) ∧ ln ≤ 400 ∧ (∀ j, zv (zp_n u.2.1) a 12 j = B j) ∧ (∀ j, 0 ≤ B j ∧ B j ≤ 255) ∧ 0 ≤ zp_n u.2.1 a 30 := hφ
  obtain ⟨d13, dl, d12, dB, d30⟩ := hφ
  show zp_J p l e R s m args below meth c Q w u [] 0 [(0, 2, (a : Int)), (1, 0, p1)] [] u.1 (zp_n u.2.1)
  refine zp_kn (k := 29) (a := a) hw (show zp_fd 92 29 = some (12, 0, 0, 0, 400) from rfl) rfl hp (fun hk29 => ?_)
  obtain ⟨pd, hpd⟩ := zp_nat (zp_int hk29).1
  have hpdb := zp_int hk29
  rw [hpd] at hpdb
  refine zp_load (pc := 0) hx hb (zd_X12_beginText (0, .aload_n 0, 1, 0, []) (List.mem_of_getElem? (i := 0) rfl)) rfl (j := 0) rfl ?_
  refine zp_load (pc := 1) hx hb (zd_X12_beginText (1, .iload_n 1, 1, 0, []) (List.mem_of_getElem? (i := 1) rfl)) rfl (j := 1) rfl ?_
  refine zp_putf (pc := 2) hx hb hE hw heff (zd_X12_beginText (2, .putfield 319, 3, 0, []) (List.mem_of_getElem? (i := 2) rfl)) (j := 38) rfl rfl rfl hp (zp_o0 (by omega) (by omega) (by omega) (by omega)) ?_
  refine zp_load (pc := 5) hx hb (zd_X12_beginText (5, .aload_n 0, 1, 0, []) (List.mem_of_getElem? (i := 3) rfl)) rfl (j := 0) rfl ?_
  refine zp_call (pc := 6) (how := 0) (idx := 368) (mi := 211) (S := []) hx hb hE hw heff hrm (zY_be hW B ln) rfl (j := 13) rfl rfl (by decide +kernel) (zd_X12_beginText (6, .invokevirtual 368, 3, 0, []) (List.mem_of_getElem? (i := 4) rfl)) [(a : Int)] rfl ⟨zp_o2 hp, trivial⟩ (Nat.le_of_ble_eq_true rfl) ⟨(zp_set_ne (Or.inr (by decide))).trans d13, dl, fun j => (zv_sf (by decide) (Or.inr (by decide))).trans (d12 j), dB⟩ (fun al hal rnn Pn Gn hextn hfrn hokn hcsn hpsin => ?_)
  obtain rfl := List.mem_singleton.mp hal
  obtain ⟨rfl, htn⟩ := hpsin
  obtain ⟨x1, x2, x3, x4, x5, x6, x7, x8⟩ := htn
  refine zp_load (pc := 9) hx hb (zd_X12_beginText (9, .aload_n 0, 1, 0, []) (List.mem_of_getElem? (i := 5) rfl)) rfl (j := 0) rfl ?_
  refine zp_const (pc := 10) hx hb (zd_X12_beginText (10, .iconst 0, 1, 0, []) (List.mem_of_getElem? (i := 6) rfl)) rfl rfl ?_
  refine zp_putf (pc := 11) hx hb hE hw heff (zd_X12_beginText (11, .putfield 371, 3, 0, []) (List.mem_of_getElem? (i := 7) rfl)) (j := 39) rfl rfl rfl hp (zp_o0 (by decide) (by decide) (by decide) (by decide)) ?_
  refine zp_load (pc := 14) hx hb (zd_X12_beginText (14, .aload_n 0, 1, 0, []) (List.mem_of_getElem? (i := 8) rfl)) rfl (j := 0) rfl ?_
  refine zp_const (pc := 15) hx hb (zd_X12_beginText (15, .iconst 0, 1, 0, []) (List.mem_of_getElem? (i := 9) rfl)) rfl rfl ?_
  refine zp_putf (pc := 16) hx hb hE hw heff (zd_X12_beginText (16, .putfield 279, 3, 0, []) (List.mem_of_getElem? (i := 10) rfl)) (j := 41) rfl rfl rfl hp (zp_o0 (by decide) (by decide) (by decide) (by decide)) ?_
  refine zp_load (pc := 19) hx hb (zd_X12_beginText (19, .aload_n 0, 1, 0, []) (List.mem_of_getElem? (i := 11) rfl)) rfl (j := 0) rfl ?_
  refine zp_const (pc := 20) hx hb (zd_X12_beginText (20, .iconst 0, 1, 0, []) (List.mem_of_getElem? (i := 12) rfl)) rfl rfl ?_
  refine zp_putf (pc := 21) hx hb hE hw heff (zd_X12_beginText (21, .putfield 310, 3, 0, []) (List.mem_of_getElem? (i := 13) rfl)) (j := 44) rfl rfl rfl hp (zp_o0 (by decide) (by decide) (by decide) (by decide)) ?_
  have f3 : ∀ k, k ≠ 21 → k ≠ 23 → k ≠ 26 → (zp_set (zp_set (zp_set Gn a 21 0) a 23 0) a 26 0) a k = Gn a k := fun k y1 y2 y3 => (zp_set_ne (Or.inr y3)).trans ((zp_set_ne (Or.inr y2)).trans (zp_set_ne (Or.inr y1)))
  have f4 : ∀ b j, b ≠ a → (zp_set (zp_set (zp_set Gn a 21 0) a 23 0) a 26 0) b j = Gn b j := fun b j y => (zp_set_ne (Or.inl y)).trans ((zp_set_ne (Or.inl y)).trans (zp_set_ne (Or.inl y)))
  have fk : ∀ k, k ≠ 14 → k ≠ 15 → k ≠ 16 → k ≠ 17 → k ≠ 18 → k ≠ 19 → k ≠ 20 → k ≠ 21 → k ≠ 23 → k ≠ 26 → (zp_set (zp_set (zp_set Gn a 21 0) a 23 0) a 26 0) a k = zp_n u.2.1 a k := fun k y1 y2 y3 y4 y5 y6 y7 y8 y9 y0 => (f3 k y8 y9 y0).trans ((x1 k y1 y2 y3 y4 y5 y6).trans (zp_set_ne (Or.inr y7)))
  have fb : ∀ b j, b ≠ a → (zp_set (zp_set (zp_set Gn a 21 0) a 23 0) a 26 0) b j = zp_n u.2.1 b j := fun b j y => (f4 b j y).trans ((x2 b j y).trans (zp_set_ne (Or.inl y)))
  have fv : ∀ k, zDv k = true → ∀ j, zv (zp_set (zp_set (zp_set Gn a 21 0) a 23 0) a 26 0) a k j = zv (zp_n u.2.1) a k j := fun k hk j => by
    have hk9 : k = 12 ∨ k = 24 ∨ k = 25 ∨ k = 27 ∨ k = 28 := by
      unfold zDv at hk
      simp only [Bool.or_eq_true, beq_iff_eq] at hk
      omega
    have e : (zp_set (zp_set (zp_set Gn a 21 0) a 23 0) a 26 0) a k = zp_n u.2.1 a k := by
      rcases hk9 with rfl | rfl | rfl | rfl | rfl <;> exact fk _ (by decide) (by decide) (by decide) (by decide) (by decide) (by decide) (by decide) (by decide) (by decide) (by decide)
    unfold zv
    rw [e]
    by_cases y : (zp_n u.2.1 a k).toNat = a
    · rw [y]
      exact fk _ (by omega) (by omega) (by omega) (by omega) (by omega) (by omega) (by omega) (by omega) (by omega) (by omega)
    · exact fb _ _ y
  obtain ⟨od, hod⟩ := zp_nat d30
  obtain ⟨pi, hpi1, hpi2⟩ := zDp_ex (pl := zv (zp_n u.2.1) a 27) (pa := zv (zp_n u.2.1) a 28) pd
  refine zp_vret (pc := 24) hx hb hE hQ hU5 rfl (by decide) (zd_X12_beginText (24, .return_, 1, 0, []) (List.mem_of_getElem? (i := 14) rfl)) (j := 0) rfl ?_
  rw [hps]
  refine ⟨rfl, fk, fb, (f3 18 (by decide) (by decide) (by decide)).trans x7, (f3 20 (by decide) (by decide) (by decide)).trans ((x1 20 (by decide) (by decide) (by decide) (by decide) (by decide) (by decide)).trans zp_set_self), ((zp_set_ne (Or.inr (by decide))).trans ((zp_set_ne (Or.inr (by decide))).trans (zp_set_self))), od, pi, ?_⟩
  show zD a (zp_set (zp_set (zp_set Gn a 21 0) a 23 0) a 26 0) 0 B ln 0 0 od pi _
  exact ⟨⟨(fk 13 (by decide) (by decide) (by decide) (by decide) (by decide) (by decide) (by decide) (by decide) (by decide) (by decide)).trans d13, dl, Nat.zero_le _, fun j => (fv 12 rfl j).trans (d12 j), dB⟩, ⟨(f3 14 (by decide) (by decide) (by decide)).trans x3, (f3 15 (by decide) (by decide) (by decide)).trans x4, (f3 16 (by decide) (by decide) (by decide)).trans x5, (f3 17 (by decide) (by decide) (by decide)).trans x6⟩, ⟨(f3 19 (by decide) (by decide) (by decide)).trans x8, fun _ => (f3 18 (by decide) (by decide) (by decide)).trans x7⟩, ⟨((zp_set_ne (Or.inr (by decide))).trans (zp_set_self)), fun j => fv 24 rfl j, fun j => fv 25 rfl j⟩, zp_set_self, ⟨(fk 29 (by decide) (by decide) (by decide) (by decide) (by decide) (by decide) (by decide) (by decide) (by decide) (by decide)).trans (hpd.trans (by rw [hpi1])), zDp_c (fun i _ => ⟨fv 27 rfl i, fv 28 rfl i⟩) hpi2⟩, (fk 30 (by decide) (by decide) (by decide) (by decide) (by decide) (by decide) (by decide) (by decide) (by decide) (by decide)).trans hod⟩
noncomputable def zφD_et (bad : Int) (B : Nat → Int) (ln tk nl od : Nat) (pi : List (Int × Int)) (cd : yC) : (Nat → Option Nat) → (Nat → Nat → Int) → List Int → Prop := fun _ G ps => zD (zp_0 ps) G bad B ln tk nl od pi cd
noncomputable def zψD_et (bad : Int) (B : Nat → Int) (ln tk nl od : Nat) (pi : List (Int × Int)) (cd : yC) : (Nat → Option Nat) → (Nat → Nat → Int) → List Int → (Nat → Option Nat) → (Nat → Nat → Int) → Int → Prop := fun P G ps P' G' rn => P' = P ∧ G' (zp_0 ps) 20 = 0 ∧ G' (zp_0 ps) 13 = 0 ∧ G' (zp_0 ps) 30 = (od : Int) ∧ (bad = 1 → G' (zp_0 ps) 19 = 1 ∧ G' (zp_0 ps) 18 = G (zp_0 ps) 18) ∧ (bad = 0 → (zy_so B ln tk = 0 → G' (zp_0 ps) 19 = 0 ∧ G' (zp_0 ps) 18 = G (zp_0 ps) 18) ∧ (zy_so B ln tk ≠ 0 → G' (zp_0 ps) 19 = 1 ∧ G' (zp_0 ps) 18 = (zy_fr B ln tk : Int)))
set_option maxHeartbeats 8000000 in
theorem zY_et {l : Launch} {w : zk_W} (hW : zh_W w) (bad : Int) (B : Nat → Int) (ln tk nl od : Nat) (pi : List (Int × Int)) (cd : yC) : zk_metX l w zt_dv zt_TB zK_et (zp_A (zφD_et bad B ln tk nl od pi cd)) (zp_B (zψD_et bad B ln tk nl od pi cd)) ∧ zk_cok w zt_TB zK_et := by
  refine zp_meth hW (pl := 1788) rfl (by decide +kernel) (fun p e R s m args below meth c Q u hx hb hE hQ hU5 heff hnL hok hφ => ?_)
  have hw := hW.1
  obtain ⟨p0, hps, k0⟩ := zp_ps1 hok
  obtain ⟨a, rfl, hp⟩ := zp_this k0
  have hrm : zk_Kr (zk_ev (zp_E zK_et)) = zk_Kr zK_et := rfl
  rw [hps] at hφ ⊢
  have hφ : zD a (zp_n u.2.1) bad B ln tk nl od pi cd := hφ
  have hD := hφ
  obtain ⟨⟨d13, dl, dt, d12, dB⟩, ⟨d14, d15, d16, d17⟩, ⟨d19, d18⟩, ⟨d23, d24, d25⟩, d26, ⟨d29, dp⟩, d30⟩ := hφ
  show zp_J p l e R s m args below meth c Q w u [] 0 [(0, 2, (a : Int))] [] u.1 (zp_n u.2.1)
  obtain ⟨so, hso⟩ : ∃ x : Nat, x = zy_so B ln tk := ⟨_, rfl⟩
  rw [← hso] at d16
  refine zp_kn (k := 19) (a := a) hw (show zp_fd 92 19 = some (12, 0, 0, 0, 1) from rfl) rfl hp (fun hk19 => ?_)
  have hx19 := zp_int hk19
  rw [d19] at hx19
  refine zp_load (pc := 0) hx hb (zd_X12_endText (0, .aload_n 0, 1, 0, []) (List.mem_of_getElem? (i := 0) rfl)) rfl (j := 0) rfl ?_
  refine zp_getf (n := bad) (pc := 1) hx hb hE hw (zd_X12_endText (1, .getfield 240, 3, 0, []) (List.mem_of_getElem? (i := 1) rfl)) (j := 37) rfl rfl rfl hp d19 ?_
  refine zp_if (pc := 4) (tgt := 19) hx hb (zd_X12_endText (4, .ifCond .ne 15, 3, 0, []) (List.mem_of_getElem? (i := 2) rfl)) rfl (fun (hcq42 : ¬ bad = 0) => ?_) (fun (hcq42 : ¬ (¬ bad = 0)) => ?_)
  · refine zp_load (pc := 19) hx hb (zd_X12_endText (19, .aload_n 0, 1, 0, []) (List.mem_of_getElem? (i := 9) rfl)) rfl (j := 0) rfl ?_
    refine zp_const (pc := 20) hx hb (zd_X12_endText (20, .iconst 0, 1, 0, []) (List.mem_of_getElem? (i := 10) rfl)) rfl rfl ?_
    refine zp_putf (pc := 21) hx hb hE hw heff (zd_X12_endText (21, .putfield 319, 3, 0, []) (List.mem_of_getElem? (i := 11) rfl)) (j := 38) rfl rfl rfl hp (zp_o0 (by decide) (by decide) (by decide) (by decide)) ?_
    refine zp_load (pc := 24) hx hb (zd_X12_endText (24, .aload_n 0, 1, 0, []) (List.mem_of_getElem? (i := 12) rfl)) rfl (j := 0) rfl ?_
    refine zp_const (pc := 25) hx hb (zd_X12_endText (25, .iconst 0, 1, 0, []) (List.mem_of_getElem? (i := 13) rfl)) rfl rfl ?_
    refine zp_putf (pc := 26) hx hb hE hw heff (zd_X12_endText (26, .putfield 228, 3, 0, []) (List.mem_of_getElem? (i := 14) rfl)) (j := 31) rfl rfl rfl hp (zp_o0 (by decide) (by decide) (by decide) (by decide)) ?_
    refine zp_vret (pc := 29) hx hb hE hQ hU5 rfl (by decide) (zd_X12_endText (29, .return_, 1, 0, []) (List.mem_of_getElem? (i := 15) rfl)) (j := 0) rfl ?_
    rw [hps]
    exact ⟨rfl, ((zp_set_ne (Or.inr (by decide))).trans (zp_set_self)), zp_set_self, ((zp_set_ne (Or.inr (by decide))).trans (zp_set_ne (Or.inr (by decide)))).trans d30, fun z => ⟨((zp_set_ne (Or.inr (by decide))).trans (zp_set_ne (Or.inr (by decide)))).trans (d19.trans z), (zp_set_ne (Or.inr (by decide))).trans (zp_set_ne (Or.inr (by decide)))⟩, fun z => ⟨fun _ => ⟨((zp_set_ne (Or.inr (by decide))).trans (zp_set_ne (Or.inr (by decide)))).trans (d19.trans z), (zp_set_ne (Or.inr (by decide))).trans (zp_set_ne (Or.inr (by decide)))⟩, fun z2 => absurd z2 (by omega)⟩⟩
  · refine zp_load (pc := 7) hx hb (zd_X12_endText (7, .aload_n 0, 1, 0, []) (List.mem_of_getElem? (i := 3) rfl)) rfl (j := 0) rfl ?_
    refine zp_getf (n := (so : Int)) (pc := 8) hx hb hE hw (zd_X12_endText (8, .getfield 260, 3, 0, []) (List.mem_of_getElem? (i := 4) rfl)) (j := 34) rfl rfl rfl hp d16 ?_
    refine zp_if (pc := 11) (tgt := 19) hx hb (zd_X12_endText (11, .ifCond .eq 8, 3, 0, []) (List.mem_of_getElem? (i := 5) rfl)) rfl (fun (hcq43 : (so : Int) = 0) => ?_) (fun (hcq43 : ¬ ((so : Int) = 0)) => ?_)
    · refine zp_load (pc := 19) hx hb (zd_X12_endText (19, .aload_n 0, 1, 0, []) (List.mem_of_getElem? (i := 9) rfl)) rfl (j := 0) rfl ?_
      refine zp_const (pc := 20) hx hb (zd_X12_endText (20, .iconst 0, 1, 0, []) (List.mem_of_getElem? (i := 10) rfl)) rfl rfl ?_
      refine zp_putf (pc := 21) hx hb hE hw heff (zd_X12_endText (21, .putfield 319, 3, 0, []) (List.mem_of_getElem? (i := 11) rfl)) (j := 38) rfl rfl rfl hp (zp_o0 (by decide) (by decide) (by decide) (by decide)) ?_
      refine zp_load (pc := 24) hx hb (zd_X12_endText (24, .aload_n 0, 1, 0, []) (List.mem_of_getElem? (i := 12) rfl)) rfl (j := 0) rfl ?_
      refine zp_const (pc := 25) hx hb (zd_X12_endText (25, .iconst 0, 1, 0, []) (List.mem_of_getElem? (i := 13) rfl)) rfl rfl ?_
      refine zp_putf (pc := 26) hx hb hE hw heff (zd_X12_endText (26, .putfield 228, 3, 0, []) (List.mem_of_getElem? (i := 14) rfl)) (j := 31) rfl rfl rfl hp (zp_o0 (by decide) (by decide) (by decide) (by decide)) ?_
      refine zp_vret (pc := 29) hx hb hE hQ hU5 rfl (by decide) (zd_X12_endText (29, .return_, 1, 0, []) (List.mem_of_getElem? (i := 15) rfl)) (j := 0) rfl ?_
      rw [hps]
      exact ⟨rfl, ((zp_set_ne (Or.inr (by decide))).trans (zp_set_self)), zp_set_self, ((zp_set_ne (Or.inr (by decide))).trans (zp_set_ne (Or.inr (by decide)))).trans d30, fun z => ⟨((zp_set_ne (Or.inr (by decide))).trans (zp_set_ne (Or.inr (by decide)))).trans (d19.trans z), (zp_set_ne (Or.inr (by decide))).trans (zp_set_ne (Or.inr (by decide)))⟩, fun z => ⟨fun _ => ⟨((zp_set_ne (Or.inr (by decide))).trans (zp_set_ne (Or.inr (by decide)))).trans (d19.trans z), (zp_set_ne (Or.inr (by decide))).trans (zp_set_ne (Or.inr (by decide)))⟩, fun z2 => absurd z2 (by omega)⟩⟩
    · refine zp_load (pc := 14) hx hb (zd_X12_endText (14, .aload_n 0, 1, 0, []) (List.mem_of_getElem? (i := 6) rfl)) rfl (j := 0) rfl ?_
      refine zp_const (pc := 15) hx hb (zd_X12_endText (15, .iconst 0, 1, 0, []) (List.mem_of_getElem? (i := 7) rfl)) rfl rfl ?_
      have hb0 : bad = 0 := by omega
      subst hb0
      refine zp_call (pc := 16) (how := 0) (idx := 275) (mi := 217) (S := []) hx hb hE hw heff hrm (zY_mu hW B ln tk nl od pi cd) rfl (j := 19) rfl rfl (by decide +kernel) (zd_X12_endText (16, .invokevirtual 275, 3, 0, []) (List.mem_of_getElem? (i := 8) rfl)) [(a : Int), 0] rfl ⟨zp_o2 hp, zp_o0 (by decide) (by decide) (by decide) (by decide), trivial⟩ (Nat.le_of_ble_eq_true rfl) hD (fun al hal rnm Pm Gm hextm hfrm hokm hcsm hpsim => ?_)
      obtain rfl := List.mem_singleton.mp hal
      obtain ⟨rfl, htm⟩ := hpsim
      have htm : zD a Gm 1 B ln tk nl od pi cd ∧ Gm a 18 = (zy_fr B ln tk : Int) := htm.1 (show (0 : Int) ≠ 1 by decide)
      have htm2 := htm.1
      obtain ⟨⟨m13, ml, mt, m12, mB⟩, ⟨m14, m15, m16, m17⟩, ⟨m19, m18⟩, ⟨m23, m24, m25⟩, m26, ⟨m29, mp⟩, m30⟩ := htm2
      refine zp_load (pc := 19) hx hb (zd_X12_endText (19, .aload_n 0, 1, 0, []) (List.mem_of_getElem? (i := 9) rfl)) rfl (j := 0) rfl ?_
      refine zp_const (pc := 20) hx hb (zd_X12_endText (20, .iconst 0, 1, 0, []) (List.mem_of_getElem? (i := 10) rfl)) rfl rfl ?_
      refine zp_putf (pc := 21) hx hb hE hw heff (zd_X12_endText (21, .putfield 319, 3, 0, []) (List.mem_of_getElem? (i := 11) rfl)) (j := 38) rfl rfl rfl hp (zp_o0 (by decide) (by decide) (by decide) (by decide)) ?_
      refine zp_load (pc := 24) hx hb (zd_X12_endText (24, .aload_n 0, 1, 0, []) (List.mem_of_getElem? (i := 12) rfl)) rfl (j := 0) rfl ?_
      refine zp_const (pc := 25) hx hb (zd_X12_endText (25, .iconst 0, 1, 0, []) (List.mem_of_getElem? (i := 13) rfl)) rfl rfl ?_
      refine zp_putf (pc := 26) hx hb hE hw heff (zd_X12_endText (26, .putfield 228, 3, 0, []) (List.mem_of_getElem? (i := 14) rfl)) (j := 31) rfl rfl rfl hp (zp_o0 (by decide) (by decide) (by decide) (by decide)) ?_
      refine zp_vret (pc := 29) hx hb hE hQ hU5 rfl (by decide) (zd_X12_endText (29, .return_, 1, 0, []) (List.mem_of_getElem? (i := 15) rfl)) (j := 0) rfl ?_
      rw [hps]
      exact ⟨rfl, ((zp_set_ne (Or.inr (by decide))).trans (zp_set_self)), zp_set_self, ((zp_set_ne (Or.inr (by decide))).trans (zp_set_ne (Or.inr (by decide)))).trans m30, fun z => absurd z (by decide), fun _ => ⟨fun z => absurd z (by omega), fun _ => ⟨((zp_set_ne (Or.inr (by decide))).trans (zp_set_ne (Or.inr (by decide)))).trans m19, ((zp_set_ne (Or.inr (by decide))).trans (zp_set_ne (Or.inr (by decide)))).trans htm.2⟩⟩⟩
